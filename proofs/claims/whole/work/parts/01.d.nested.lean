set_option maxRecDepth 20000 in
theorem ggX0_init_X3_init : GoodIn wsX0_init wsX3_init := goodIn_r _ [4, 5, 6, 7, 8, 9, 10, 11, 12, 13, 14, 15, 16, 17, 18, 19, 20, 21, 22, 23, 24, 25, 26, 27] (by decide +kernel) (by decide +kernel)
set_option maxRecDepth 20000 in
theorem gX0_init_X3_init : GoodIn wsX0_init (wsX3_init) := ggX0_init_X3_init
theorem dX0_init_0 : decode cX0_init 0 = .ok (.aload_n 0, 1) := by decide +kernel
theorem dX0_init_1 : decode cX0_init 1 = .ok (.iload_n 1, 1) := by decide +kernel
theorem dX0_init_2 : decode cX0_init 2 = .ok (.iload_n 2, 1) := by decide +kernel
theorem dX0_init_3 : decode cX0_init 3 = .ok (.iload_n 3, 1) := by decide +kernel
theorem dX0_init_4 : decode cX0_init 4 = .ok (.invokespecial 3, 3) := by decide +kernel
theorem dX0_init_7 : decode cX0_init 7 = .ok (.return_, 1) := by decide +kernel
theorem dX0_kind_0 : decode cX0_kind 0 = .ok (.iconst 1, 1) := by decide +kernel
theorem dX0_kind_1 : decode cX0_kind 1 = .ok (.ireturn, 1) := by decide +kernel
set_option maxRecDepth 20000 in
theorem ggX0_coldIn_X3_coldIn : GoodIn wsX0_coldIn wsX3_coldIn := goodIn_r _ [10] (by decide +kernel) (by decide +kernel)
set_option maxRecDepth 20000 in
theorem gX0_coldIn_X3_coldIn_s9 : GoodIn wsX0_coldIn (va_wsSU RX0 9 yX3_coldIn wsX3_coldIn) := goodIn_app (goodIn_of _ (by decide +kernel)) ggX0_coldIn_X3_coldIn
theorem dX0_coldIn_0 : decode cX0_coldIn 0 = .ok (.iconst 1, 1) := by decide +kernel
theorem dX0_coldIn_1 : decode cX0_coldIn 1 = .ok (.aload_n 0, 1) := by decide +kernel
theorem dX0_coldIn_2 : decode cX0_coldIn 2 = .ok (.iload_n 1, 1) := by decide +kernel
theorem dX0_coldIn_3 : decode cX0_coldIn 3 = .ok (.iload_n 2, 1) := by decide +kernel
theorem dX0_coldIn_4 : decode cX0_coldIn 4 = .ok (.invokespecial 9, 3) := by decide +kernel
theorem dX0_coldIn_7 : decode cX0_coldIn 7 = .ok (.iconst 2, 1) := by decide +kernel
theorem dX0_coldIn_8 : decode cX0_coldIn 8 = .ok (.isub, 1) := by decide +kernel
theorem dX0_coldIn_9 : decode cX0_coldIn 9 = .ok (.invokestatic 13, 3) := by decide +kernel
theorem dX0_coldIn_12 : decode cX0_coldIn 12 = .ok (.ireturn, 1) := by decide +kernel
set_option maxRecDepth 20000 in
theorem ggX0_heft_X3_heft : GoodIn wsX0_heft wsX3_heft := goodIn_r _ [6, 7, 8, 9, 10, 11, 12, 13, 14, 15, 16, 17, 18, 19, 20, 21, 22, 23, 24] (by decide +kernel) (by decide +kernel)
set_option maxRecDepth 20000 in
theorem gX0_heft_X3_heft_s18 : GoodIn wsX0_heft (va_wsSU RX0 18 yX3_heft wsX3_heft) := goodIn_app (goodIn_of _ (by decide +kernel)) ggX0_heft_X3_heft
theorem dX0_heft_0 : decode cX0_heft 0 = .ok (.aload_n 0, 1) := by decide +kernel
theorem dX0_heft_1 : decode cX0_heft 1 = .ok (.invokespecial 18, 3) := by decide +kernel
theorem dX0_heft_4 : decode cX0_heft 4 = .ok (.bipush 100, 2) := by decide +kernel
theorem dX0_heft_6 : decode cX0_heft 6 = .ok (.iadd, 1) := by decide +kernel
theorem dX0_heft_7 : decode cX0_heft 7 = .ok (.ireturn, 1) := by decide +kernel
theorem dX0_fail_0 : decode cX0_fail 0 = .ok (.new 22, 3) := by decide +kernel
theorem dX0_fail_3 : decode cX0_fail 3 = .ok (.dup, 1) := by decide +kernel
theorem dX0_fail_4 : decode cX0_fail 4 = .ok (.ldc 24, 2) := by decide +kernel
theorem dX0_fail_6 : decode cX0_fail 6 = .ok (.invokespecial 26, 3) := by decide +kernel
theorem dX0_fail_9 : decode cX0_fail 9 = .ok (.athrow, 1) := by decide +kernel
theorem dX2_init_0 : decode cX2_init 0 = .ok (.aload_n 0, 1) := by decide +kernel
theorem dX2_init_1 : decode cX2_init 1 = .ok (.invokespecial 3, 3) := by decide +kernel
theorem dX2_init_4 : decode cX2_init 4 = .ok (.aload_n 0, 1) := by decide +kernel
theorem dX2_init_5 : decode cX2_init 5 = .ok (.iconst 0, 1) := by decide +kernel
theorem dX2_init_6 : decode cX2_init 6 = .ok (.putfield 9, 3) := by decide +kernel
theorem dX2_init_9 : decode cX2_init 9 = .ok (.aload_n 0, 1) := by decide +kernel
theorem dX2_init_10 : decode cX2_init 10 = .ok (.bipush 10, 2) := by decide +kernel
theorem dX2_init_12 : decode cX2_init 12 = .ok (.newarray .boolean, 2) := by decide +kernel
theorem dX2_init_14 : decode cX2_init 14 = .ok (.putfield 15, 3) := by decide +kernel
theorem dX2_init_17 : decode cX2_init 17 = .ok (.aload_n 0, 1) := by decide +kernel
theorem dX2_init_18 : decode cX2_init 18 = .ok (.bipush 10, 2) := by decide +kernel
theorem dX2_init_20 : decode cX2_init 20 = .ok (.newarray .int, 2) := by decide +kernel
theorem dX2_init_22 : decode cX2_init 22 = .ok (.putfield 19, 3) := by decide +kernel
theorem dX2_init_25 : decode cX2_init 25 = .ok (.aload_n 0, 1) := by decide +kernel
theorem dX2_init_26 : decode cX2_init 26 = .ok (.bipush 10, 2) := by decide +kernel
theorem dX2_init_28 : decode cX2_init 28 = .ok (.newarray .int, 2) := by decide +kernel
theorem dX2_init_30 : decode cX2_init 30 = .ok (.putfield 23, 3) := by decide +kernel
theorem dX2_init_33 : decode cX2_init 33 = .ok (.aload_n 0, 1) := by decide +kernel
theorem dX2_init_34 : decode cX2_init 34 = .ok (.bipush 10, 2) := by decide +kernel
theorem dX2_init_36 : decode cX2_init 36 = .ok (.newarray .int, 2) := by decide +kernel
theorem dX2_init_38 : decode cX2_init 38 = .ok (.putfield 26, 3) := by decide +kernel
theorem dX2_init_41 : decode cX2_init 41 = .ok (.aload_n 0, 1) := by decide +kernel
theorem dX2_init_42 : decode cX2_init 42 = .ok (.bipush 16, 2) := by decide +kernel
theorem dX2_init_44 : decode cX2_init 44 = .ok (.newarray .int, 2) := by decide +kernel
theorem dX2_init_46 : decode cX2_init 46 = .ok (.putfield 29, 3) := by decide +kernel
theorem dX2_init_49 : decode cX2_init 49 = .ok (.aload_n 0, 1) := by decide +kernel
theorem dX2_init_50 : decode cX2_init 50 = .ok (.iconst 0, 1) := by decide +kernel
theorem dX2_init_51 : decode cX2_init 51 = .ok (.putfield 32, 3) := by decide +kernel
theorem dX2_init_54 : decode cX2_init 54 = .ok (.return_, 1) := by decide +kernel
theorem dX2_enter_0 : decode cX2_enter 0 = .ok (.aload_n 0, 1) := by decide +kernel
theorem dX2_enter_1 : decode cX2_enter 1 = .ok (.getfield 15, 3) := by decide +kernel
theorem dX2_enter_4 : decode cX2_enter 4 = .ok (.iload_n 1, 1) := by decide +kernel
theorem dX2_enter_5 : decode cX2_enter 5 = .ok (.baload, 1) := by decide +kernel
theorem dX2_enter_6 : decode cX2_enter 6 = .ok (.ifCond .ne 7, 3) := by decide +kernel
theorem dX2_enter_9 : decode cX2_enter 9 = .ok (.iconst 1, 1) := by decide +kernel
theorem dX2_enter_10 : decode cX2_enter 10 = .ok (.goto 4, 3) := by decide +kernel
theorem dX2_enter_13 : decode cX2_enter 13 = .ok (.iconst 0, 1) := by decide +kernel
theorem dX2_enter_14 : decode cX2_enter 14 = .ok (.istore 5, 2) := by decide +kernel
theorem dX2_enter_16 : decode cX2_enter 16 = .ok (.aload_n 0, 1) := by decide +kernel
theorem dX2_enter_17 : decode cX2_enter 17 = .ok (.getfield 15, 3) := by decide +kernel
theorem dX2_enter_20 : decode cX2_enter 20 = .ok (.iload_n 1, 1) := by decide +kernel
theorem dX2_enter_21 : decode cX2_enter 21 = .ok (.iconst 1, 1) := by decide +kernel
theorem dX2_enter_22 : decode cX2_enter 22 = .ok (.bastore, 1) := by decide +kernel
theorem dX2_enter_23 : decode cX2_enter 23 = .ok (.aload_n 0, 1) := by decide +kernel
theorem dX2_enter_24 : decode cX2_enter 24 = .ok (.getfield 19, 3) := by decide +kernel
theorem dX2_enter_27 : decode cX2_enter 27 = .ok (.iload_n 1, 1) := by decide +kernel
theorem dX2_enter_28 : decode cX2_enter 28 = .ok (.iload_n 2, 1) := by decide +kernel
theorem dX2_enter_29 : decode cX2_enter 29 = .ok (.iastore, 1) := by decide +kernel
theorem dX2_enter_30 : decode cX2_enter 30 = .ok (.aload_n 0, 1) := by decide +kernel
theorem dX2_enter_31 : decode cX2_enter 31 = .ok (.getfield 23, 3) := by decide +kernel
theorem dX2_enter_34 : decode cX2_enter 34 = .ok (.iload_n 1, 1) := by decide +kernel
theorem dX2_enter_35 : decode cX2_enter 35 = .ok (.iload_n 3, 1) := by decide +kernel
theorem dX2_enter_36 : decode cX2_enter 36 = .ok (.iastore, 1) := by decide +kernel
theorem dX2_enter_37 : decode cX2_enter 37 = .ok (.aload_n 0, 1) := by decide +kernel
theorem dX2_enter_38 : decode cX2_enter 38 = .ok (.getfield 26, 3) := by decide +kernel
theorem dX2_enter_41 : decode cX2_enter 41 = .ok (.iload_n 1, 1) := by decide +kernel
theorem dX2_enter_42 : decode cX2_enter 42 = .ok (.iload 4, 2) := by decide +kernel
theorem dX2_enter_44 : decode cX2_enter 44 = .ok (.iastore, 1) := by decide +kernel
theorem dX2_enter_45 : decode cX2_enter 45 = .ok (.iload 5, 2) := by decide +kernel
theorem dX2_enter_47 : decode cX2_enter 47 = .ok (.ireturn, 1) := by decide +kernel
set_option maxRecDepth 20000 in
theorem ggX2_mostFrom_J7_fill_53178 : GoodIn wsX2_mostFrom wsJ7_fill_53178 := goodIn_r _ [7] (by decide +kernel) (by decide +kernel)
set_option maxRecDepth 20000 in
theorem gX2_mostFrom_J7_fill_53178 : GoodIn wsX2_mostFrom (va_wsS RX2 35 yJ7_fill_53178 wsJ7_fill_53178) := goodIn_app (goodIn_of _ (by decide +kernel)) ggX2_mostFrom_J7_fill_53178
set_option maxRecDepth 20000 in
theorem ggX2_mostFrom_X2_isOf : GoodIn wsX2_mostFrom wsX2_isOf := goodIn_r _ [12, 13, 14, 20, 21, 22, 23, 24, 25, 26] (by decide +kernel) (by decide +kernel)
set_option maxRecDepth 20000 in
theorem gX2_mostFrom_X2_isOf : GoodIn wsX2_mostFrom (wsV RX2 41 RX2 yX2_isOf wsX2_isOf) := goodIn_app (goodIn_of _ (by decide +kernel)) ggX2_mostFrom_X2_isOf
set_option maxRecDepth 20000 in
theorem ggX2_mostFrom_X2_findDay : GoodIn wsX2_mostFrom wsX2_findDay := goodIn_r _ [18, 19, 3, 2, 15, 16, 17, 11, 20, 21, 22, 23, 24, 25, 26] (by decide +kernel) (by decide +kernel)
set_option maxRecDepth 20000 in
theorem gX2_mostFrom_X2_findDay : GoodIn wsX2_mostFrom (wsV RX2 45 RX2 yX2_findDay wsX2_findDay) := goodIn_app (goodIn_of _ (by decide +kernel)) ggX2_mostFrom_X2_findDay
theorem dX2_mostFrom_0 : decode cX2_mostFrom 0 = .ok (.aload_n 0, 1) := by decide +kernel
theorem dX2_mostFrom_1 : decode cX2_mostFrom 1 = .ok (.getfield 9, 3) := by decide +kernel
theorem dX2_mostFrom_4 : decode cX2_mostFrom 4 = .ok (.iconst (-1), 1) := by decide +kernel
theorem dX2_mostFrom_5 : decode cX2_mostFrom 5 = .ok (.iload_n 1, 1) := by decide +kernel
theorem dX2_mostFrom_6 : decode cX2_mostFrom 6 = .ok (.ishl, 1) := by decide +kernel
theorem dX2_mostFrom_7 : decode cX2_mostFrom 7 = .ok (.iand, 1) := by decide +kernel
theorem dX2_mostFrom_8 : decode cX2_mostFrom 8 = .ok (.istore 4, 2) := by decide +kernel
theorem dX2_mostFrom_10 : decode cX2_mostFrom 10 = .ok (.iconst 0, 1) := by decide +kernel
theorem dX2_mostFrom_11 : decode cX2_mostFrom 11 = .ok (.istore 5, 2) := by decide +kernel
theorem dX2_mostFrom_13 : decode cX2_mostFrom 13 = .ok (.aload_n 0, 1) := by decide +kernel
theorem dX2_mostFrom_14 : decode cX2_mostFrom 14 = .ok (.getfield 29, 3) := by decide +kernel
theorem dX2_mostFrom_17 : decode cX2_mostFrom 17 = .ok (.iconst (-1), 1) := by decide +kernel
theorem dX2_mostFrom_18 : decode cX2_mostFrom 18 = .ok (.invokestatic 35, 3) := by decide +kernel
theorem dX2_mostFrom_21 : decode cX2_mostFrom 21 = .ok (.iconst 0, 1) := by decide +kernel
theorem dX2_mostFrom_22 : decode cX2_mostFrom 22 = .ok (.istore 6, 2) := by decide +kernel
theorem dX2_mostFrom_24 : decode cX2_mostFrom 24 = .ok (.iload 6, 2) := by decide +kernel
theorem dX2_mostFrom_26 : decode cX2_mostFrom 26 = .ok (.bipush 10, 2) := by decide +kernel
theorem dX2_mostFrom_28 : decode cX2_mostFrom 28 = .ok (.if_icmp .ge 40, 3) := by decide +kernel
theorem dX2_mostFrom_31 : decode cX2_mostFrom 31 = .ok (.aload_n 0, 1) := by decide +kernel
theorem dX2_mostFrom_32 : decode cX2_mostFrom 32 = .ok (.iconst 0, 1) := by decide +kernel
theorem dX2_mostFrom_33 : decode cX2_mostFrom 33 = .ok (.putfield 32, 3) := by decide +kernel
theorem dX2_mostFrom_36 : decode cX2_mostFrom 36 = .ok (.aload_n 0, 1) := by decide +kernel
theorem dX2_mostFrom_37 : decode cX2_mostFrom 37 = .ok (.iload 6, 2) := by decide +kernel
theorem dX2_mostFrom_39 : decode cX2_mostFrom 39 = .ok (.iload_n 2, 1) := by decide +kernel
theorem dX2_mostFrom_40 : decode cX2_mostFrom 40 = .ok (.iload_n 3, 1) := by decide +kernel
theorem dX2_mostFrom_41 : decode cX2_mostFrom 41 = .ok (.invokevirtual 41, 3) := by decide +kernel
theorem dX2_mostFrom_44 : decode cX2_mostFrom 44 = .ok (.ifCond .eq 18, 3) := by decide +kernel
theorem dX2_mostFrom_47 : decode cX2_mostFrom 47 = .ok (.aload_n 0, 1) := by decide +kernel
theorem dX2_mostFrom_48 : decode cX2_mostFrom 48 = .ok (.iload 6, 2) := by decide +kernel
theorem dX2_mostFrom_50 : decode cX2_mostFrom 50 = .ok (.iload 4, 2) := by decide +kernel
theorem dX2_mostFrom_52 : decode cX2_mostFrom 52 = .ok (.iconst 0, 1) := by decide +kernel
theorem dX2_mostFrom_53 : decode cX2_mostFrom 53 = .ok (.invokevirtual 45, 3) := by decide +kernel
theorem dX2_mostFrom_56 : decode cX2_mostFrom 56 = .ok (.ifCond .eq 6, 3) := by decide +kernel
theorem dX2_mostFrom_59 : decode cX2_mostFrom 59 = .ok (.iinc 5 1, 3) := by decide +kernel
theorem dX2_mostFrom_62 : decode cX2_mostFrom 62 = .ok (.iinc 6 1, 3) := by decide +kernel
theorem dX2_mostFrom_65 : decode cX2_mostFrom 65 = .ok (.goto (-41), 3) := by decide +kernel
theorem dX2_mostFrom_68 : decode cX2_mostFrom 68 = .ok (.iload 5, 2) := by decide +kernel
theorem dX2_mostFrom_70 : decode cX2_mostFrom 70 = .ok (.ireturn, 1) := by decide +kernel
set_option maxRecDepth 20000 in
theorem ggX2_whoGoes_X2_pick : GoodIn wsX2_whoGoes wsX2_pick := goodIn_r _ [5, 6, 7, 8, 9, 10, 11, 4, 12, 13, 14, 15, 16, 17, 18, 19, 20, 21, 22, 23, 24, 25, 26, 27, 28, 29, 30, 31, 32, 33, 34, 35] (by decide +kernel) (by decide +kernel)
set_option maxRecDepth 20000 in
theorem gX2_whoGoes_X2_pick : GoodIn wsX2_whoGoes (wsV RX2 48 RX2 yX2_pick wsX2_pick) := goodIn_app (goodIn_of _ (by decide +kernel)) ggX2_whoGoes_X2_pick
theorem dX2_whoGoes_0 : decode cX2_whoGoes 0 = .ok (.iconst 0, 1) := by decide +kernel
theorem dX2_whoGoes_1 : decode cX2_whoGoes 1 = .ok (.istore_n 3, 1) := by decide +kernel
theorem dX2_whoGoes_2 : decode cX2_whoGoes 2 = .ok (.iconst (-1), 1) := by decide +kernel
theorem dX2_whoGoes_3 : decode cX2_whoGoes 3 = .ok (.istore 4, 2) := by decide +kernel
theorem dX2_whoGoes_5 : decode cX2_whoGoes 5 = .ok (.iconst 0, 1) := by decide +kernel
theorem dX2_whoGoes_6 : decode cX2_whoGoes 6 = .ok (.istore 5, 2) := by decide +kernel
theorem dX2_whoGoes_8 : decode cX2_whoGoes 8 = .ok (.iload 5, 2) := by decide +kernel
theorem dX2_whoGoes_10 : decode cX2_whoGoes 10 = .ok (.iload_n 1, 1) := by decide +kernel
theorem dX2_whoGoes_11 : decode cX2_whoGoes 11 = .ok (.if_icmp .gt 32, 3) := by decide +kernel
theorem dX2_whoGoes_14 : decode cX2_whoGoes 14 = .ok (.aload_n 0, 1) := by decide +kernel
theorem dX2_whoGoes_15 : decode cX2_whoGoes 15 = .ok (.iload 5, 2) := by decide +kernel
theorem dX2_whoGoes_17 : decode cX2_whoGoes 17 = .ok (.iload_n 2, 1) := by decide +kernel
theorem dX2_whoGoes_18 : decode cX2_whoGoes 18 = .ok (.iload_n 3, 1) := by decide +kernel
theorem dX2_whoGoes_19 : decode cX2_whoGoes 19 = .ok (.invokevirtual 48, 3) := by decide +kernel
theorem dX2_whoGoes_22 : decode cX2_whoGoes 22 = .ok (.istore 4, 2) := by decide +kernel
theorem dX2_whoGoes_24 : decode cX2_whoGoes 24 = .ok (.iload 4, 2) := by decide +kernel
theorem dX2_whoGoes_26 : decode cX2_whoGoes 26 = .ok (.iconst (-1), 1) := by decide +kernel
theorem dX2_whoGoes_27 : decode cX2_whoGoes 27 = .ok (.if_icmp .eq 10, 3) := by decide +kernel
theorem dX2_whoGoes_30 : decode cX2_whoGoes 30 = .ok (.iload_n 3, 1) := by decide +kernel
theorem dX2_whoGoes_31 : decode cX2_whoGoes 31 = .ok (.iconst 1, 1) := by decide +kernel
theorem dX2_whoGoes_32 : decode cX2_whoGoes 32 = .ok (.iload 4, 2) := by decide +kernel
theorem dX2_whoGoes_34 : decode cX2_whoGoes 34 = .ok (.ishl, 1) := by decide +kernel
theorem dX2_whoGoes_35 : decode cX2_whoGoes 35 = .ok (.ior, 1) := by decide +kernel
theorem dX2_whoGoes_36 : decode cX2_whoGoes 36 = .ok (.istore_n 3, 1) := by decide +kernel
theorem dX2_whoGoes_37 : decode cX2_whoGoes 37 = .ok (.iinc 5 1, 3) := by decide +kernel
theorem dX2_whoGoes_40 : decode cX2_whoGoes 40 = .ok (.goto (-32), 3) := by decide +kernel
theorem dX2_whoGoes_43 : decode cX2_whoGoes 43 = .ok (.iload 4, 2) := by decide +kernel
theorem dX2_whoGoes_45 : decode cX2_whoGoes 45 = .ok (.ireturn, 1) := by decide +kernel
set_option maxRecDepth 20000 in
theorem ggX2_pick_X2_mostFrom : GoodIn wsX2_pick wsX2_mostFrom := goodIn_r _ [8, 2, 9, 10, 11, 12, 13, 14, 15, 16, 17, 7, 18, 19, 20, 21, 22, 23, 24, 1, 25, 26, 27, 28, 29, 30, 31] (by decide +kernel) (by decide +kernel)
set_option maxRecDepth 20000 in
theorem gX2_pick_X2_mostFrom : GoodIn wsX2_pick (wsV RX2 52 RX2 yX2_mostFrom wsX2_mostFrom) := goodIn_app (goodIn_of _ (by decide +kernel)) ggX2_pick_X2_mostFrom
set_option maxRecDepth 20000 in
theorem ggX2_pick_X2_isOf : GoodIn wsX2_pick wsX2_isOf := goodIn_r _ [18, 19, 20, 25, 26, 27, 28, 29, 30, 31] (by decide +kernel) (by decide +kernel)
set_option maxRecDepth 20000 in
theorem gX2_pick_X2_isOf : GoodIn wsX2_pick (wsV RX2 41 RX2 yX2_isOf wsX2_isOf) := goodIn_app (goodIn_of _ (by decide +kernel)) ggX2_pick_X2_isOf
theorem dX2_pick_0 : decode cX2_pick 0 = .ok (.aload_n 0, 1) := by decide +kernel
theorem dX2_pick_1 : decode cX2_pick 1 = .ok (.iload_n 1, 1) := by decide +kernel
theorem dX2_pick_2 : decode cX2_pick 2 = .ok (.iload_n 2, 1) := by decide +kernel
theorem dX2_pick_3 : decode cX2_pick 3 = .ok (.iload_n 3, 1) := by decide +kernel
theorem dX2_pick_4 : decode cX2_pick 4 = .ok (.invokevirtual 52, 3) := by decide +kernel
theorem dX2_pick_7 : decode cX2_pick 7 = .ok (.istore 4, 2) := by decide +kernel
theorem dX2_pick_9 : decode cX2_pick 9 = .ok (.iconst (-1), 1) := by decide +kernel
theorem dX2_pick_10 : decode cX2_pick 10 = .ok (.istore 5, 2) := by decide +kernel
theorem dX2_pick_12 : decode cX2_pick 12 = .ok (.iconst 0, 1) := by decide +kernel
theorem dX2_pick_13 : decode cX2_pick 13 = .ok (.istore 6, 2) := by decide +kernel
theorem dX2_pick_15 : decode cX2_pick 15 = .ok (.iload 6, 2) := by decide +kernel
theorem dX2_pick_17 : decode cX2_pick 17 = .ok (.bipush 10, 2) := by decide +kernel
theorem dX2_pick_19 : decode cX2_pick 19 = .ok (.if_icmp .ge 99, 3) := by decide +kernel
theorem dX2_pick_22 : decode cX2_pick 22 = .ok (.aload_n 0, 1) := by decide +kernel
theorem dX2_pick_23 : decode cX2_pick 23 = .ok (.iload 6, 2) := by decide +kernel
theorem dX2_pick_25 : decode cX2_pick 25 = .ok (.iload_n 2, 1) := by decide +kernel
theorem dX2_pick_26 : decode cX2_pick 26 = .ok (.iload_n 3, 1) := by decide +kernel
theorem dX2_pick_27 : decode cX2_pick 27 = .ok (.invokevirtual 41, 3) := by decide +kernel
theorem dX2_pick_30 : decode cX2_pick 30 = .ok (.ifCond .eq 26, 3) := by decide +kernel
theorem dX2_pick_33 : decode cX2_pick 33 = .ok (.aload_n 0, 1) := by decide +kernel
theorem dX2_pick_34 : decode cX2_pick 34 = .ok (.getfield 26, 3) := by decide +kernel
theorem dX2_pick_37 : decode cX2_pick 37 = .ok (.iload 6, 2) := by decide +kernel
theorem dX2_pick_39 : decode cX2_pick 39 = .ok (.iaload, 1) := by decide +kernel
theorem dX2_pick_40 : decode cX2_pick 40 = .ok (.aload_n 0, 1) := by decide +kernel
theorem dX2_pick_41 : decode cX2_pick 41 = .ok (.getfield 9, 3) := by decide +kernel
theorem dX2_pick_44 : decode cX2_pick 44 = .ok (.iand, 1) := by decide +kernel
theorem dX2_pick_45 : decode cX2_pick 45 = .ok (.iconst 1, 1) := by decide +kernel
theorem dX2_pick_46 : decode cX2_pick 46 = .ok (.iload_n 1, 1) := by decide +kernel
theorem dX2_pick_47 : decode cX2_pick 47 = .ok (.ishl, 1) := by decide +kernel
theorem dX2_pick_48 : decode cX2_pick 48 = .ok (.iand, 1) := by decide +kernel
theorem dX2_pick_49 : decode cX2_pick 49 = .ok (.ifCond .eq 7, 3) := by decide +kernel
theorem dX2_pick_52 : decode cX2_pick 52 = .ok (.iconst 1, 1) := by decide +kernel
theorem dX2_pick_53 : decode cX2_pick 53 = .ok (.goto 4, 3) := by decide +kernel
theorem dX2_pick_56 : decode cX2_pick 56 = .ok (.iconst 0, 1) := by decide +kernel
theorem dX2_pick_57 : decode cX2_pick 57 = .ok (.istore 7, 2) := by decide +kernel
theorem dX2_pick_59 : decode cX2_pick 59 = .ok (.iload 7, 2) := by decide +kernel
theorem dX2_pick_61 : decode cX2_pick 61 = .ok (.ifCond .eq 51, 3) := by decide +kernel
theorem dX2_pick_64 : decode cX2_pick 64 = .ok (.iload 5, 2) := by decide +kernel
theorem dX2_pick_66 : decode cX2_pick 66 = .ok (.iconst (-1), 1) := by decide +kernel
theorem dX2_pick_67 : decode cX2_pick 67 = .ok (.if_icmp .eq 20, 3) := by decide +kernel
theorem dX2_pick_70 : decode cX2_pick 70 = .ok (.aload_n 0, 1) := by decide +kernel
theorem dX2_pick_71 : decode cX2_pick 71 = .ok (.getfield 23, 3) := by decide +kernel
theorem dX2_pick_74 : decode cX2_pick 74 = .ok (.iload 6, 2) := by decide +kernel
theorem dX2_pick_76 : decode cX2_pick 76 = .ok (.iaload, 1) := by decide +kernel
theorem dX2_pick_77 : decode cX2_pick 77 = .ok (.aload_n 0, 1) := by decide +kernel
theorem dX2_pick_78 : decode cX2_pick 78 = .ok (.getfield 23, 3) := by decide +kernel
theorem dX2_pick_81 : decode cX2_pick 81 = .ok (.iload 5, 2) := by decide +kernel
theorem dX2_pick_83 : decode cX2_pick 83 = .ok (.iaload, 1) := by decide +kernel
theorem dX2_pick_84 : decode cX2_pick 84 = .ok (.if_icmp .ge 28, 3) := by decide +kernel
theorem dX2_pick_87 : decode cX2_pick 87 = .ok (.iconst 1, 1) := by decide +kernel
theorem dX2_pick_88 : decode cX2_pick 88 = .ok (.aload_n 0, 1) := by decide +kernel
theorem dX2_pick_89 : decode cX2_pick 89 = .ok (.iload_n 1, 1) := by decide +kernel
theorem dX2_pick_90 : decode cX2_pick 90 = .ok (.iconst 1, 1) := by decide +kernel
theorem dX2_pick_91 : decode cX2_pick 91 = .ok (.iadd, 1) := by decide +kernel
theorem dX2_pick_92 : decode cX2_pick 92 = .ok (.iload_n 2, 1) := by decide +kernel
theorem dX2_pick_93 : decode cX2_pick 93 = .ok (.iload_n 3, 1) := by decide +kernel
theorem dX2_pick_94 : decode cX2_pick 94 = .ok (.iconst 1, 1) := by decide +kernel
theorem dX2_pick_95 : decode cX2_pick 95 = .ok (.iload 6, 2) := by decide +kernel
theorem dX2_pick_97 : decode cX2_pick 97 = .ok (.ishl, 1) := by decide +kernel
theorem dX2_pick_98 : decode cX2_pick 98 = .ok (.ior, 1) := by decide +kernel
theorem dX2_pick_99 : decode cX2_pick 99 = .ok (.invokevirtual 52, 3) := by decide +kernel
theorem dX2_pick_102 : decode cX2_pick 102 = .ok (.iadd, 1) := by decide +kernel
theorem dX2_pick_103 : decode cX2_pick 103 = .ok (.iload 4, 2) := by decide +kernel
theorem dX2_pick_105 : decode cX2_pick 105 = .ok (.if_icmp .ne 7, 3) := by decide +kernel
theorem dX2_pick_108 : decode cX2_pick 108 = .ok (.iload 6, 2) := by decide +kernel
theorem dX2_pick_110 : decode cX2_pick 110 = .ok (.istore 5, 2) := by decide +kernel
theorem dX2_pick_112 : decode cX2_pick 112 = .ok (.iinc 6 1, 3) := by decide +kernel
theorem dX2_pick_115 : decode cX2_pick 115 = .ok (.goto (-100), 3) := by decide +kernel
theorem dX2_pick_118 : decode cX2_pick 118 = .ok (.iload 5, 2) := by decide +kernel
theorem dX2_pick_120 : decode cX2_pick 120 = .ok (.ireturn, 1) := by decide +kernel
theorem dX2_isOf_0 : decode cX2_isOf 0 = .ok (.aload_n 0, 1) := by decide +kernel
theorem dX2_isOf_1 : decode cX2_isOf 1 = .ok (.getfield 15, 3) := by decide +kernel
theorem dX2_isOf_4 : decode cX2_isOf 4 = .ok (.iload_n 1, 1) := by decide +kernel
theorem dX2_isOf_5 : decode cX2_isOf 5 = .ok (.baload, 1) := by decide +kernel
theorem dX2_isOf_6 : decode cX2_isOf 6 = .ok (.ifCond .eq 25, 3) := by decide +kernel
theorem dX2_isOf_9 : decode cX2_isOf 9 = .ok (.aload_n 0, 1) := by decide +kernel
theorem dX2_isOf_10 : decode cX2_isOf 10 = .ok (.getfield 19, 3) := by decide +kernel
theorem dX2_isOf_13 : decode cX2_isOf 13 = .ok (.iload_n 1, 1) := by decide +kernel
theorem dX2_isOf_14 : decode cX2_isOf 14 = .ok (.iaload, 1) := by decide +kernel
theorem dX2_isOf_15 : decode cX2_isOf 15 = .ok (.iload_n 2, 1) := by decide +kernel
theorem dX2_isOf_16 : decode cX2_isOf 16 = .ok (.if_icmp .ne 15, 3) := by decide +kernel
theorem dX2_isOf_19 : decode cX2_isOf 19 = .ok (.iload_n 3, 1) := by decide +kernel
theorem dX2_isOf_20 : decode cX2_isOf 20 = .ok (.iload_n 1, 1) := by decide +kernel
theorem dX2_isOf_21 : decode cX2_isOf 21 = .ok (.ishr, 1) := by decide +kernel
theorem dX2_isOf_22 : decode cX2_isOf 22 = .ok (.iconst 1, 1) := by decide +kernel
theorem dX2_isOf_23 : decode cX2_isOf 23 = .ok (.iand, 1) := by decide +kernel
theorem dX2_isOf_24 : decode cX2_isOf 24 = .ok (.ifCond .ne 7, 3) := by decide +kernel
theorem dX2_isOf_27 : decode cX2_isOf 27 = .ok (.iconst 1, 1) := by decide +kernel
theorem dX2_isOf_28 : decode cX2_isOf 28 = .ok (.goto 4, 3) := by decide +kernel
theorem dX2_isOf_31 : decode cX2_isOf 31 = .ok (.iconst 0, 1) := by decide +kernel
theorem dX2_isOf_32 : decode cX2_isOf 32 = .ok (.ireturn, 1) := by decide +kernel
set_option maxRecDepth 20000 in
theorem ggX2_findDay_X2_findDay : GoodIn wsX2_findDay wsX2_findDay := goodIn_r _ [0, 1, 2, 3, 4, 5, 6, 7, 8, 9, 10, 11, 12, 13, 14] (by decide +kernel) (by decide +kernel)
set_option maxRecDepth 20000 in
theorem gX2_findDay_X2_findDay : GoodIn wsX2_findDay (wsV RX2 45 RX2 yX2_findDay wsX2_findDay) := goodIn_app (goodIn_of _ (by decide +kernel)) ggX2_findDay_X2_findDay
theorem dX2_findDay_0 : decode cX2_findDay 0 = .ok (.iload_n 1, 1) := by decide +kernel
theorem dX2_findDay_1 : decode cX2_findDay 1 = .ok (.ifCond .lt 9, 3) := by decide +kernel
theorem dX2_findDay_4 : decode cX2_findDay 4 = .ok (.iload_n 3, 1) := by decide +kernel
theorem dX2_findDay_5 : decode cX2_findDay 5 = .ok (.bipush 10, 2) := by decide +kernel
theorem dX2_findDay_7 : decode cX2_findDay 7 = .ok (.if_icmp .le 5, 3) := by decide +kernel
theorem dX2_findDay_10 : decode cX2_findDay 10 = .ok (.iconst 0, 1) := by decide +kernel
theorem dX2_findDay_11 : decode cX2_findDay 11 = .ok (.ireturn, 1) := by decide +kernel
theorem dX2_findDay_12 : decode cX2_findDay 12 = .ok (.iconst 0, 1) := by decide +kernel
theorem dX2_findDay_13 : decode cX2_findDay 13 = .ok (.istore 4, 2) := by decide +kernel
theorem dX2_findDay_15 : decode cX2_findDay 15 = .ok (.iload 4, 2) := by decide +kernel
theorem dX2_findDay_17 : decode cX2_findDay 17 = .ok (.bipush 16, 2) := by decide +kernel
theorem dX2_findDay_19 : decode cX2_findDay 19 = .ok (.if_icmp .ge 86, 3) := by decide +kernel
theorem dX2_findDay_22 : decode cX2_findDay 22 = .ok (.iconst 1, 1) := by decide +kernel
theorem dX2_findDay_23 : decode cX2_findDay 23 = .ok (.iload 4, 2) := by decide +kernel
theorem dX2_findDay_25 : decode cX2_findDay 25 = .ok (.ishl, 1) := by decide +kernel
theorem dX2_findDay_26 : decode cX2_findDay 26 = .ok (.istore 5, 2) := by decide +kernel
theorem dX2_findDay_28 : decode cX2_findDay 28 = .ok (.aload_n 0, 1) := by decide +kernel
theorem dX2_findDay_29 : decode cX2_findDay 29 = .ok (.getfield 26, 3) := by decide +kernel
theorem dX2_findDay_32 : decode cX2_findDay 32 = .ok (.iload_n 1, 1) := by decide +kernel
theorem dX2_findDay_33 : decode cX2_findDay 33 = .ok (.iaload, 1) := by decide +kernel
theorem dX2_findDay_34 : decode cX2_findDay 34 = .ok (.iload_n 2, 1) := by decide +kernel
theorem dX2_findDay_35 : decode cX2_findDay 35 = .ok (.iand, 1) := by decide +kernel
theorem dX2_findDay_36 : decode cX2_findDay 36 = .ok (.aload_n 0, 1) := by decide +kernel
theorem dX2_findDay_37 : decode cX2_findDay 37 = .ok (.getfield 32, 3) := by decide +kernel
theorem dX2_findDay_40 : decode cX2_findDay 40 = .ok (.iconst (-1), 1) := by decide +kernel
theorem dX2_findDay_41 : decode cX2_findDay 41 = .ok (.ixor, 1) := by decide +kernel
theorem dX2_findDay_42 : decode cX2_findDay 42 = .ok (.iand, 1) := by decide +kernel
theorem dX2_findDay_43 : decode cX2_findDay 43 = .ok (.iload 5, 2) := by decide +kernel
theorem dX2_findDay_45 : decode cX2_findDay 45 = .ok (.iand, 1) := by decide +kernel
theorem dX2_findDay_46 : decode cX2_findDay 46 = .ok (.ifCond .eq 53, 3) := by decide +kernel
theorem dX2_findDay_49 : decode cX2_findDay 49 = .ok (.aload_n 0, 1) := by decide +kernel
theorem dX2_findDay_50 : decode cX2_findDay 50 = .ok (.dup, 1) := by decide +kernel
theorem dX2_findDay_51 : decode cX2_findDay 51 = .ok (.getfield 32, 3) := by decide +kernel
theorem dX2_findDay_54 : decode cX2_findDay 54 = .ok (.iload 5, 2) := by decide +kernel
theorem dX2_findDay_56 : decode cX2_findDay 56 = .ok (.ior, 1) := by decide +kernel
theorem dX2_findDay_57 : decode cX2_findDay 57 = .ok (.putfield 32, 3) := by decide +kernel
theorem dX2_findDay_60 : decode cX2_findDay 60 = .ok (.aload_n 0, 1) := by decide +kernel
theorem dX2_findDay_61 : decode cX2_findDay 61 = .ok (.getfield 29, 3) := by decide +kernel
theorem dX2_findDay_64 : decode cX2_findDay 64 = .ok (.iload 4, 2) := by decide +kernel
theorem dX2_findDay_66 : decode cX2_findDay 66 = .ok (.iaload, 1) := by decide +kernel
theorem dX2_findDay_67 : decode cX2_findDay 67 = .ok (.iconst (-1), 1) := by decide +kernel
theorem dX2_findDay_68 : decode cX2_findDay 68 = .ok (.if_icmp .eq 21, 3) := by decide +kernel
theorem dX2_findDay_71 : decode cX2_findDay 71 = .ok (.aload_n 0, 1) := by decide +kernel
theorem dX2_findDay_72 : decode cX2_findDay 72 = .ok (.aload_n 0, 1) := by decide +kernel
theorem dX2_findDay_73 : decode cX2_findDay 73 = .ok (.getfield 29, 3) := by decide +kernel
theorem dX2_findDay_76 : decode cX2_findDay 76 = .ok (.iload 4, 2) := by decide +kernel
theorem dX2_findDay_78 : decode cX2_findDay 78 = .ok (.iaload, 1) := by decide +kernel
theorem dX2_findDay_79 : decode cX2_findDay 79 = .ok (.iload_n 2, 1) := by decide +kernel
theorem dX2_findDay_80 : decode cX2_findDay 80 = .ok (.iload_n 3, 1) := by decide +kernel
theorem dX2_findDay_81 : decode cX2_findDay 81 = .ok (.iconst 1, 1) := by decide +kernel
theorem dX2_findDay_82 : decode cX2_findDay 82 = .ok (.iadd, 1) := by decide +kernel
theorem dX2_findDay_83 : decode cX2_findDay 83 = .ok (.invokevirtual 45, 3) := by decide +kernel
theorem dX2_findDay_86 : decode cX2_findDay 86 = .ok (.ifCond .eq 13, 3) := by decide +kernel
theorem dX2_findDay_89 : decode cX2_findDay 89 = .ok (.aload_n 0, 1) := by decide +kernel
theorem dX2_findDay_90 : decode cX2_findDay 90 = .ok (.getfield 29, 3) := by decide +kernel
theorem dX2_findDay_93 : decode cX2_findDay 93 = .ok (.iload 4, 2) := by decide +kernel
theorem dX2_findDay_95 : decode cX2_findDay 95 = .ok (.iload_n 1, 1) := by decide +kernel
theorem dX2_findDay_96 : decode cX2_findDay 96 = .ok (.iastore, 1) := by decide +kernel
theorem dX2_findDay_97 : decode cX2_findDay 97 = .ok (.iconst 1, 1) := by decide +kernel
theorem dX2_findDay_98 : decode cX2_findDay 98 = .ok (.ireturn, 1) := by decide +kernel
theorem dX2_findDay_99 : decode cX2_findDay 99 = .ok (.iinc 4 1, 3) := by decide +kernel
theorem dX2_findDay_102 : decode cX2_findDay 102 = .ok (.goto (-87), 3) := by decide +kernel
theorem dX2_findDay_105 : decode cX2_findDay 105 = .ok (.iconst 0, 1) := by decide +kernel
theorem dX2_findDay_106 : decode cX2_findDay 106 = .ok (.ireturn, 1) := by decide +kernel
theorem dX3_init_0 : decode cX3_init 0 = .ok (.aload_n 0, 1) := by decide +kernel
theorem dX3_init_1 : decode cX3_init 1 = .ok (.invokespecial 3, 3) := by decide +kernel
theorem dX3_init_4 : decode cX3_init 4 = .ok (.aload_n 0, 1) := by decide +kernel
theorem dX3_init_5 : decode cX3_init 5 = .ok (.iconst 0, 1) := by decide +kernel
theorem dX3_init_6 : decode cX3_init 6 = .ok (.putfield 9, 3) := by decide +kernel
theorem dX3_init_9 : decode cX3_init 9 = .ok (.aload_n 0, 1) := by decide +kernel
theorem dX3_init_10 : decode cX3_init 10 = .ok (.iload_n 1, 1) := by decide +kernel
theorem dX3_init_11 : decode cX3_init 11 = .ok (.putfield 15, 3) := by decide +kernel
theorem dX3_init_14 : decode cX3_init 14 = .ok (.aload_n 0, 1) := by decide +kernel
theorem dX3_init_15 : decode cX3_init 15 = .ok (.iload_n 2, 1) := by decide +kernel
theorem dX3_init_16 : decode cX3_init 16 = .ok (.putfield 18, 3) := by decide +kernel
theorem dX3_init_19 : decode cX3_init 19 = .ok (.aload_n 0, 1) := by decide +kernel
theorem dX3_init_20 : decode cX3_init 20 = .ok (.iload_n 3, 1) := by decide +kernel
theorem dX3_init_21 : decode cX3_init 21 = .ok (.putfield 21, 3) := by decide +kernel
theorem dX3_init_24 : decode cX3_init 24 = .ok (.return_, 1) := by decide +kernel
theorem dX3_kind_0 : decode cX3_kind 0 = .ok (.iconst 0, 1) := by decide +kernel
theorem dX3_kind_1 : decode cX3_kind 1 = .ok (.ireturn, 1) := by decide +kernel
theorem dX3_coldIn_0 : decode cX3_coldIn 0 = .ok (.iload_n 2, 1) := by decide +kernel
theorem dX3_coldIn_1 : decode cX3_coldIn 1 = .ok (.iload_n 1, 1) := by decide +kernel
theorem dX3_coldIn_2 : decode cX3_coldIn 2 = .ok (.bipush 8, 2) := by decide +kernel
theorem dX3_coldIn_4 : decode cX3_coldIn 4 = .ok (.idiv, 1) := by decide +kernel
theorem dX3_coldIn_5 : decode cX3_coldIn 5 = .ok (.iadd, 1) := by decide +kernel
theorem dX3_coldIn_6 : decode cX3_coldIn 6 = .ok (.ireturn, 1) := by decide +kernel
theorem dX3_paceIn_0 : decode cX3_paceIn 0 = .ok (.iconst 1, 1) := by decide +kernel
theorem dX3_paceIn_1 : decode cX3_paceIn 1 = .ok (.aload_n 0, 1) := by decide +kernel
theorem dX3_paceIn_2 : decode cX3_paceIn 2 = .ok (.getfield 18, 3) := by decide +kernel
theorem dX3_paceIn_5 : decode cX3_paceIn 5 = .ok (.iload_n 1, 1) := by decide +kernel
theorem dX3_paceIn_6 : decode cX3_paceIn 6 = .ok (.bipush 6, 2) := by decide +kernel
theorem dX3_paceIn_8 : decode cX3_paceIn 8 = .ok (.idiv, 1) := by decide +kernel
theorem dX3_paceIn_9 : decode cX3_paceIn 9 = .ok (.isub, 1) := by decide +kernel
theorem dX3_paceIn_10 : decode cX3_paceIn 10 = .ok (.invokestatic 24, 3) := by decide +kernel
theorem dX3_paceIn_13 : decode cX3_paceIn 13 = .ok (.ireturn, 1) := by decide +kernel
theorem dX3_feedsIn_0 : decode cX3_feedsIn 0 = .ok (.aload_n 0, 1) := by decide +kernel
theorem dX3_feedsIn_1 : decode cX3_feedsIn 1 = .ok (.getfield 9, 3) := by decide +kernel
theorem dX3_feedsIn_4 : decode cX3_feedsIn 4 = .ok (.ifCond .le 18, 3) := by decide +kernel
theorem dX3_feedsIn_7 : decode cX3_feedsIn 7 = .ok (.iload_n 1, 1) := by decide +kernel
theorem dX3_feedsIn_8 : decode cX3_feedsIn 8 = .ok (.iconst 1, 1) := by decide +kernel
theorem dX3_feedsIn_9 : decode cX3_feedsIn 9 = .ok (.iadd, 1) := by decide +kernel
theorem dX3_feedsIn_10 : decode cX3_feedsIn 10 = .ok (.aload_n 0, 1) := by decide +kernel
theorem dX3_feedsIn_11 : decode cX3_feedsIn 11 = .ok (.getfield 9, 3) := by decide +kernel
theorem dX3_feedsIn_14 : decode cX3_feedsIn 14 = .ok (.irem, 1) := by decide +kernel
theorem dX3_feedsIn_15 : decode cX3_feedsIn 15 = .ok (.ifCond .ne 7, 3) := by decide +kernel
theorem dX3_feedsIn_18 : decode cX3_feedsIn 18 = .ok (.iconst 1, 1) := by decide +kernel
theorem dX3_feedsIn_19 : decode cX3_feedsIn 19 = .ok (.goto 4, 3) := by decide +kernel
theorem dX3_feedsIn_22 : decode cX3_feedsIn 22 = .ok (.iconst 0, 1) := by decide +kernel
theorem dX3_feedsIn_23 : decode cX3_feedsIn 23 = .ok (.ireturn, 1) := by decide +kernel
set_option maxRecDepth 20000 in
theorem ggX3_strideIn_X3_feedsIn : GoodIn wsX3_strideIn wsX3_feedsIn := goodIn_r _ [6, 7, 33, 34, 35, 36, 37, 38, 39, 40, 41, 42, 43, 44, 45, 46, 47, 48] (by decide +kernel) (by decide +kernel)
set_option maxRecDepth 20000 in
theorem gX3_strideIn_X3_feedsIn_u30X0 : GoodIn wsX3_strideIn (va_wsU RX3 30 RX0 "StraitSwim$Plain" ⟨"StraitSwim$Plain", "feedsIn", "(I)Z"⟩ yX3_feedsIn wsX3_feedsIn) := goodIn_app (goodIn_of _ (by decide +kernel)) ggX3_strideIn_X3_feedsIn
set_option maxRecDepth 20000 in
theorem gX3_strideIn_X3_feedsIn : GoodIn wsX3_strideIn (wsV RX3 30 RX3 yX3_feedsIn wsX3_feedsIn) := goodIn_app (goodIn_of _ (by decide +kernel)) ggX3_strideIn_X3_feedsIn
set_option maxRecDepth 20000 in
theorem gX3_strideIn_X3_feedsIn_u30X4 : GoodIn wsX3_strideIn (va_wsU RX3 30 RX4 "StraitSwim$Plain" ⟨"StraitSwim$Plain", "feedsIn", "(I)Z"⟩ yX3_feedsIn wsX3_feedsIn) := goodIn_app (goodIn_of _ (by decide +kernel)) ggX3_strideIn_X3_feedsIn
set_option maxRecDepth 20000 in
theorem gX3_strideIn_X3_feedsIn_u30X6 : GoodIn wsX3_strideIn (va_wsU RX3 30 RX6 "StraitSwim$Plain" ⟨"StraitSwim$Plain", "feedsIn", "(I)Z"⟩ yX3_feedsIn wsX3_feedsIn) := goodIn_app (goodIn_of _ (by decide +kernel)) ggX3_strideIn_X3_feedsIn
set_option maxRecDepth 20000 in
theorem ggX3_strideIn_X3_paceIn : GoodIn wsX3_strideIn wsX3_paceIn := goodIn_r _ [16, 17, 18, 19, 20, 21, 33, 34, 35, 36, 37, 38, 39, 40, 41, 42, 43, 44, 45, 46, 47, 48] (by decide +kernel) (by decide +kernel)
set_option maxRecDepth 20000 in
theorem gX3_strideIn_X3_paceIn_u34X0 : GoodIn wsX3_strideIn (va_wsU RX3 34 RX0 "StraitSwim$Plain" ⟨"StraitSwim$Plain", "paceIn", "(I)I"⟩ yX3_paceIn wsX3_paceIn) := goodIn_app (goodIn_of _ (by decide +kernel)) ggX3_strideIn_X3_paceIn
set_option maxRecDepth 20000 in
theorem gX3_strideIn_X3_paceIn : GoodIn wsX3_strideIn (wsV RX3 34 RX3 yX3_paceIn wsX3_paceIn) := goodIn_app (goodIn_of _ (by decide +kernel)) ggX3_strideIn_X3_paceIn
set_option maxRecDepth 20000 in
theorem ggX3_strideIn_X4_paceIn : GoodIn wsX3_strideIn wsX4_paceIn := goodIn_r _ [28, 29, 30, 31, 19, 20, 21, 33, 34, 35, 36, 37, 38, 39, 40, 41, 42, 43, 44, 45, 46, 47, 48] (by decide +kernel) (by decide +kernel)
set_option maxRecDepth 20000 in
theorem gX3_strideIn_X4_paceIn_u34X4 : GoodIn wsX3_strideIn (va_wsO RX3 34 RX4 "StraitSwim$Plain" ⟨"StraitSwim$Plain", "paceIn", "(I)I"⟩ yX4_paceIn wsX4_paceIn) := goodIn_app (goodIn_of _ (by decide +kernel)) ggX3_strideIn_X4_paceIn
set_option maxRecDepth 20000 in
theorem gX3_strideIn_X3_paceIn_u34X6 : GoodIn wsX3_strideIn (va_wsU RX3 34 RX6 "StraitSwim$Plain" ⟨"StraitSwim$Plain", "paceIn", "(I)I"⟩ yX3_paceIn wsX3_paceIn) := goodIn_app (goodIn_of _ (by decide +kernel)) ggX3_strideIn_X3_paceIn
theorem dX3_strideIn_0 : decode cX3_strideIn 0 = .ok (.aload_n 0, 1) := by decide +kernel
theorem dX3_strideIn_1 : decode cX3_strideIn 1 = .ok (.iload_n 1, 1) := by decide +kernel
theorem dX3_strideIn_2 : decode cX3_strideIn 2 = .ok (.invokevirtual 30, 3) := by decide +kernel
theorem dX3_strideIn_5 : decode cX3_strideIn 5 = .ok (.ifCond .eq 13, 3) := by decide +kernel
theorem dX3_strideIn_8 : decode cX3_strideIn 8 = .ok (.aload_n 0, 1) := by decide +kernel
theorem dX3_strideIn_9 : decode cX3_strideIn 9 = .ok (.iload_n 1, 1) := by decide +kernel
theorem dX3_strideIn_10 : decode cX3_strideIn 10 = .ok (.invokevirtual 34, 3) := by decide +kernel
theorem dX3_strideIn_13 : decode cX3_strideIn 13 = .ok (.iconst 2, 1) := by decide +kernel
theorem dX3_strideIn_14 : decode cX3_strideIn 14 = .ok (.idiv, 1) := by decide +kernel
theorem dX3_strideIn_15 : decode cX3_strideIn 15 = .ok (.goto 8, 3) := by decide +kernel
theorem dX3_strideIn_18 : decode cX3_strideIn 18 = .ok (.aload_n 0, 1) := by decide +kernel
theorem dX3_strideIn_19 : decode cX3_strideIn 19 = .ok (.iload_n 1, 1) := by decide +kernel
theorem dX3_strideIn_20 : decode cX3_strideIn 20 = .ok (.invokevirtual 34, 3) := by decide +kernel
theorem dX3_strideIn_23 : decode cX3_strideIn 23 = .ok (.ireturn, 1) := by decide +kernel
theorem dX3_heft_0 : decode cX3_heft 0 = .ok (.bipush 10, 2) := by decide +kernel
theorem dX3_heft_2 : decode cX3_heft 2 = .ok (.aload_n 0, 1) := by decide +kernel
theorem dX3_heft_3 : decode cX3_heft 3 = .ok (.getfield 18, 3) := by decide +kernel
theorem dX3_heft_6 : decode cX3_heft 6 = .ok (.iadd, 1) := by decide +kernel
theorem dX3_heft_7 : decode cX3_heft 7 = .ok (.aload_n 0, 1) := by decide +kernel
theorem dX3_heft_8 : decode cX3_heft 8 = .ok (.getfield 9, 3) := by decide +kernel
theorem dX3_heft_11 : decode cX3_heft 11 = .ok (.iadd, 1) := by decide +kernel
theorem dX3_heft_12 : decode cX3_heft 12 = .ok (.ireturn, 1) := by decide +kernel
theorem dX3_fail_0 : decode cX3_fail 0 = .ok (.return_, 1) := by decide +kernel
set_option maxRecDepth 20000 in
theorem ggX4_init_X3_init : GoodIn wsX4_init wsX3_init := goodIn_r _ [4, 5, 6, 7, 8, 9, 10, 11, 12, 13, 14, 15, 16, 17, 18, 19, 20, 21, 22, 23, 24, 25, 26, 27] (by decide +kernel) (by decide +kernel)
set_option maxRecDepth 20000 in
theorem gX4_init_X3_init : GoodIn wsX4_init (wsX3_init) := ggX4_init_X3_init
theorem dX4_init_0 : decode cX4_init 0 = .ok (.aload_n 0, 1) := by decide +kernel
theorem dX4_init_1 : decode cX4_init 1 = .ok (.iload_n 1, 1) := by decide +kernel
theorem dX4_init_2 : decode cX4_init 2 = .ok (.iload_n 2, 1) := by decide +kernel
theorem dX4_init_3 : decode cX4_init 3 = .ok (.iload_n 3, 1) := by decide +kernel
theorem dX4_init_4 : decode cX4_init 4 = .ok (.invokespecial 3, 3) := by decide +kernel
theorem dX4_init_7 : decode cX4_init 7 = .ok (.return_, 1) := by decide +kernel
theorem dX4_kind_0 : decode cX4_kind 0 = .ok (.iconst 2, 1) := by decide +kernel
theorem dX4_kind_1 : decode cX4_kind 1 = .ok (.ireturn, 1) := by decide +kernel
theorem dX4_paceIn_0 : decode cX4_paceIn 0 = .ok (.iload_n 1, 1) := by decide +kernel
theorem dX4_paceIn_1 : decode cX4_paceIn 1 = .ok (.bipush 8, 2) := by decide +kernel
theorem dX4_paceIn_3 : decode cX4_paceIn 3 = .ok (.if_icmp .ge 12, 3) := by decide +kernel
theorem dX4_paceIn_6 : decode cX4_paceIn 6 = .ok (.aload_n 0, 1) := by decide +kernel
theorem dX4_paceIn_7 : decode cX4_paceIn 7 = .ok (.getfield 9, 3) := by decide +kernel
theorem dX4_paceIn_10 : decode cX4_paceIn 10 = .ok (.iconst 4, 1) := by decide +kernel
theorem dX4_paceIn_11 : decode cX4_paceIn 11 = .ok (.iadd, 1) := by decide +kernel
theorem dX4_paceIn_12 : decode cX4_paceIn 12 = .ok (.goto 15, 3) := by decide +kernel
theorem dX4_paceIn_15 : decode cX4_paceIn 15 = .ok (.iconst 1, 1) := by decide +kernel
theorem dX4_paceIn_16 : decode cX4_paceIn 16 = .ok (.aload_n 0, 1) := by decide +kernel
theorem dX4_paceIn_17 : decode cX4_paceIn 17 = .ok (.getfield 9, 3) := by decide +kernel
theorem dX4_paceIn_20 : decode cX4_paceIn 20 = .ok (.iload_n 1, 1) := by decide +kernel
theorem dX4_paceIn_21 : decode cX4_paceIn 21 = .ok (.iconst 4, 1) := by decide +kernel
theorem dX4_paceIn_22 : decode cX4_paceIn 22 = .ok (.idiv, 1) := by decide +kernel
theorem dX4_paceIn_23 : decode cX4_paceIn 23 = .ok (.isub, 1) := by decide +kernel
theorem dX4_paceIn_24 : decode cX4_paceIn 24 = .ok (.invokestatic 15, 3) := by decide +kernel
theorem dX4_paceIn_27 : decode cX4_paceIn 27 = .ok (.ireturn, 1) := by decide +kernel
set_option maxRecDepth 20000 in
theorem ggX4_heft_X3_heft : GoodIn wsX4_heft wsX3_heft := goodIn_r _ [8, 9, 10, 11, 12, 13, 14, 15, 16, 17, 18, 19, 20, 21, 22, 23, 24, 25, 26] (by decide +kernel) (by decide +kernel)
set_option maxRecDepth 20000 in
theorem gX4_heft_X3_heft_s21 : GoodIn wsX4_heft (va_wsSU RX4 21 yX3_heft wsX3_heft) := goodIn_app (goodIn_of _ (by decide +kernel)) ggX4_heft_X3_heft
theorem dX4_heft_0 : decode cX4_heft 0 = .ok (.aload_n 0, 1) := by decide +kernel
theorem dX4_heft_1 : decode cX4_heft 1 = .ok (.invokespecial 21, 3) := by decide +kernel
theorem dX4_heft_4 : decode cX4_heft 4 = .ok (.aload_n 0, 1) := by decide +kernel
theorem dX4_heft_5 : decode cX4_heft 5 = .ok (.getfield 25, 3) := by decide +kernel
theorem dX4_heft_8 : decode cX4_heft 8 = .ok (.iadd, 1) := by decide +kernel
theorem dX4_heft_9 : decode cX4_heft 9 = .ok (.ireturn, 1) := by decide +kernel
theorem dX4_fail_0 : decode cX4_fail 0 = .ok (.new 28, 3) := by decide +kernel
theorem dX4_fail_3 : decode cX4_fail 3 = .ok (.dup, 1) := by decide +kernel
theorem dX4_fail_4 : decode cX4_fail 4 = .ok (.ldc 30, 2) := by decide +kernel
theorem dX4_fail_6 : decode cX4_fail 6 = .ok (.invokespecial 32, 3) := by decide +kernel
theorem dX4_fail_9 : decode cX4_fail 9 = .ok (.athrow, 1) := by decide +kernel
theorem dX5_init_0 : decode cX5_init 0 = .ok (.aload_n 0, 1) := by decide +kernel
theorem dX5_init_1 : decode cX5_init 1 = .ok (.invokespecial 1, 3) := by decide +kernel
theorem dX5_init_4 : decode cX5_init 4 = .ok (.aload_n 0, 1) := by decide +kernel
theorem dX5_init_5 : decode cX5_init 5 = .ok (.iload_n 1, 1) := by decide +kernel
theorem dX5_init_6 : decode cX5_init 6 = .ok (.putfield 7, 3) := by decide +kernel
theorem dX5_init_9 : decode cX5_init 9 = .ok (.aload_n 0, 1) := by decide +kernel
theorem dX5_init_10 : decode cX5_init 10 = .ok (.iload_n 2, 1) := by decide +kernel
theorem dX5_init_11 : decode cX5_init 11 = .ok (.newarray .short, 2) := by decide +kernel
theorem dX5_init_13 : decode cX5_init 13 = .ok (.putfield 13, 3) := by decide +kernel
theorem dX5_init_16 : decode cX5_init 16 = .ok (.return_, 1) := by decide +kernel
theorem dX5_spans_0 : decode cX5_spans 0 = .ok (.iload_n 1, 1) := by decide +kernel
theorem dX5_spans_1 : decode cX5_spans 1 = .ok (.ifCond .lt 31, 3) := by decide +kernel
theorem dX5_spans_4 : decode cX5_spans 4 = .ok (.iload_n 2, 1) := by decide +kernel
theorem dX5_spans_5 : decode cX5_spans 5 = .ok (.ifCond .lt 27, 3) := by decide +kernel
theorem dX5_spans_8 : decode cX5_spans 8 = .ok (.iload_n 1, 1) := by decide +kernel
theorem dX5_spans_9 : decode cX5_spans 9 = .ok (.aload_n 0, 1) := by decide +kernel
theorem dX5_spans_10 : decode cX5_spans 10 = .ok (.getfield 13, 3) := by decide +kernel
theorem dX5_spans_13 : decode cX5_spans 13 = .ok (.arraylength, 1) := by decide +kernel
theorem dX5_spans_14 : decode cX5_spans 14 = .ok (.if_icmp .gt 18, 3) := by decide +kernel
theorem dX5_spans_17 : decode cX5_spans 17 = .ok (.iload_n 2, 1) := by decide +kernel
theorem dX5_spans_18 : decode cX5_spans 18 = .ok (.aload_n 0, 1) := by decide +kernel
theorem dX5_spans_19 : decode cX5_spans 19 = .ok (.getfield 13, 3) := by decide +kernel
theorem dX5_spans_22 : decode cX5_spans 22 = .ok (.arraylength, 1) := by decide +kernel
theorem dX5_spans_23 : decode cX5_spans 23 = .ok (.iload_n 1, 1) := by decide +kernel
theorem dX5_spans_24 : decode cX5_spans 24 = .ok (.isub, 1) := by decide +kernel
theorem dX5_spans_25 : decode cX5_spans 25 = .ok (.if_icmp .gt 7, 3) := by decide +kernel
theorem dX5_spans_28 : decode cX5_spans 28 = .ok (.iconst 1, 1) := by decide +kernel
theorem dX5_spans_29 : decode cX5_spans 29 = .ok (.goto 4, 3) := by decide +kernel
theorem dX5_spans_32 : decode cX5_spans 32 = .ok (.iconst 0, 1) := by decide +kernel
theorem dX5_spans_33 : decode cX5_spans 33 = .ok (.ireturn, 1) := by decide +kernel
set_option maxRecDepth 20000 in
theorem ggX6_init_X0_init : GoodIn wsX6_init wsX0_init := goodIn_r _ [4, 5, 6, 7, 8, 9, 10, 11, 12, 13, 14, 15, 16, 17, 18, 19, 20, 21, 22, 23, 24, 25, 26, 27, 28, 29, 30, 31] (by decide +kernel) (by decide +kernel)
set_option maxRecDepth 20000 in
theorem gX6_init_X0_init : GoodIn wsX6_init (wsX0_init) := ggX6_init_X0_init
theorem dX6_init_0 : decode cX6_init 0 = .ok (.aload_n 0, 1) := by decide +kernel
theorem dX6_init_1 : decode cX6_init 1 = .ok (.iload_n 1, 1) := by decide +kernel
theorem dX6_init_2 : decode cX6_init 2 = .ok (.iload_n 2, 1) := by decide +kernel
theorem dX6_init_3 : decode cX6_init 3 = .ok (.iload_n 3, 1) := by decide +kernel
theorem dX6_init_4 : decode cX6_init 4 = .ok (.invokespecial 3, 3) := by decide +kernel
theorem dX6_init_7 : decode cX6_init 7 = .ok (.return_, 1) := by decide +kernel
theorem dX6_kind_0 : decode cX6_kind 0 = .ok (.iconst 3, 1) := by decide +kernel
theorem dX6_kind_1 : decode cX6_kind 1 = .ok (.ireturn, 1) := by decide +kernel
set_option maxRecDepth 20000 in
theorem ggX6_coldIn_X0_coldIn : GoodIn wsX6_coldIn wsX0_coldIn := goodIn_r _ [10, 11, 2, 3, 4, 12, 13, 14, 15, 16, 17] (by decide +kernel) (by decide +kernel)
set_option maxRecDepth 20000 in
theorem gX6_coldIn_X0_coldIn_s9 : GoodIn wsX6_coldIn (va_wsSU RX6 9 yX0_coldIn wsX0_coldIn) := goodIn_app (goodIn_of _ (by decide +kernel)) ggX6_coldIn_X0_coldIn
theorem dX6_coldIn_0 : decode cX6_coldIn 0 = .ok (.iconst 1, 1) := by decide +kernel
theorem dX6_coldIn_1 : decode cX6_coldIn 1 = .ok (.aload_n 0, 1) := by decide +kernel
theorem dX6_coldIn_2 : decode cX6_coldIn 2 = .ok (.iload_n 1, 1) := by decide +kernel
theorem dX6_coldIn_3 : decode cX6_coldIn 3 = .ok (.iload_n 2, 1) := by decide +kernel
theorem dX6_coldIn_4 : decode cX6_coldIn 4 = .ok (.invokespecial 9, 3) := by decide +kernel
theorem dX6_coldIn_7 : decode cX6_coldIn 7 = .ok (.iconst 2, 1) := by decide +kernel
theorem dX6_coldIn_8 : decode cX6_coldIn 8 = .ok (.idiv, 1) := by decide +kernel
theorem dX6_coldIn_9 : decode cX6_coldIn 9 = .ok (.invokestatic 13, 3) := by decide +kernel
theorem dX6_coldIn_12 : decode cX6_coldIn 12 = .ok (.ireturn, 1) := by decide +kernel
set_option maxRecDepth 20000 in
theorem ggX6_heft_X0_heft : GoodIn wsX6_heft wsX0_heft := goodIn_r _ [6, 7, 8, 9, 10, 11, 12, 13, 14, 15, 16, 17, 18, 19, 20, 21, 22, 23, 24, 25, 26, 27, 28, 29, 30] (by decide +kernel) (by decide +kernel)
set_option maxRecDepth 20000 in
theorem gX6_heft_X0_heft_s18 : GoodIn wsX6_heft (va_wsSU RX6 18 yX0_heft wsX0_heft) := goodIn_app (goodIn_of _ (by decide +kernel)) ggX6_heft_X0_heft
theorem dX6_heft_0 : decode cX6_heft 0 = .ok (.iconst 2, 1) := by decide +kernel
theorem dX6_heft_1 : decode cX6_heft 1 = .ok (.aload_n 0, 1) := by decide +kernel
theorem dX6_heft_2 : decode cX6_heft 2 = .ok (.invokespecial 18, 3) := by decide +kernel
theorem dX6_heft_5 : decode cX6_heft 5 = .ok (.imul, 1) := by decide +kernel
theorem dX6_heft_6 : decode cX6_heft 6 = .ok (.ireturn, 1) := by decide +kernel
theorem dX7_init_0 : decode cX7_init 0 = .ok (.aload_n 0, 1) := by decide +kernel
theorem dX7_init_1 : decode cX7_init 1 = .ok (.invokespecial 1, 3) := by decide +kernel
theorem dX7_init_4 : decode cX7_init 4 = .ok (.aload_n 0, 1) := by decide +kernel
theorem dX7_init_5 : decode cX7_init 5 = .ok (.iload_n 1, 1) := by decide +kernel
theorem dX7_init_6 : decode cX7_init 6 = .ok (.putfield 7, 3) := by decide +kernel
theorem dX7_init_9 : decode cX7_init 9 = .ok (.aload_n 0, 1) := by decide +kernel
theorem dX7_init_10 : decode cX7_init 10 = .ok (.iload_n 2, 1) := by decide +kernel
theorem dX7_init_11 : decode cX7_init 11 = .ok (.putfield 13, 3) := by decide +kernel
theorem dX7_init_14 : decode cX7_init 14 = .ok (.aload_n 0, 1) := by decide +kernel
theorem dX7_init_15 : decode cX7_init 15 = .ok (.iload_n 3, 1) := by decide +kernel
theorem dX7_init_16 : decode cX7_init 16 = .ok (.putfield 16, 3) := by decide +kernel
theorem dX7_init_19 : decode cX7_init 19 = .ok (.aload_n 0, 1) := by decide +kernel
theorem dX7_init_20 : decode cX7_init 20 = .ok (.iload 4, 2) := by decide +kernel
theorem dX7_init_22 : decode cX7_init 22 = .ok (.putfield 19, 3) := by decide +kernel
theorem dX7_init_25 : decode cX7_init 25 = .ok (.return_, 1) := by decide +kernel
theorem dX7_isBy_0 : decode cX7_isBy 0 = .ok (.aload_n 0, 1) := by decide +kernel
theorem dX7_isBy_1 : decode cX7_isBy 1 = .ok (.getfield 7, 3) := by decide +kernel
theorem dX7_isBy_4 : decode cX7_isBy 4 = .ok (.iload_n 3, 1) := by decide +kernel
theorem dX7_isBy_5 : decode cX7_isBy 5 = .ok (.aload_n 0, 1) := by decide +kernel
theorem dX7_isBy_6 : decode cX7_isBy 6 = .ok (.getfield 16, 3) := by decide +kernel
theorem dX7_isBy_9 : decode cX7_isBy 9 = .ok (.imul, 1) := by decide +kernel
theorem dX7_isBy_10 : decode cX7_isBy 10 = .ok (.iadd, 1) := by decide +kernel
theorem dX7_isBy_11 : decode cX7_isBy 11 = .ok (.iload_n 1, 1) := by decide +kernel
theorem dX7_isBy_12 : decode cX7_isBy 12 = .ok (.isub, 1) := by decide +kernel
theorem dX7_isBy_13 : decode cX7_isBy 13 = .ok (.invokestatic 22, 3) := by decide +kernel
theorem dX7_isBy_16 : decode cX7_isBy 16 = .ok (.iload 4, 2) := by decide +kernel
theorem dX7_isBy_18 : decode cX7_isBy 18 = .ok (.if_icmp .ge 28, 3) := by decide +kernel
theorem dX7_isBy_21 : decode cX7_isBy 21 = .ok (.aload_n 0, 1) := by decide +kernel
theorem dX7_isBy_22 : decode cX7_isBy 22 = .ok (.getfield 13, 3) := by decide +kernel
theorem dX7_isBy_25 : decode cX7_isBy 25 = .ok (.iload_n 3, 1) := by decide +kernel
theorem dX7_isBy_26 : decode cX7_isBy 26 = .ok (.aload_n 0, 1) := by decide +kernel
theorem dX7_isBy_27 : decode cX7_isBy 27 = .ok (.getfield 19, 3) := by decide +kernel
theorem dX7_isBy_30 : decode cX7_isBy 30 = .ok (.imul, 1) := by decide +kernel
theorem dX7_isBy_31 : decode cX7_isBy 31 = .ok (.iadd, 1) := by decide +kernel
theorem dX7_isBy_32 : decode cX7_isBy 32 = .ok (.iload_n 2, 1) := by decide +kernel
theorem dX7_isBy_33 : decode cX7_isBy 33 = .ok (.isub, 1) := by decide +kernel
theorem dX7_isBy_34 : decode cX7_isBy 34 = .ok (.invokestatic 22, 3) := by decide +kernel
theorem dX7_isBy_37 : decode cX7_isBy 37 = .ok (.iload 4, 2) := by decide +kernel
theorem dX7_isBy_39 : decode cX7_isBy 39 = .ok (.if_icmp .ge 7, 3) := by decide +kernel
theorem dX7_isBy_42 : decode cX7_isBy 42 = .ok (.iconst 1, 1) := by decide +kernel
theorem dX7_isBy_43 : decode cX7_isBy 43 = .ok (.goto 4, 3) := by decide +kernel
theorem dX7_isBy_46 : decode cX7_isBy 46 = .ok (.iconst 0, 1) := by decide +kernel
theorem dX7_isBy_47 : decode cX7_isBy 47 = .ok (.ireturn, 1) := by decide +kernel
theorem dX8_init_0 : decode cX8_init 0 = .ok (.aload_n 0, 1) := by decide +kernel
theorem dX8_init_1 : decode cX8_init 1 = .ok (.invokespecial 3, 3) := by decide +kernel
theorem dX8_init_4 : decode cX8_init 4 = .ok (.aload_n 0, 1) := by decide +kernel
theorem dX8_init_5 : decode cX8_init 5 = .ok (.sipush 288, 3) := by decide +kernel
theorem dX8_init_8 : decode cX8_init 8 = .ok (.newarray .boolean, 2) := by decide +kernel
theorem dX8_init_10 : decode cX8_init 10 = .ok (.putfield 9, 3) := by decide +kernel
theorem dX8_init_13 : decode cX8_init 13 = .ok (.aload_n 0, 1) := by decide +kernel
theorem dX8_init_14 : decode cX8_init 14 = .ok (.iconst 0, 1) := by decide +kernel
theorem dX8_init_15 : decode cX8_init 15 = .ok (.putfield 15, 3) := by decide +kernel
theorem dX8_init_18 : decode cX8_init 18 = .ok (.aload_n 0, 1) := by decide +kernel
theorem dX8_init_19 : decode cX8_init 19 = .ok (.bipush 36, 2) := by decide +kernel
theorem dX8_init_21 : decode cX8_init 21 = .ok (.newarray .int, 2) := by decide +kernel
theorem dX8_init_23 : decode cX8_init 23 = .ok (.putfield 19, 3) := by decide +kernel
theorem dX8_init_26 : decode cX8_init 26 = .ok (.aload_n 0, 1) := by decide +kernel
theorem dX8_init_27 : decode cX8_init 27 = .ok (.bipush 36, 2) := by decide +kernel
theorem dX8_init_29 : decode cX8_init 29 = .ok (.newarray .int, 2) := by decide +kernel
theorem dX8_init_31 : decode cX8_init 31 = .ok (.putfield 23, 3) := by decide +kernel
theorem dX8_init_34 : decode cX8_init 34 = .ok (.return_, 1) := by decide +kernel
theorem dX8_raise_0 : decode cX8_raise 0 = .ok (.iconst 0, 1) := by decide +kernel
theorem dX8_raise_1 : decode cX8_raise 1 = .ok (.istore 5, 2) := by decide +kernel
theorem dX8_raise_3 : decode cX8_raise 3 = .ok (.iload_n 2, 1) := by decide +kernel
theorem dX8_raise_4 : decode cX8_raise 4 = .ok (.istore 6, 2) := by decide +kernel
theorem dX8_raise_6 : decode cX8_raise 6 = .ok (.iload 6, 2) := by decide +kernel
theorem dX8_raise_8 : decode cX8_raise 8 = .ok (.iload_n 3, 1) := by decide +kernel
theorem dX8_raise_9 : decode cX8_raise 9 = .ok (.if_icmp .gt 42, 3) := by decide +kernel
theorem dX8_raise_12 : decode cX8_raise 12 = .ok (.iload_n 1, 1) := by decide +kernel
theorem dX8_raise_13 : decode cX8_raise 13 = .ok (.bipush 24, 2) := by decide +kernel
theorem dX8_raise_15 : decode cX8_raise 15 = .ok (.imul, 1) := by decide +kernel
theorem dX8_raise_16 : decode cX8_raise 16 = .ok (.iload 6, 2) := by decide +kernel
theorem dX8_raise_18 : decode cX8_raise 18 = .ok (.iadd, 1) := by decide +kernel
theorem dX8_raise_19 : decode cX8_raise 19 = .ok (.istore 7, 2) := by decide +kernel
theorem dX8_raise_21 : decode cX8_raise 21 = .ok (.aload_n 0, 1) := by decide +kernel
theorem dX8_raise_22 : decode cX8_raise 22 = .ok (.getfield 9, 3) := by decide +kernel
theorem dX8_raise_25 : decode cX8_raise 25 = .ok (.iload 7, 2) := by decide +kernel
theorem dX8_raise_27 : decode cX8_raise 27 = .ok (.baload, 1) := by decide +kernel
theorem dX8_raise_28 : decode cX8_raise 28 = .ok (.iload 4, 2) := by decide +kernel
theorem dX8_raise_30 : decode cX8_raise 30 = .ok (.if_icmp .eq 15, 3) := by decide +kernel
theorem dX8_raise_33 : decode cX8_raise 33 = .ok (.aload_n 0, 1) := by decide +kernel
theorem dX8_raise_34 : decode cX8_raise 34 = .ok (.getfield 9, 3) := by decide +kernel
theorem dX8_raise_37 : decode cX8_raise 37 = .ok (.iload 7, 2) := by decide +kernel
theorem dX8_raise_39 : decode cX8_raise 39 = .ok (.iload 4, 2) := by decide +kernel
theorem dX8_raise_41 : decode cX8_raise 41 = .ok (.bastore, 1) := by decide +kernel
theorem dX8_raise_42 : decode cX8_raise 42 = .ok (.iinc 5 1, 3) := by decide +kernel
theorem dX8_raise_45 : decode cX8_raise 45 = .ok (.iinc 6 1, 3) := by decide +kernel
theorem dX8_raise_48 : decode cX8_raise 48 = .ok (.goto (-42), 3) := by decide +kernel
theorem dX8_raise_51 : decode cX8_raise 51 = .ok (.aload_n 0, 1) := by decide +kernel
theorem dX8_raise_52 : decode cX8_raise 52 = .ok (.dup, 1) := by decide +kernel
theorem dX8_raise_53 : decode cX8_raise 53 = .ok (.getfield 15, 3) := by decide +kernel
theorem dX8_raise_56 : decode cX8_raise 56 = .ok (.iload 4, 2) := by decide +kernel
theorem dX8_raise_58 : decode cX8_raise 58 = .ok (.ifCond .eq 8, 3) := by decide +kernel
theorem dX8_raise_61 : decode cX8_raise 61 = .ok (.iload 5, 2) := by decide +kernel
theorem dX8_raise_63 : decode cX8_raise 63 = .ok (.goto 6, 3) := by decide +kernel
theorem dX8_raise_66 : decode cX8_raise 66 = .ok (.iload 5, 2) := by decide +kernel
theorem dX8_raise_68 : decode cX8_raise 68 = .ok (.ineg, 1) := by decide +kernel
theorem dX8_raise_69 : decode cX8_raise 69 = .ok (.iadd, 1) := by decide +kernel
theorem dX8_raise_70 : decode cX8_raise 70 = .ok (.putfield 15, 3) := by decide +kernel
theorem dX8_raise_73 : decode cX8_raise 73 = .ok (.iload 5, 2) := by decide +kernel
theorem dX8_raise_75 : decode cX8_raise 75 = .ok (.ireturn, 1) := by decide +kernel
set_option maxRecDepth 20000 in
theorem ggX8_isDry_X11_isPlace : GoodIn wsX8_isDry wsX11_isPlace := goodIn_r _ [4, 5, 6, 3, 7] (by decide +kernel) (by decide +kernel)
set_option maxRecDepth 20000 in
theorem gX8_isDry_X11_isPlace_n26 : GoodIn wsX8_isDry (wsX11_isPlace) := ggX8_isDry_X11_isPlace
theorem dX8_isDry_0 : decode cX8_isDry 0 = .ok (.iload_n 1, 1) := by decide +kernel
theorem dX8_isDry_1 : decode cX8_isDry 1 = .ok (.iload_n 2, 1) := by decide +kernel
theorem dX8_isDry_2 : decode cX8_isDry 2 = .ok (.invokestatic 26, 3) := by decide +kernel
theorem dX8_isDry_5 : decode cX8_isDry 5 = .ok (.ifCond .eq 27, 3) := by decide +kernel
theorem dX8_isDry_8 : decode cX8_isDry 8 = .ok (.aload_n 0, 1) := by decide +kernel
theorem dX8_isDry_9 : decode cX8_isDry 9 = .ok (.getfield 9, 3) := by decide +kernel
theorem dX8_isDry_12 : decode cX8_isDry 12 = .ok (.iload_n 2, 1) := by decide +kernel
theorem dX8_isDry_13 : decode cX8_isDry 13 = .ok (.bipush 10, 2) := by decide +kernel
theorem dX8_isDry_15 : decode cX8_isDry 15 = .ok (.idiv, 1) := by decide +kernel
theorem dX8_isDry_16 : decode cX8_isDry 16 = .ok (.bipush 24, 2) := by decide +kernel
theorem dX8_isDry_18 : decode cX8_isDry 18 = .ok (.imul, 1) := by decide +kernel
theorem dX8_isDry_19 : decode cX8_isDry 19 = .ok (.iload_n 1, 1) := by decide +kernel
theorem dX8_isDry_20 : decode cX8_isDry 20 = .ok (.bipush 10, 2) := by decide +kernel
theorem dX8_isDry_22 : decode cX8_isDry 22 = .ok (.idiv, 1) := by decide +kernel
theorem dX8_isDry_23 : decode cX8_isDry 23 = .ok (.iadd, 1) := by decide +kernel
theorem dX8_isDry_24 : decode cX8_isDry 24 = .ok (.baload, 1) := by decide +kernel
theorem dX8_isDry_25 : decode cX8_isDry 25 = .ok (.ifCond .eq 7, 3) := by decide +kernel
theorem dX8_isDry_28 : decode cX8_isDry 28 = .ok (.iconst 1, 1) := by decide +kernel
theorem dX8_isDry_29 : decode cX8_isDry 29 = .ok (.goto 4, 3) := by decide +kernel
theorem dX8_isDry_32 : decode cX8_isDry 32 = .ok (.iconst 0, 1) := by decide +kernel
theorem dX8_isDry_33 : decode cX8_isDry 33 = .ok (.ireturn, 1) := by decide +kernel
theorem dX8_turnTide_0 : decode cX8_turnTide 0 = .ok (.aload_n 0, 1) := by decide +kernel
theorem dX8_turnTide_1 : decode cX8_turnTide 1 = .ok (.getfield 19, 3) := by decide +kernel
theorem dX8_turnTide_4 : decode cX8_turnTide 4 = .ok (.iload_n 1, 1) := by decide +kernel
theorem dX8_turnTide_5 : decode cX8_turnTide 5 = .ok (.iaload, 1) := by decide +kernel
theorem dX8_turnTide_6 : decode cX8_turnTide 6 = .ok (.iload_n 2, 1) := by decide +kernel
theorem dX8_turnTide_7 : decode cX8_turnTide 7 = .ok (.if_icmp .ne 13, 3) := by decide +kernel
theorem dX8_turnTide_10 : decode cX8_turnTide 10 = .ok (.aload_n 0, 1) := by decide +kernel
theorem dX8_turnTide_11 : decode cX8_turnTide 11 = .ok (.getfield 23, 3) := by decide +kernel
theorem dX8_turnTide_14 : decode cX8_turnTide 14 = .ok (.iload_n 1, 1) := by decide +kernel
theorem dX8_turnTide_15 : decode cX8_turnTide 15 = .ok (.iaload, 1) := by decide +kernel
theorem dX8_turnTide_16 : decode cX8_turnTide 16 = .ok (.iload_n 3, 1) := by decide +kernel
theorem dX8_turnTide_17 : decode cX8_turnTide 17 = .ok (.if_icmp .eq 7, 3) := by decide +kernel
theorem dX8_turnTide_20 : decode cX8_turnTide 20 = .ok (.iconst 1, 1) := by decide +kernel
theorem dX8_turnTide_21 : decode cX8_turnTide 21 = .ok (.goto 4, 3) := by decide +kernel
theorem dX8_turnTide_24 : decode cX8_turnTide 24 = .ok (.iconst 0, 1) := by decide +kernel
theorem dX8_turnTide_25 : decode cX8_turnTide 25 = .ok (.istore 4, 2) := by decide +kernel
theorem dX8_turnTide_27 : decode cX8_turnTide 27 = .ok (.aload_n 0, 1) := by decide +kernel
theorem dX8_turnTide_28 : decode cX8_turnTide 28 = .ok (.getfield 19, 3) := by decide +kernel
theorem dX8_turnTide_31 : decode cX8_turnTide 31 = .ok (.iload_n 1, 1) := by decide +kernel
theorem dX8_turnTide_32 : decode cX8_turnTide 32 = .ok (.iload_n 2, 1) := by decide +kernel
theorem dX8_turnTide_33 : decode cX8_turnTide 33 = .ok (.iastore, 1) := by decide +kernel
theorem dX8_turnTide_34 : decode cX8_turnTide 34 = .ok (.aload_n 0, 1) := by decide +kernel
theorem dX8_turnTide_35 : decode cX8_turnTide 35 = .ok (.getfield 23, 3) := by decide +kernel
theorem dX8_turnTide_38 : decode cX8_turnTide 38 = .ok (.iload_n 1, 1) := by decide +kernel
theorem dX8_turnTide_39 : decode cX8_turnTide 39 = .ok (.iload_n 3, 1) := by decide +kernel
theorem dX8_turnTide_40 : decode cX8_turnTide 40 = .ok (.iastore, 1) := by decide +kernel
theorem dX8_turnTide_41 : decode cX8_turnTide 41 = .ok (.iload 4, 2) := by decide +kernel
theorem dX8_turnTide_43 : decode cX8_turnTide 43 = .ok (.ireturn, 1) := by decide +kernel
theorem dX9_init_0 : decode cX9_init 0 = .ok (.aload_n 0, 1) := by decide +kernel
theorem dX9_init_1 : decode cX9_init 1 = .ok (.invokespecial 3, 3) := by decide +kernel
theorem dX9_init_4 : decode cX9_init 4 = .ok (.aload_n 0, 1) := by decide +kernel
theorem dX9_init_5 : decode cX9_init 5 = .ok (.iconst 0, 1) := by decide +kernel
theorem dX9_init_6 : decode cX9_init 6 = .ok (.putfield 9, 3) := by decide +kernel
theorem dX9_init_9 : decode cX9_init 9 = .ok (.aload_n 0, 1) := by decide +kernel
theorem dX9_init_10 : decode cX9_init 10 = .ok (.iconst 0, 1) := by decide +kernel
theorem dX9_init_11 : decode cX9_init 11 = .ok (.putfield 15, 3) := by decide +kernel
theorem dX9_init_14 : decode cX9_init 14 = .ok (.aload_n 0, 1) := by decide +kernel
theorem dX9_init_15 : decode cX9_init 15 = .ok (.iconst 0, 1) := by decide +kernel
theorem dX9_init_16 : decode cX9_init 16 = .ok (.putfield 18, 3) := by decide +kernel
theorem dX9_init_19 : decode cX9_init 19 = .ok (.aload_n 0, 1) := by decide +kernel
theorem dX9_init_20 : decode cX9_init 20 = .ok (.bipush 101, 2) := by decide +kernel
theorem dX9_init_22 : decode cX9_init 22 = .ok (.newarray .int, 2) := by decide +kernel
theorem dX9_init_24 : decode cX9_init 24 = .ok (.putfield 21, 3) := by decide +kernel
theorem dX9_init_27 : decode cX9_init 27 = .ok (.aload_n 0, 1) := by decide +kernel
theorem dX9_init_28 : decode cX9_init 28 = .ok (.bipush 101, 2) := by decide +kernel
theorem dX9_init_30 : decode cX9_init 30 = .ok (.newarray .int, 2) := by decide +kernel
theorem dX9_init_32 : decode cX9_init 32 = .ok (.putfield 25, 3) := by decide +kernel
theorem dX9_init_35 : decode cX9_init 35 = .ok (.aload_n 0, 1) := by decide +kernel
theorem dX9_init_36 : decode cX9_init 36 = .ok (.bipush 100, 2) := by decide +kernel
theorem dX9_init_38 : decode cX9_init 38 = .ok (.newarray .int, 2) := by decide +kernel
theorem dX9_init_40 : decode cX9_init 40 = .ok (.putfield 28, 3) := by decide +kernel
theorem dX9_init_43 : decode cX9_init 43 = .ok (.aload_n 0, 1) := by decide +kernel
theorem dX9_init_44 : decode cX9_init 44 = .ok (.bipush 101, 2) := by decide +kernel
theorem dX9_init_46 : decode cX9_init 46 = .ok (.newarray .int, 2) := by decide +kernel
theorem dX9_init_48 : decode cX9_init 48 = .ok (.putfield 31, 3) := by decide +kernel
theorem dX9_init_51 : decode cX9_init 51 = .ok (.aload_n 0, 1) := by decide +kernel
theorem dX9_init_52 : decode cX9_init 52 = .ok (.iconst 0, 1) := by decide +kernel
theorem dX9_init_53 : decode cX9_init 53 = .ok (.putfield 34, 3) := by decide +kernel
theorem dX9_init_56 : decode cX9_init 56 = .ok (.aload_n 0, 1) := by decide +kernel
theorem dX9_init_57 : decode cX9_init 57 = .ok (.iconst 0, 1) := by decide +kernel
theorem dX9_init_58 : decode cX9_init 58 = .ok (.putfield 37, 3) := by decide +kernel
theorem dX9_init_61 : decode cX9_init 61 = .ok (.return_, 1) := by decide +kernel
theorem dX9_hasBeen_0 : decode cX9_hasBeen 0 = .ok (.aload_n 0, 1) := by decide +kernel
theorem dX9_hasBeen_1 : decode cX9_hasBeen 1 = .ok (.getfield 15, 3) := by decide +kernel
theorem dX9_hasBeen_4 : decode cX9_hasBeen 4 = .ok (.ifCond .le 7, 3) := by decide +kernel
theorem dX9_hasBeen_7 : decode cX9_hasBeen 7 = .ok (.iconst 1, 1) := by decide +kernel
theorem dX9_hasBeen_8 : decode cX9_hasBeen 8 = .ok (.goto 4, 3) := by decide +kernel
theorem dX9_hasBeen_11 : decode cX9_hasBeen 11 = .ok (.iconst 0, 1) := by decide +kernel
theorem dX9_hasBeen_12 : decode cX9_hasBeen 12 = .ok (.ireturn, 1) := by decide +kernel
set_option maxRecDepth 20000 in
theorem ggX9_ready_X3_strideIn : GoodIn wsX9_ready wsX3_strideIn := goodIn_r _ [17, 18, 19, 20, 21, 16, 22, 23, 24, 25, 26, 27, 28, 29, 30, 31, 32, 33, 34, 8, 9, 10, 35, 36, 37, 38, 39, 40, 41, 42, 43, 44, 45, 75, 76, 77, 78, 79, 80, 81, 82, 83, 84, 85, 86, 87, 88, 89, 90] (by decide +kernel) (by decide +kernel)
set_option maxRecDepth 20000 in
theorem gX9_ready_X3_strideIn_u44X0 : GoodIn wsX9_ready (va_wsU RX9 44 RX0 "StraitSwim$Plain" ⟨"StraitSwim$Plain", "strideIn", "(I)I"⟩ yX3_strideIn wsX3_strideIn) := goodIn_app (goodIn_of _ (by decide +kernel)) ggX9_ready_X3_strideIn
set_option maxRecDepth 20000 in
theorem gX9_ready_X3_strideIn : GoodIn wsX9_ready (wsV RX9 44 RX3 yX3_strideIn wsX3_strideIn) := goodIn_app (goodIn_of _ (by decide +kernel)) ggX9_ready_X3_strideIn
set_option maxRecDepth 20000 in
theorem gX9_ready_X3_strideIn_u44X4 : GoodIn wsX9_ready (va_wsU RX9 44 RX4 "StraitSwim$Plain" ⟨"StraitSwim$Plain", "strideIn", "(I)I"⟩ yX3_strideIn wsX3_strideIn) := goodIn_app (goodIn_of _ (by decide +kernel)) ggX9_ready_X3_strideIn
set_option maxRecDepth 20000 in
theorem gX9_ready_X3_strideIn_u44X6 : GoodIn wsX9_ready (va_wsU RX9 44 RX6 "StraitSwim$Plain" ⟨"StraitSwim$Plain", "strideIn", "(I)I"⟩ yX3_strideIn wsX3_strideIn) := goodIn_app (goodIn_of _ (by decide +kernel)) ggX9_ready_X3_strideIn
set_option maxRecDepth 20000 in
theorem ggX9_ready_X0_coldIn : GoodIn wsX9_ready wsX0_coldIn := goodIn_r _ [56, 57, 8, 9, 10, 58, 51, 59, 60, 16, 61] (by decide +kernel) (by decide +kernel)
set_option maxRecDepth 20000 in
theorem gX9_ready_X0_coldIn_u48X0 : GoodIn wsX9_ready (va_wsO RX9 48 RX0 "StraitSwim$Plain" ⟨"StraitSwim$Plain", "coldIn", "(II)I"⟩ yX0_coldIn wsX0_coldIn) := goodIn_app (goodIn_of _ (by decide +kernel)) ggX9_ready_X0_coldIn
set_option maxRecDepth 20000 in
theorem ggX9_ready_X3_coldIn : GoodIn wsX9_ready wsX3_coldIn := goodIn_r _ [61] (by decide +kernel) (by decide +kernel)
set_option maxRecDepth 20000 in
theorem gX9_ready_X3_coldIn : GoodIn wsX9_ready (wsV RX9 48 RX3 yX3_coldIn wsX3_coldIn) := goodIn_app (goodIn_of _ (by decide +kernel)) ggX9_ready_X3_coldIn
set_option maxRecDepth 20000 in
theorem gX9_ready_X3_coldIn_u48X4 : GoodIn wsX9_ready (va_wsU RX9 48 RX4 "StraitSwim$Plain" ⟨"StraitSwim$Plain", "coldIn", "(II)I"⟩ yX3_coldIn wsX3_coldIn) := goodIn_app (goodIn_of _ (by decide +kernel)) ggX9_ready_X3_coldIn
set_option maxRecDepth 20000 in
theorem ggX9_ready_X6_coldIn : GoodIn wsX9_ready wsX6_coldIn := goodIn_r _ [68, 69, 8, 9, 10, 70, 71, 72, 54, 55, 56, 57, 58, 51, 59, 60, 16, 61] (by decide +kernel) (by decide +kernel)
set_option maxRecDepth 20000 in
theorem gX9_ready_X6_coldIn_u48X6 : GoodIn wsX9_ready (va_wsO RX9 48 RX6 "StraitSwim$Plain" ⟨"StraitSwim$Plain", "coldIn", "(II)I"⟩ yX6_coldIn wsX6_coldIn) := goodIn_app (goodIn_of _ (by decide +kernel)) ggX9_ready_X6_coldIn
set_option maxRecDepth 20000 in
theorem ggX9_ready_X3_feedsIn : GoodIn wsX9_ready wsX3_feedsIn := goodIn_r _ [22, 23, 75, 76, 77, 78, 79, 80, 81, 82, 83, 84, 85, 86, 87, 88, 89, 90] (by decide +kernel) (by decide +kernel)
set_option maxRecDepth 20000 in
theorem gX9_ready_X3_feedsIn_u52X0 : GoodIn wsX9_ready (va_wsU RX9 52 RX0 "StraitSwim$Plain" ⟨"StraitSwim$Plain", "feedsIn", "(I)Z"⟩ yX3_feedsIn wsX3_feedsIn) := goodIn_app (goodIn_of _ (by decide +kernel)) ggX9_ready_X3_feedsIn
set_option maxRecDepth 20000 in
theorem gX9_ready_X3_feedsIn : GoodIn wsX9_ready (wsV RX9 52 RX3 yX3_feedsIn wsX3_feedsIn) := goodIn_app (goodIn_of _ (by decide +kernel)) ggX9_ready_X3_feedsIn
set_option maxRecDepth 20000 in
theorem gX9_ready_X3_feedsIn_u52X4 : GoodIn wsX9_ready (va_wsU RX9 52 RX4 "StraitSwim$Plain" ⟨"StraitSwim$Plain", "feedsIn", "(I)Z"⟩ yX3_feedsIn wsX3_feedsIn) := goodIn_app (goodIn_of _ (by decide +kernel)) ggX9_ready_X3_feedsIn
set_option maxRecDepth 20000 in
theorem gX9_ready_X3_feedsIn_u52X6 : GoodIn wsX9_ready (va_wsU RX9 52 RX6 "StraitSwim$Plain" ⟨"StraitSwim$Plain", "feedsIn", "(I)Z"⟩ yX3_feedsIn wsX3_feedsIn) := goodIn_app (goodIn_of _ (by decide +kernel)) ggX9_ready_X3_feedsIn
theorem dX9_ready_0 : decode cX9_ready 0 = .ok (.aload_n 0, 1) := by decide +kernel
theorem dX9_ready_1 : decode cX9_ready 1 = .ok (.aload_n 1, 1) := by decide +kernel
theorem dX9_ready_2 : decode cX9_ready 2 = .ok (.getfield 41, 3) := by decide +kernel
theorem dX9_ready_5 : decode cX9_ready 5 = .ok (.putfield 9, 3) := by decide +kernel
theorem dX9_ready_8 : decode cX9_ready 8 = .ok (.aload_n 0, 1) := by decide +kernel
theorem dX9_ready_9 : decode cX9_ready 9 = .ok (.iconst 0, 1) := by decide +kernel
theorem dX9_ready_10 : decode cX9_ready 10 = .ok (.putfield 34, 3) := by decide +kernel
theorem dX9_ready_13 : decode cX9_ready 13 = .ok (.aload_n 0, 1) := by decide +kernel
theorem dX9_ready_14 : decode cX9_ready 14 = .ok (.iconst 0, 1) := by decide +kernel
theorem dX9_ready_15 : decode cX9_ready 15 = .ok (.putfield 37, 3) := by decide +kernel
theorem dX9_ready_18 : decode cX9_ready 18 = .ok (.iconst 0, 1) := by decide +kernel
theorem dX9_ready_19 : decode cX9_ready 19 = .ok (.istore_n 3, 1) := by decide +kernel
theorem dX9_ready_20 : decode cX9_ready 20 = .ok (.iload_n 3, 1) := by decide +kernel
theorem dX9_ready_21 : decode cX9_ready 21 = .ok (.bipush 100, 2) := by decide +kernel
theorem dX9_ready_23 : decode cX9_ready 23 = .ok (.if_icmp .ge 103, 3) := by decide +kernel
theorem dX9_ready_26 : decode cX9_ready 26 = .ok (.aload_n 0, 1) := by decide +kernel
theorem dX9_ready_27 : decode cX9_ready 27 = .ok (.getfield 37, 3) := by decide +kernel
theorem dX9_ready_30 : decode cX9_ready 30 = .ok (.ifCond .ne 96, 3) := by decide +kernel
theorem dX9_ready_33 : decode cX9_ready 33 = .ok (.aload_n 0, 1) := by decide +kernel
theorem dX9_ready_34 : decode cX9_ready 34 = .ok (.getfield 28, 3) := by decide +kernel
theorem dX9_ready_37 : decode cX9_ready 37 = .ok (.iload_n 3, 1) := by decide +kernel
theorem dX9_ready_38 : decode cX9_ready 38 = .ok (.aload_n 1, 1) := by decide +kernel
theorem dX9_ready_39 : decode cX9_ready 39 = .ok (.iload_n 3, 1) := by decide +kernel
theorem dX9_ready_40 : decode cX9_ready 40 = .ok (.invokevirtual 44, 3) := by decide +kernel
theorem dX9_ready_43 : decode cX9_ready 43 = .ok (.iastore, 1) := by decide +kernel
theorem dX9_ready_44 : decode cX9_ready 44 = .ok (.aload_n 0, 1) := by decide +kernel
theorem dX9_ready_45 : decode cX9_ready 45 = .ok (.getfield 31, 3) := by decide +kernel
theorem dX9_ready_48 : decode cX9_ready 48 = .ok (.iload_n 3, 1) := by decide +kernel
theorem dX9_ready_49 : decode cX9_ready 49 = .ok (.iaload, 1) := by decide +kernel
theorem dX9_ready_50 : decode cX9_ready 50 = .ok (.aload_n 1, 1) := by decide +kernel
theorem dX9_ready_51 : decode cX9_ready 51 = .ok (.iload_n 3, 1) := by decide +kernel
theorem dX9_ready_52 : decode cX9_ready 52 = .ok (.iload_n 2, 1) := by decide +kernel
theorem dX9_ready_53 : decode cX9_ready 53 = .ok (.invokevirtual 48, 3) := by decide +kernel
theorem dX9_ready_56 : decode cX9_ready 56 = .ok (.iadd, 1) := by decide +kernel
theorem dX9_ready_57 : decode cX9_ready 57 = .ok (.istore 4, 2) := by decide +kernel
theorem dX9_ready_59 : decode cX9_ready 59 = .ok (.aload_n 0, 1) := by decide +kernel
theorem dX9_ready_60 : decode cX9_ready 60 = .ok (.getfield 31, 3) := by decide +kernel
theorem dX9_ready_63 : decode cX9_ready 63 = .ok (.iload_n 3, 1) := by decide +kernel
theorem dX9_ready_64 : decode cX9_ready 64 = .ok (.iconst 1, 1) := by decide +kernel
theorem dX9_ready_65 : decode cX9_ready 65 = .ok (.iadd, 1) := by decide +kernel
theorem dX9_ready_66 : decode cX9_ready 66 = .ok (.aload_n 1, 1) := by decide +kernel
theorem dX9_ready_67 : decode cX9_ready 67 = .ok (.iload_n 3, 1) := by decide +kernel
theorem dX9_ready_68 : decode cX9_ready 68 = .ok (.invokevirtual 52, 3) := by decide +kernel
theorem dX9_ready_71 : decode cX9_ready 71 = .ok (.ifCond .eq 14, 3) := by decide +kernel
theorem dX9_ready_74 : decode cX9_ready 74 = .ok (.iconst 0, 1) := by decide +kernel
theorem dX9_ready_75 : decode cX9_ready 75 = .ok (.iload 4, 2) := by decide +kernel
theorem dX9_ready_77 : decode cX9_ready 77 = .ok (.iconst 3, 1) := by decide +kernel
theorem dX9_ready_78 : decode cX9_ready 78 = .ok (.isub, 1) := by decide +kernel
theorem dX9_ready_79 : decode cX9_ready 79 = .ok (.invokestatic 56, 3) := by decide +kernel
theorem dX9_ready_82 : decode cX9_ready 82 = .ok (.goto 5, 3) := by decide +kernel
theorem dX9_ready_85 : decode cX9_ready 85 = .ok (.iload 4, 2) := by decide +kernel
theorem dX9_ready_87 : decode cX9_ready 87 = .ok (.iastore, 1) := by decide +kernel
theorem dX9_ready_88 : decode cX9_ready 88 = .ok (.aload_n 0, 1) := by decide +kernel
theorem dX9_ready_89 : decode cX9_ready 89 = .ok (.iload_n 3, 1) := by decide +kernel
theorem dX9_ready_90 : decode cX9_ready 90 = .ok (.iconst 1, 1) := by decide +kernel
theorem dX9_ready_91 : decode cX9_ready 91 = .ok (.iadd, 1) := by decide +kernel
theorem dX9_ready_92 : decode cX9_ready 92 = .ok (.putfield 34, 3) := by decide +kernel
theorem dX9_ready_95 : decode cX9_ready 95 = .ok (.aload_n 0, 1) := by decide +kernel
theorem dX9_ready_96 : decode cX9_ready 96 = .ok (.aload_n 0, 1) := by decide +kernel
theorem dX9_ready_97 : decode cX9_ready 97 = .ok (.getfield 31, 3) := by decide +kernel
theorem dX9_ready_100 : decode cX9_ready 100 = .ok (.aload_n 0, 1) := by decide +kernel
theorem dX9_ready_101 : decode cX9_ready 101 = .ok (.getfield 34, 3) := by decide +kernel
theorem dX9_ready_104 : decode cX9_ready 104 = .ok (.iaload, 1) := by decide +kernel
theorem dX9_ready_105 : decode cX9_ready 105 = .ok (.aload_n 1, 1) := by decide +kernel
theorem dX9_ready_106 : decode cX9_ready 106 = .ok (.getfield 61, 3) := by decide +kernel
theorem dX9_ready_109 : decode cX9_ready 109 = .ok (.if_icmp .lt 7, 3) := by decide +kernel
theorem dX9_ready_112 : decode cX9_ready 112 = .ok (.iconst 1, 1) := by decide +kernel
theorem dX9_ready_113 : decode cX9_ready 113 = .ok (.goto 4, 3) := by decide +kernel
theorem dX9_ready_116 : decode cX9_ready 116 = .ok (.iconst 0, 1) := by decide +kernel
theorem dX9_ready_117 : decode cX9_ready 117 = .ok (.putfield 37, 3) := by decide +kernel
theorem dX9_ready_120 : decode cX9_ready 120 = .ok (.iinc 3 1, 3) := by decide +kernel
theorem dX9_ready_123 : decode cX9_ready 123 = .ok (.goto (-103), 3) := by decide +kernel
theorem dX9_ready_126 : decode cX9_ready 126 = .ok (.return_, 1) := by decide +kernel
set_option maxRecDepth 20000 in
theorem ggX9_cross_X9_staysWithin : GoodIn wsX9_cross wsX9_staysWithin := goodIn_r _ [12, 13, 3, 2, 14, 15, 1, 16, 17, 18, 19, 20, 21, 22, 23, 30, 31, 32, 33, 34, 35, 36, 37, 38, 39, 40, 41, 42] (by decide +kernel) (by decide +kernel)
set_option maxRecDepth 20000 in
theorem gX9_cross_X9_staysWithin : GoodIn wsX9_cross (wsV RX9 64 RX9 yX9_staysWithin wsX9_staysWithin) := goodIn_app (goodIn_of _ (by decide +kernel)) ggX9_cross_X9_staysWithin
set_option maxRecDepth 20000 in
theorem ggX9_cross_X8_isDry : GoodIn wsX9_cross wsX8_isDry := goodIn_r _ [28, 29, 19, 17, 20, 21, 22, 23, 39, 40, 41, 42] (by decide +kernel) (by decide +kernel)
set_option maxRecDepth 20000 in
theorem gX9_cross_X8_isDry : GoodIn wsX9_cross (wsV RX9 68 RX8 yX8_isDry wsX8_isDry) := goodIn_app (goodIn_of _ (by decide +kernel)) ggX9_cross_X8_isDry
theorem dX9_cross_0 : decode cX9_cross 0 = .ok (.aload_n 0, 1) := by decide +kernel
theorem dX9_cross_1 : decode cX9_cross 1 = .ok (.iconst 0, 1) := by decide +kernel
theorem dX9_cross_2 : decode cX9_cross 2 = .ok (.putfield 15, 3) := by decide +kernel
theorem dX9_cross_5 : decode cX9_cross 5 = .ok (.aload_n 0, 1) := by decide +kernel
theorem dX9_cross_6 : decode cX9_cross 6 = .ok (.getfield 21, 3) := by decide +kernel
theorem dX9_cross_9 : decode cX9_cross 9 = .ok (.iconst 0, 1) := by decide +kernel
theorem dX9_cross_10 : decode cX9_cross 10 = .ok (.iload_n 2, 1) := by decide +kernel
theorem dX9_cross_11 : decode cX9_cross 11 = .ok (.iastore, 1) := by decide +kernel
theorem dX9_cross_12 : decode cX9_cross 12 = .ok (.aload_n 0, 1) := by decide +kernel
theorem dX9_cross_13 : decode cX9_cross 13 = .ok (.getfield 25, 3) := by decide +kernel
theorem dX9_cross_16 : decode cX9_cross 16 = .ok (.iconst 0, 1) := by decide +kernel
theorem dX9_cross_17 : decode cX9_cross 17 = .ok (.iload_n 3, 1) := by decide +kernel
theorem dX9_cross_18 : decode cX9_cross 18 = .ok (.iastore, 1) := by decide +kernel
theorem dX9_cross_19 : decode cX9_cross 19 = .ok (.aload_n 0, 1) := by decide +kernel
theorem dX9_cross_20 : decode cX9_cross 20 = .ok (.getfield 37, 3) := by decide +kernel
theorem dX9_cross_23 : decode cX9_cross 23 = .ok (.ifCond .eq 7, 3) := by decide +kernel
theorem dX9_cross_26 : decode cX9_cross 26 = .ok (.iconst 1, 1) := by decide +kernel
theorem dX9_cross_27 : decode cX9_cross 27 = .ok (.goto 4, 3) := by decide +kernel
theorem dX9_cross_30 : decode cX9_cross 30 = .ok (.iconst 3, 1) := by decide +kernel
theorem dX9_cross_31 : decode cX9_cross 31 = .ok (.istore 6, 2) := by decide +kernel
theorem dX9_cross_33 : decode cX9_cross 33 = .ok (.iconst 0, 1) := by decide +kernel
theorem dX9_cross_34 : decode cX9_cross 34 = .ok (.istore 7, 2) := by decide +kernel
theorem dX9_cross_36 : decode cX9_cross 36 = .ok (.iload 7, 2) := by decide +kernel
theorem dX9_cross_38 : decode cX9_cross 38 = .ok (.aload_n 0, 1) := by decide +kernel
theorem dX9_cross_39 : decode cX9_cross 39 = .ok (.getfield 34, 3) := by decide +kernel
theorem dX9_cross_42 : decode cX9_cross 42 = .ok (.if_icmp .ge 63, 3) := by decide +kernel
theorem dX9_cross_45 : decode cX9_cross 45 = .ok (.aload_n 0, 1) := by decide +kernel
theorem dX9_cross_46 : decode cX9_cross 46 = .ok (.aload_n 1, 1) := by decide +kernel
theorem dX9_cross_47 : decode cX9_cross 47 = .ok (.iload 7, 2) := by decide +kernel
theorem dX9_cross_49 : decode cX9_cross 49 = .ok (.iload 4, 2) := by decide +kernel
theorem dX9_cross_51 : decode cX9_cross 51 = .ok (.iload 7, 2) := by decide +kernel
theorem dX9_cross_53 : decode cX9_cross 53 = .ok (.iadd, 1) := by decide +kernel
theorem dX9_cross_54 : decode cX9_cross 54 = .ok (.iload 5, 2) := by decide +kernel
theorem dX9_cross_56 : decode cX9_cross 56 = .ok (.invokevirtual 64, 3) := by decide +kernel
theorem dX9_cross_59 : decode cX9_cross 59 = .ok (.ifCond .ne 9, 3) := by decide +kernel
theorem dX9_cross_62 : decode cX9_cross 62 = .ok (.iconst 2, 1) := by decide +kernel
theorem dX9_cross_63 : decode cX9_cross 63 = .ok (.istore 6, 2) := by decide +kernel
theorem dX9_cross_65 : decode cX9_cross 65 = .ok (.goto 40, 3) := by decide +kernel
theorem dX9_cross_68 : decode cX9_cross 68 = .ok (.aload_n 1, 1) := by decide +kernel
theorem dX9_cross_69 : decode cX9_cross 69 = .ok (.aload_n 0, 1) := by decide +kernel
theorem dX9_cross_70 : decode cX9_cross 70 = .ok (.getfield 21, 3) := by decide +kernel
theorem dX9_cross_73 : decode cX9_cross 73 = .ok (.iload 7, 2) := by decide +kernel
theorem dX9_cross_75 : decode cX9_cross 75 = .ok (.iconst 1, 1) := by decide +kernel
theorem dX9_cross_76 : decode cX9_cross 76 = .ok (.iadd, 1) := by decide +kernel
theorem dX9_cross_77 : decode cX9_cross 77 = .ok (.iaload, 1) := by decide +kernel
theorem dX9_cross_78 : decode cX9_cross 78 = .ok (.aload_n 0, 1) := by decide +kernel
theorem dX9_cross_79 : decode cX9_cross 79 = .ok (.getfield 25, 3) := by decide +kernel
theorem dX9_cross_82 : decode cX9_cross 82 = .ok (.iload 7, 2) := by decide +kernel
theorem dX9_cross_84 : decode cX9_cross 84 = .ok (.iconst 1, 1) := by decide +kernel
theorem dX9_cross_85 : decode cX9_cross 85 = .ok (.iadd, 1) := by decide +kernel
theorem dX9_cross_86 : decode cX9_cross 86 = .ok (.iaload, 1) := by decide +kernel
theorem dX9_cross_87 : decode cX9_cross 87 = .ok (.invokevirtual 68, 3) := by decide +kernel
theorem dX9_cross_90 : decode cX9_cross 90 = .ok (.ifCond .eq 9, 3) := by decide +kernel
theorem dX9_cross_93 : decode cX9_cross 93 = .ok (.iconst 0, 1) := by decide +kernel
theorem dX9_cross_94 : decode cX9_cross 94 = .ok (.istore 6, 2) := by decide +kernel
theorem dX9_cross_96 : decode cX9_cross 96 = .ok (.goto 9, 3) := by decide +kernel
theorem dX9_cross_99 : decode cX9_cross 99 = .ok (.iinc 7 1, 3) := by decide +kernel
theorem dX9_cross_102 : decode cX9_cross 102 = .ok (.goto (-66), 3) := by decide +kernel
theorem dX9_cross_105 : decode cX9_cross 105 = .ok (.aload_n 0, 1) := by decide +kernel
theorem dX9_cross_106 : decode cX9_cross 106 = .ok (.aload_n 0, 1) := by decide +kernel
theorem dX9_cross_107 : decode cX9_cross 107 = .ok (.getfield 31, 3) := by decide +kernel
theorem dX9_cross_110 : decode cX9_cross 110 = .ok (.iload 6, 2) := by decide +kernel
theorem dX9_cross_112 : decode cX9_cross 112 = .ok (.iconst 2, 1) := by decide +kernel
theorem dX9_cross_113 : decode cX9_cross 113 = .ok (.if_icmp .ne 12, 3) := by decide +kernel
theorem dX9_cross_116 : decode cX9_cross 116 = .ok (.aload_n 0, 1) := by decide +kernel
theorem dX9_cross_117 : decode cX9_cross 117 = .ok (.getfield 15, 3) := by decide +kernel
theorem dX9_cross_120 : decode cX9_cross 120 = .ok (.iconst 1, 1) := by decide +kernel
theorem dX9_cross_121 : decode cX9_cross 121 = .ok (.isub, 1) := by decide +kernel
theorem dX9_cross_122 : decode cX9_cross 122 = .ok (.goto 7, 3) := by decide +kernel
theorem dX9_cross_125 : decode cX9_cross 125 = .ok (.aload_n 0, 1) := by decide +kernel
theorem dX9_cross_126 : decode cX9_cross 126 = .ok (.getfield 15, 3) := by decide +kernel
theorem dX9_cross_129 : decode cX9_cross 129 = .ok (.iaload, 1) := by decide +kernel
theorem dX9_cross_130 : decode cX9_cross 130 = .ok (.putfield 18, 3) := by decide +kernel
theorem dX9_cross_133 : decode cX9_cross 133 = .ok (.iload 6, 2) := by decide +kernel
theorem dX9_cross_135 : decode cX9_cross 135 = .ok (.ireturn, 1) := by decide +kernel
set_option maxRecDepth 20000 in
theorem ggX9_staysWithin_X11_tideIndex : GoodIn wsX9_staysWithin wsX11_tideIndex := goodIn_r _ [9] (by decide +kernel) (by decide +kernel)
set_option maxRecDepth 20000 in
theorem gX9_staysWithin_X11_tideIndex_n74 : GoodIn wsX9_staysWithin (wsX11_tideIndex) := ggX9_staysWithin_X11_tideIndex
set_option maxRecDepth 20000 in
theorem ggX9_staysWithin_X11_isPlace : GoodIn wsX9_staysWithin wsX11_isPlace := goodIn_r _ [11, 12, 13, 8, 14] (by decide +kernel) (by decide +kernel)
set_option maxRecDepth 20000 in
theorem gX9_staysWithin_X11_isPlace_n89 : GoodIn wsX9_staysWithin (wsX11_isPlace) := ggX9_staysWithin_X11_isPlace
theorem dX9_staysWithin_0 : decode cX9_staysWithin 0 = .ok (.iload 4, 2) := by decide +kernel
theorem dX9_staysWithin_2 : decode cX9_staysWithin 2 = .ok (.iconst 2, 1) := by decide +kernel
theorem dX9_staysWithin_3 : decode cX9_staysWithin 3 = .ok (.irem, 1) := by decide +kernel
theorem dX9_staysWithin_4 : decode cX9_staysWithin 4 = .ok (.ifCond .ne 12, 3) := by decide +kernel
theorem dX9_staysWithin_7 : decode cX9_staysWithin 7 = .ok (.aload_n 0, 1) := by decide +kernel
theorem dX9_staysWithin_8 : decode cX9_staysWithin 8 = .ok (.getfield 28, 3) := by decide +kernel
theorem dX9_staysWithin_11 : decode cX9_staysWithin 11 = .ok (.iload_n 2, 1) := by decide +kernel
theorem dX9_staysWithin_12 : decode cX9_staysWithin 12 = .ok (.iaload, 1) := by decide +kernel
theorem dX9_staysWithin_13 : decode cX9_staysWithin 13 = .ok (.goto 15, 3) := by decide +kernel
theorem dX9_staysWithin_16 : decode cX9_staysWithin 16 = .ok (.aload_n 0, 1) := by decide +kernel
theorem dX9_staysWithin_17 : decode cX9_staysWithin 17 = .ok (.getfield 28, 3) := by decide +kernel
theorem dX9_staysWithin_20 : decode cX9_staysWithin 20 = .ok (.iload_n 2, 1) := by decide +kernel
theorem dX9_staysWithin_21 : decode cX9_staysWithin 21 = .ok (.iaload, 1) := by decide +kernel
theorem dX9_staysWithin_22 : decode cX9_staysWithin 22 = .ok (.bipush 7, 2) := by decide +kernel
theorem dX9_staysWithin_24 : decode cX9_staysWithin 24 = .ok (.imul, 1) := by decide +kernel
theorem dX9_staysWithin_25 : decode cX9_staysWithin 25 = .ok (.bipush 10, 2) := by decide +kernel
theorem dX9_staysWithin_27 : decode cX9_staysWithin 27 = .ok (.idiv, 1) := by decide +kernel
theorem dX9_staysWithin_28 : decode cX9_staysWithin 28 = .ok (.istore 5, 2) := by decide +kernel
theorem dX9_staysWithin_30 : decode cX9_staysWithin 30 = .ok (.aload_n 0, 1) := by decide +kernel
theorem dX9_staysWithin_31 : decode cX9_staysWithin 31 = .ok (.getfield 25, 3) := by decide +kernel
theorem dX9_staysWithin_34 : decode cX9_staysWithin 34 = .ok (.iload_n 2, 1) := by decide +kernel
theorem dX9_staysWithin_35 : decode cX9_staysWithin 35 = .ok (.iaload, 1) := by decide +kernel
theorem dX9_staysWithin_36 : decode cX9_staysWithin 36 = .ok (.iload_n 3, 1) := by decide +kernel
theorem dX9_staysWithin_37 : decode cX9_staysWithin 37 = .ok (.invokestatic 74, 3) := by decide +kernel
theorem dX9_staysWithin_40 : decode cX9_staysWithin 40 = .ok (.istore 6, 2) := by decide +kernel
theorem dX9_staysWithin_42 : decode cX9_staysWithin 42 = .ok (.aload_n 0, 1) := by decide +kernel
theorem dX9_staysWithin_43 : decode cX9_staysWithin 43 = .ok (.getfield 21, 3) := by decide +kernel
theorem dX9_staysWithin_46 : decode cX9_staysWithin 46 = .ok (.iload_n 2, 1) := by decide +kernel
theorem dX9_staysWithin_47 : decode cX9_staysWithin 47 = .ok (.iaload, 1) := by decide +kernel
theorem dX9_staysWithin_48 : decode cX9_staysWithin 48 = .ok (.getstatic 77, 3) := by decide +kernel
theorem dX9_staysWithin_51 : decode cX9_staysWithin 51 = .ok (.iload 4, 2) := by decide +kernel
theorem dX9_staysWithin_53 : decode cX9_staysWithin 53 = .ok (.iaload, 1) := by decide +kernel
theorem dX9_staysWithin_54 : decode cX9_staysWithin 54 = .ok (.iload 5, 2) := by decide +kernel
theorem dX9_staysWithin_56 : decode cX9_staysWithin 56 = .ok (.imul, 1) := by decide +kernel
theorem dX9_staysWithin_57 : decode cX9_staysWithin 57 = .ok (.iadd, 1) := by decide +kernel
theorem dX9_staysWithin_58 : decode cX9_staysWithin 58 = .ok (.aload_n 1, 1) := by decide +kernel
theorem dX9_staysWithin_59 : decode cX9_staysWithin 59 = .ok (.getfield 80, 3) := by decide +kernel
theorem dX9_staysWithin_62 : decode cX9_staysWithin 62 = .ok (.iload 6, 2) := by decide +kernel
theorem dX9_staysWithin_64 : decode cX9_staysWithin 64 = .ok (.iaload, 1) := by decide +kernel
theorem dX9_staysWithin_65 : decode cX9_staysWithin 65 = .ok (.iadd, 1) := by decide +kernel
theorem dX9_staysWithin_66 : decode cX9_staysWithin 66 = .ok (.istore 7, 2) := by decide +kernel
theorem dX9_staysWithin_68 : decode cX9_staysWithin 68 = .ok (.aload_n 0, 1) := by decide +kernel
theorem dX9_staysWithin_69 : decode cX9_staysWithin 69 = .ok (.getfield 25, 3) := by decide +kernel
theorem dX9_staysWithin_72 : decode cX9_staysWithin 72 = .ok (.iload_n 2, 1) := by decide +kernel
theorem dX9_staysWithin_73 : decode cX9_staysWithin 73 = .ok (.iaload, 1) := by decide +kernel
theorem dX9_staysWithin_74 : decode cX9_staysWithin 74 = .ok (.getstatic 83, 3) := by decide +kernel
theorem dX9_staysWithin_77 : decode cX9_staysWithin 77 = .ok (.iload 4, 2) := by decide +kernel
theorem dX9_staysWithin_79 : decode cX9_staysWithin 79 = .ok (.iaload, 1) := by decide +kernel
theorem dX9_staysWithin_80 : decode cX9_staysWithin 80 = .ok (.iload 5, 2) := by decide +kernel
theorem dX9_staysWithin_82 : decode cX9_staysWithin 82 = .ok (.imul, 1) := by decide +kernel
theorem dX9_staysWithin_83 : decode cX9_staysWithin 83 = .ok (.iadd, 1) := by decide +kernel
theorem dX9_staysWithin_84 : decode cX9_staysWithin 84 = .ok (.aload_n 1, 1) := by decide +kernel
theorem dX9_staysWithin_85 : decode cX9_staysWithin 85 = .ok (.getfield 86, 3) := by decide +kernel
theorem dX9_staysWithin_88 : decode cX9_staysWithin 88 = .ok (.iload 6, 2) := by decide +kernel
theorem dX9_staysWithin_90 : decode cX9_staysWithin 90 = .ok (.iaload, 1) := by decide +kernel
theorem dX9_staysWithin_91 : decode cX9_staysWithin 91 = .ok (.iadd, 1) := by decide +kernel
theorem dX9_staysWithin_92 : decode cX9_staysWithin 92 = .ok (.istore 8, 2) := by decide +kernel
theorem dX9_staysWithin_94 : decode cX9_staysWithin 94 = .ok (.iload 7, 2) := by decide +kernel
theorem dX9_staysWithin_96 : decode cX9_staysWithin 96 = .ok (.iload 8, 2) := by decide +kernel
theorem dX9_staysWithin_98 : decode cX9_staysWithin 98 = .ok (.invokestatic 89, 3) := by decide +kernel
theorem dX9_staysWithin_101 : decode cX9_staysWithin 101 = .ok (.istore 9, 2) := by decide +kernel
theorem dX9_staysWithin_103 : decode cX9_staysWithin 103 = .ok (.aload_n 0, 1) := by decide +kernel
theorem dX9_staysWithin_104 : decode cX9_staysWithin 104 = .ok (.iload_n 2, 1) := by decide +kernel
theorem dX9_staysWithin_105 : decode cX9_staysWithin 105 = .ok (.iconst 1, 1) := by decide +kernel
theorem dX9_staysWithin_106 : decode cX9_staysWithin 106 = .ok (.iadd, 1) := by decide +kernel
theorem dX9_staysWithin_107 : decode cX9_staysWithin 107 = .ok (.putfield 15, 3) := by decide +kernel
theorem dX9_staysWithin_110 : decode cX9_staysWithin 110 = .ok (.aload_n 0, 1) := by decide +kernel
theorem dX9_staysWithin_111 : decode cX9_staysWithin 111 = .ok (.getfield 21, 3) := by decide +kernel
theorem dX9_staysWithin_114 : decode cX9_staysWithin 114 = .ok (.aload_n 0, 1) := by decide +kernel
theorem dX9_staysWithin_115 : decode cX9_staysWithin 115 = .ok (.getfield 15, 3) := by decide +kernel
theorem dX9_staysWithin_118 : decode cX9_staysWithin 118 = .ok (.iload 9, 2) := by decide +kernel
theorem dX9_staysWithin_120 : decode cX9_staysWithin 120 = .ok (.ifCond .eq 8, 3) := by decide +kernel
theorem dX9_staysWithin_123 : decode cX9_staysWithin 123 = .ok (.iload 7, 2) := by decide +kernel
theorem dX9_staysWithin_125 : decode cX9_staysWithin 125 = .ok (.goto 9, 3) := by decide +kernel
theorem dX9_staysWithin_128 : decode cX9_staysWithin 128 = .ok (.aload_n 0, 1) := by decide +kernel
theorem dX9_staysWithin_129 : decode cX9_staysWithin 129 = .ok (.getfield 21, 3) := by decide +kernel
theorem dX9_staysWithin_132 : decode cX9_staysWithin 132 = .ok (.iload_n 2, 1) := by decide +kernel
theorem dX9_staysWithin_133 : decode cX9_staysWithin 133 = .ok (.iaload, 1) := by decide +kernel
theorem dX9_staysWithin_134 : decode cX9_staysWithin 134 = .ok (.iastore, 1) := by decide +kernel
theorem dX9_staysWithin_135 : decode cX9_staysWithin 135 = .ok (.aload_n 0, 1) := by decide +kernel
theorem dX9_staysWithin_136 : decode cX9_staysWithin 136 = .ok (.getfield 25, 3) := by decide +kernel
theorem dX9_staysWithin_139 : decode cX9_staysWithin 139 = .ok (.aload_n 0, 1) := by decide +kernel
theorem dX9_staysWithin_140 : decode cX9_staysWithin 140 = .ok (.getfield 15, 3) := by decide +kernel
theorem dX9_staysWithin_143 : decode cX9_staysWithin 143 = .ok (.iload 9, 2) := by decide +kernel
theorem dX9_staysWithin_145 : decode cX9_staysWithin 145 = .ok (.ifCond .eq 8, 3) := by decide +kernel
theorem dX9_staysWithin_148 : decode cX9_staysWithin 148 = .ok (.iload 8, 2) := by decide +kernel
theorem dX9_staysWithin_150 : decode cX9_staysWithin 150 = .ok (.goto 9, 3) := by decide +kernel
theorem dX9_staysWithin_153 : decode cX9_staysWithin 153 = .ok (.aload_n 0, 1) := by decide +kernel
theorem dX9_staysWithin_154 : decode cX9_staysWithin 154 = .ok (.getfield 25, 3) := by decide +kernel
theorem dX9_staysWithin_157 : decode cX9_staysWithin 157 = .ok (.iload_n 2, 1) := by decide +kernel
theorem dX9_staysWithin_158 : decode cX9_staysWithin 158 = .ok (.iaload, 1) := by decide +kernel
theorem dX9_staysWithin_159 : decode cX9_staysWithin 159 = .ok (.iastore, 1) := by decide +kernel
theorem dX9_staysWithin_160 : decode cX9_staysWithin 160 = .ok (.iload 9, 2) := by decide +kernel
theorem dX9_staysWithin_162 : decode cX9_staysWithin 162 = .ok (.ireturn, 1) := by decide +kernel
theorem dX10_init_0 : decode cX10_init 0 = .ok (.aload_n 0, 1) := by decide +kernel
theorem dX10_init_1 : decode cX10_init 1 = .ok (.invokespecial 1, 3) := by decide +kernel
theorem dX10_init_4 : decode cX10_init 4 = .ok (.aload_n 0, 1) := by decide +kernel
theorem dX10_init_5 : decode cX10_init 5 = .ok (.iconst 0, 1) := by decide +kernel
theorem dX10_init_6 : decode cX10_init 6 = .ok (.putfield 7, 3) := by decide +kernel
theorem dX10_init_9 : decode cX10_init 9 = .ok (.aload_n 0, 1) := by decide +kernel
theorem dX10_init_10 : decode cX10_init 10 = .ok (.iload_n 1, 1) := by decide +kernel
theorem dX10_init_11 : decode cX10_init 11 = .ok (.newarray .int, 2) := by decide +kernel
theorem dX10_init_13 : decode cX10_init 13 = .ok (.putfield 13, 3) := by decide +kernel
theorem dX10_init_16 : decode cX10_init 16 = .ok (.return_, 1) := by decide +kernel
theorem dX10_isFull_0 : decode cX10_isFull 0 = .ok (.aload_n 0, 1) := by decide +kernel
theorem dX10_isFull_1 : decode cX10_isFull 1 = .ok (.getfield 7, 3) := by decide +kernel
theorem dX10_isFull_4 : decode cX10_isFull 4 = .ok (.aload_n 0, 1) := by decide +kernel
theorem dX10_isFull_5 : decode cX10_isFull 5 = .ok (.getfield 13, 3) := by decide +kernel
theorem dX10_isFull_8 : decode cX10_isFull 8 = .ok (.arraylength, 1) := by decide +kernel
theorem dX10_isFull_9 : decode cX10_isFull 9 = .ok (.if_icmp .lt 7, 3) := by decide +kernel
theorem dX10_isFull_12 : decode cX10_isFull 12 = .ok (.iconst 1, 1) := by decide +kernel
theorem dX10_isFull_13 : decode cX10_isFull 13 = .ok (.goto 4, 3) := by decide +kernel
theorem dX10_isFull_16 : decode cX10_isFull 16 = .ok (.iconst 0, 1) := by decide +kernel
theorem dX10_isFull_17 : decode cX10_isFull 17 = .ok (.ireturn, 1) := by decide +kernel
set_option maxRecDepth 20000 in
theorem ggX10_add_X10_isFull : GoodIn wsX10_add wsX10_isFull := goodIn_r _ [7, 2, 1, 8, 9] (by decide +kernel) (by decide +kernel)
set_option maxRecDepth 20000 in
theorem gX10_add_X10_isFull : GoodIn wsX10_add (wsV RX10 17 RX10 yX10_isFull wsX10_isFull) := goodIn_app (goodIn_of _ (by decide +kernel)) ggX10_add_X10_isFull
theorem dX10_add_0 : decode cX10_add 0 = .ok (.aload_n 0, 1) := by decide +kernel
theorem dX10_add_1 : decode cX10_add 1 = .ok (.invokevirtual 17, 3) := by decide +kernel
theorem dX10_add_4 : decode cX10_add 4 = .ok (.ifCond .ne 23, 3) := by decide +kernel
theorem dX10_add_7 : decode cX10_add 7 = .ok (.aload_n 0, 1) := by decide +kernel
theorem dX10_add_8 : decode cX10_add 8 = .ok (.getfield 13, 3) := by decide +kernel
theorem dX10_add_11 : decode cX10_add 11 = .ok (.aload_n 0, 1) := by decide +kernel
theorem dX10_add_12 : decode cX10_add 12 = .ok (.getfield 7, 3) := by decide +kernel
theorem dX10_add_15 : decode cX10_add 15 = .ok (.iload_n 1, 1) := by decide +kernel
theorem dX10_add_16 : decode cX10_add 16 = .ok (.iastore, 1) := by decide +kernel
theorem dX10_add_17 : decode cX10_add 17 = .ok (.aload_n 0, 1) := by decide +kernel
theorem dX10_add_18 : decode cX10_add 18 = .ok (.dup, 1) := by decide +kernel
theorem dX10_add_19 : decode cX10_add 19 = .ok (.getfield 7, 3) := by decide +kernel
theorem dX10_add_22 : decode cX10_add 22 = .ok (.iconst 1, 1) := by decide +kernel
theorem dX10_add_23 : decode cX10_add 23 = .ok (.iadd, 1) := by decide +kernel
theorem dX10_add_24 : decode cX10_add 24 = .ok (.putfield 7, 3) := by decide +kernel
theorem dX10_add_27 : decode cX10_add 27 = .ok (.return_, 1) := by decide +kernel

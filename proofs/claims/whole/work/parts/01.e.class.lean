set_option maxRecDepth 20000 in
theorem ggX11_init_X8_init : GoodIn wsX11_init wsX8_init := goodIn_r _ [34, 35, 2, 3, 36, 37, 38, 39, 40, 41, 70, 71, 72, 73] (by decide +kernel) (by decide +kernel)
set_option maxRecDepth 20000 in
theorem gX11_init_X8_init_n9 : GoodIn wsX11_init (wsX8_init) := ggX11_init_X8_init
set_option maxRecDepth 20000 in
theorem ggX11_init_X9_init : GoodIn wsX11_init wsX9_init := goodIn_r _ [43, 44, 2, 3, 45, 46, 47, 39, 48, 49, 50, 51, 52, 53, 88, 89, 90, 91, 92, 93, 94, 95, 96] (by decide +kernel) (by decide +kernel)
set_option maxRecDepth 20000 in
theorem gX11_init_X9_init_n34 : GoodIn wsX11_init (wsX9_init) := ggX11_init_X9_init
set_option maxRecDepth 20000 in
theorem ggX11_init_X10_init : GoodIn wsX11_init wsX10_init := goodIn_r _ [56, 57, 2, 3, 58, 39, 59, 97, 98] (by decide +kernel) (by decide +kernel)
set_option maxRecDepth 20000 in
theorem gX11_init_X10_init : GoodIn wsX11_init (wsX10_init) := ggX11_init_X10_init
set_option maxRecDepth 20000 in
theorem ggX11_init_X2_init : GoodIn wsX11_init wsX2_init := goodIn_r _ [61, 62, 2, 3, 63, 36, 64, 39, 65, 66, 67, 68, 69, 99, 100, 101, 102, 103, 104, 105] (by decide +kernel) (by decide +kernel)
set_option maxRecDepth 20000 in
theorem gX11_init_X2_init_n68 : GoodIn wsX11_init (wsX2_init) := ggX11_init_X2_init
theorem dX11_init_0 : decode cX11_init 0 = .ok (.aload_n 0, 1) := by decide +kernel
theorem dX11_init_1 : decode cX11_init 1 = .ok (.invokespecial 1, 3) := by decide +kernel
theorem dX11_init_4 : decode cX11_init 4 = .ok (.aload_n 0, 1) := by decide +kernel
theorem dX11_init_5 : decode cX11_init 5 = .ok (.new 7, 3) := by decide +kernel
theorem dX11_init_8 : decode cX11_init 8 = .ok (.dup, 1) := by decide +kernel
theorem dX11_init_9 : decode cX11_init 9 = .ok (.invokespecial 9, 3) := by decide +kernel
theorem dX11_init_12 : decode cX11_init 12 = .ok (.putfield 10, 3) := by decide +kernel
theorem dX11_init_15 : decode cX11_init 15 = .ok (.aload_n 0, 1) := by decide +kernel
theorem dX11_init_16 : decode cX11_init 16 = .ok (.bipush 10, 2) := by decide +kernel
theorem dX11_init_18 : decode cX11_init 18 = .ok (.anewarray 16, 3) := by decide +kernel
theorem dX11_init_21 : decode cX11_init 21 = .ok (.putfield 18, 3) := by decide +kernel
theorem dX11_init_24 : decode cX11_init 24 = .ok (.aload_n 0, 1) := by decide +kernel
theorem dX11_init_25 : decode cX11_init 25 = .ok (.iconst 0, 1) := by decide +kernel
theorem dX11_init_26 : decode cX11_init 26 = .ok (.putfield 22, 3) := by decide +kernel
theorem dX11_init_29 : decode cX11_init 29 = .ok (.aload_n 0, 1) := by decide +kernel
theorem dX11_init_30 : decode cX11_init 30 = .ok (.iconst 5, 1) := by decide +kernel
theorem dX11_init_31 : decode cX11_init 31 = .ok (.putfield 26, 3) := by decide +kernel
theorem dX11_init_34 : decode cX11_init 34 = .ok (.aload_n 0, 1) := by decide +kernel
theorem dX11_init_35 : decode cX11_init 35 = .ok (.bipush 20, 2) := by decide +kernel
theorem dX11_init_37 : decode cX11_init 37 = .ok (.putfield 29, 3) := by decide +kernel
theorem dX11_init_40 : decode cX11_init 40 = .ok (.aload_n 0, 1) := by decide +kernel
theorem dX11_init_41 : decode cX11_init 41 = .ok (.new 32, 3) := by decide +kernel
theorem dX11_init_44 : decode cX11_init 44 = .ok (.dup, 1) := by decide +kernel
theorem dX11_init_45 : decode cX11_init 45 = .ok (.invokespecial 34, 3) := by decide +kernel
theorem dX11_init_48 : decode cX11_init 48 = .ok (.putfield 35, 3) := by decide +kernel
theorem dX11_init_51 : decode cX11_init 51 = .ok (.aload_n 0, 1) := by decide +kernel
theorem dX11_init_52 : decode cX11_init 52 = .ok (.new 32, 3) := by decide +kernel
theorem dX11_init_55 : decode cX11_init 55 = .ok (.dup, 1) := by decide +kernel
theorem dX11_init_56 : decode cX11_init 56 = .ok (.invokespecial 34, 3) := by decide +kernel
theorem dX11_init_59 : decode cX11_init 59 = .ok (.putfield 39, 3) := by decide +kernel
theorem dX11_init_62 : decode cX11_init 62 = .ok (.aload_n 0, 1) := by decide +kernel
theorem dX11_init_63 : decode cX11_init 63 = .ok (.bipush 8, 2) := by decide +kernel
theorem dX11_init_65 : decode cX11_init 65 = .ok (.anewarray 42, 3) := by decide +kernel
theorem dX11_init_68 : decode cX11_init 68 = .ok (.putfield 44, 3) := by decide +kernel
theorem dX11_init_71 : decode cX11_init 71 = .ok (.aload_n 0, 1) := by decide +kernel
theorem dX11_init_72 : decode cX11_init 72 = .ok (.iconst 0, 1) := by decide +kernel
theorem dX11_init_73 : decode cX11_init 73 = .ok (.putfield 48, 3) := by decide +kernel
theorem dX11_init_76 : decode cX11_init 76 = .ok (.aload_n 0, 1) := by decide +kernel
theorem dX11_init_77 : decode cX11_init 77 = .ok (.new 51, 3) := by decide +kernel
theorem dX11_init_80 : decode cX11_init 80 = .ok (.dup, 1) := by decide +kernel
theorem dX11_init_81 : decode cX11_init 81 = .ok (.bipush 60, 2) := by decide +kernel
theorem dX11_init_83 : decode cX11_init 83 = .ok (.invokespecial 53, 3) := by decide +kernel
theorem dX11_init_86 : decode cX11_init 86 = .ok (.putfield 56, 3) := by decide +kernel
theorem dX11_init_89 : decode cX11_init 89 = .ok (.aload_n 0, 1) := by decide +kernel
theorem dX11_init_90 : decode cX11_init 90 = .ok (.new 51, 3) := by decide +kernel
theorem dX11_init_93 : decode cX11_init 93 = .ok (.dup, 1) := by decide +kernel
theorem dX11_init_94 : decode cX11_init 94 = .ok (.bipush 6, 2) := by decide +kernel
theorem dX11_init_96 : decode cX11_init 96 = .ok (.invokespecial 53, 3) := by decide +kernel
theorem dX11_init_99 : decode cX11_init 99 = .ok (.putfield 60, 3) := by decide +kernel
theorem dX11_init_102 : decode cX11_init 102 = .ok (.aload_n 0, 1) := by decide +kernel
theorem dX11_init_103 : decode cX11_init 103 = .ok (.new 51, 3) := by decide +kernel
theorem dX11_init_106 : decode cX11_init 106 = .ok (.dup, 1) := by decide +kernel
theorem dX11_init_107 : decode cX11_init 107 = .ok (.bipush 40, 2) := by decide +kernel
theorem dX11_init_109 : decode cX11_init 109 = .ok (.invokespecial 53, 3) := by decide +kernel
theorem dX11_init_112 : decode cX11_init 112 = .ok (.putfield 63, 3) := by decide +kernel
theorem dX11_init_115 : decode cX11_init 115 = .ok (.aload_n 0, 1) := by decide +kernel
theorem dX11_init_116 : decode cX11_init 116 = .ok (.new 66, 3) := by decide +kernel
theorem dX11_init_119 : decode cX11_init 119 = .ok (.dup, 1) := by decide +kernel
theorem dX11_init_120 : decode cX11_init 120 = .ok (.invokespecial 68, 3) := by decide +kernel
theorem dX11_init_123 : decode cX11_init 123 = .ok (.putfield 69, 3) := by decide +kernel
theorem dX11_init_126 : decode cX11_init 126 = .ok (.aload_n 0, 1) := by decide +kernel
theorem dX11_init_127 : decode cX11_init 127 = .ok (.bipush 8, 2) := by decide +kernel
theorem dX11_init_129 : decode cX11_init 129 = .ok (.anewarray 73, 3) := by decide +kernel
theorem dX11_init_132 : decode cX11_init 132 = .ok (.putfield 75, 3) := by decide +kernel
theorem dX11_init_135 : decode cX11_init 135 = .ok (.return_, 1) := by decide +kernel
set_option maxRecDepth 20000 in
theorem ggX11_land_X11_isWithin : GoodIn wsX11_land wsX11_isWithin := goodIn_r _ [5] (by decide +kernel) (by decide +kernel)
set_option maxRecDepth 20000 in
theorem gX11_land_X11_isWithin : GoodIn wsX11_land (va_wsS RX11 79 yX11_isWithin wsX11_isWithin) := goodIn_app (goodIn_of _ (by decide +kernel)) ggX11_land_X11_isWithin
set_option maxRecDepth 20000 in
theorem ggX11_land_X8_raise : GoodIn wsX11_land wsX8_raise := goodIn_r _ [10, 11, 12, 27, 28, 29, 30] (by decide +kernel) (by decide +kernel)
set_option maxRecDepth 20000 in
theorem gX11_land_X8_raise : GoodIn wsX11_land (wsV RX11 83 RX8 yX8_raise wsX8_raise) := goodIn_app (goodIn_of _ (by decide +kernel)) ggX11_land_X8_raise
theorem dX11_land_0 : decode cX11_land 0 = .ok (.iload_n 1, 1) := by decide +kernel
theorem dX11_land_1 : decode cX11_land 1 = .ok (.iconst 0, 1) := by decide +kernel
theorem dX11_land_2 : decode cX11_land 2 = .ok (.bipush 11, 2) := by decide +kernel
theorem dX11_land_4 : decode cX11_land 4 = .ok (.invokestatic 79, 3) := by decide +kernel
theorem dX11_land_7 : decode cX11_land 7 = .ok (.ifCond .eq 28, 3) := by decide +kernel
theorem dX11_land_10 : decode cX11_land 10 = .ok (.iload_n 2, 1) := by decide +kernel
theorem dX11_land_11 : decode cX11_land 11 = .ok (.iconst 0, 1) := by decide +kernel
theorem dX11_land_12 : decode cX11_land 12 = .ok (.bipush 23, 2) := by decide +kernel
theorem dX11_land_14 : decode cX11_land 14 = .ok (.invokestatic 79, 3) := by decide +kernel
theorem dX11_land_17 : decode cX11_land 17 = .ok (.ifCond .eq 18, 3) := by decide +kernel
theorem dX11_land_20 : decode cX11_land 20 = .ok (.iload_n 3, 1) := by decide +kernel
theorem dX11_land_21 : decode cX11_land 21 = .ok (.iconst 0, 1) := by decide +kernel
theorem dX11_land_22 : decode cX11_land 22 = .ok (.bipush 23, 2) := by decide +kernel
theorem dX11_land_24 : decode cX11_land 24 = .ok (.invokestatic 79, 3) := by decide +kernel
theorem dX11_land_27 : decode cX11_land 27 = .ok (.ifCond .eq 8, 3) := by decide +kernel
theorem dX11_land_30 : decode cX11_land 30 = .ok (.iload_n 2, 1) := by decide +kernel
theorem dX11_land_31 : decode cX11_land 31 = .ok (.iload_n 3, 1) := by decide +kernel
theorem dX11_land_32 : decode cX11_land 32 = .ok (.if_icmp .le 5, 3) := by decide +kernel
theorem dX11_land_35 : decode cX11_land 35 = .ok (.iconst (-1), 1) := by decide +kernel
theorem dX11_land_36 : decode cX11_land 36 = .ok (.ireturn, 1) := by decide +kernel
theorem dX11_land_37 : decode cX11_land 37 = .ok (.aload_n 0, 1) := by decide +kernel
theorem dX11_land_38 : decode cX11_land 38 = .ok (.getfield 10, 3) := by decide +kernel
theorem dX11_land_41 : decode cX11_land 41 = .ok (.iload_n 1, 1) := by decide +kernel
theorem dX11_land_42 : decode cX11_land 42 = .ok (.iload_n 2, 1) := by decide +kernel
theorem dX11_land_43 : decode cX11_land 43 = .ok (.iload_n 3, 1) := by decide +kernel
theorem dX11_land_44 : decode cX11_land 44 = .ok (.iload 4, 2) := by decide +kernel
theorem dX11_land_46 : decode cX11_land 46 = .ok (.invokevirtual 83, 3) := by decide +kernel
theorem dX11_land_49 : decode cX11_land 49 = .ok (.ireturn, 1) := by decide +kernel
set_option maxRecDepth 20000 in
theorem ggX11_isLand_X11_isPlace : GoodIn wsX11_isLand wsX11_isPlace := goodIn_r _ [5, 6, 7, 4, 8] (by decide +kernel) (by decide +kernel)
set_option maxRecDepth 20000 in
theorem gX11_isLand_X11_isPlace : GoodIn wsX11_isLand (va_wsS RX11 87 yX11_isPlace wsX11_isPlace) := goodIn_app (goodIn_of _ (by decide +kernel)) ggX11_isLand_X11_isPlace
set_option maxRecDepth 20000 in
theorem ggX11_isLand_X8_isDry : GoodIn wsX11_isLand wsX8_isDry := goodIn_r _ [13, 14, 3, 4, 5, 6, 7, 8, 29, 30, 31, 32] (by decide +kernel) (by decide +kernel)
set_option maxRecDepth 20000 in
theorem gX11_isLand_X8_isDry : GoodIn wsX11_isLand (wsV RX11 91 RX8 yX8_isDry wsX8_isDry) := goodIn_app (goodIn_of _ (by decide +kernel)) ggX11_isLand_X8_isDry
theorem dX11_isLand_0 : decode cX11_isLand 0 = .ok (.iload_n 1, 1) := by decide +kernel
theorem dX11_isLand_1 : decode cX11_isLand 1 = .ok (.iload_n 2, 1) := by decide +kernel
theorem dX11_isLand_2 : decode cX11_isLand 2 = .ok (.invokestatic 87, 3) := by decide +kernel
theorem dX11_isLand_5 : decode cX11_isLand 5 = .ok (.ifCond .ne 5, 3) := by decide +kernel
theorem dX11_isLand_8 : decode cX11_isLand 8 = .ok (.iconst (-1), 1) := by decide +kernel
theorem dX11_isLand_9 : decode cX11_isLand 9 = .ok (.ireturn, 1) := by decide +kernel
theorem dX11_isLand_10 : decode cX11_isLand 10 = .ok (.aload_n 0, 1) := by decide +kernel
theorem dX11_isLand_11 : decode cX11_isLand 11 = .ok (.getfield 10, 3) := by decide +kernel
theorem dX11_isLand_14 : decode cX11_isLand 14 = .ok (.iload_n 1, 1) := by decide +kernel
theorem dX11_isLand_15 : decode cX11_isLand 15 = .ok (.iload_n 2, 1) := by decide +kernel
theorem dX11_isLand_16 : decode cX11_isLand 16 = .ok (.invokevirtual 91, 3) := by decide +kernel
theorem dX11_isLand_19 : decode cX11_isLand 19 = .ok (.ifCond .eq 7, 3) := by decide +kernel
theorem dX11_isLand_22 : decode cX11_isLand 22 = .ok (.iconst 1, 1) := by decide +kernel
theorem dX11_isLand_23 : decode cX11_isLand 23 = .ok (.goto 4, 3) := by decide +kernel
theorem dX11_isLand_26 : decode cX11_isLand 26 = .ok (.iconst 0, 1) := by decide +kernel
theorem dX11_isLand_27 : decode cX11_isLand 27 = .ok (.ireturn, 1) := by decide +kernel
set_option maxRecDepth 20000 in
theorem ggX11_tide_X11_isWithin : GoodIn wsX11_tide wsX11_isWithin := goodIn_r _ [5] (by decide +kernel) (by decide +kernel)
set_option maxRecDepth 20000 in
theorem gX11_tide_X11_isWithin : GoodIn wsX11_tide (va_wsS RX11 79 yX11_isWithin wsX11_isWithin) := goodIn_app (goodIn_of _ (by decide +kernel)) ggX11_tide_X11_isWithin
set_option maxRecDepth 20000 in
theorem ggX11_tide_X8_turnTide : GoodIn wsX11_tide wsX8_turnTide := goodIn_r _ [10, 11, 12, 27, 28, 29, 30] (by decide +kernel) (by decide +kernel)
set_option maxRecDepth 20000 in
theorem gX11_tide_X8_turnTide : GoodIn wsX11_tide (wsV RX11 94 RX8 yX8_turnTide wsX8_turnTide) := goodIn_app (goodIn_of _ (by decide +kernel)) ggX11_tide_X8_turnTide
theorem dX11_tide_0 : decode cX11_tide 0 = .ok (.iload_n 1, 1) := by decide +kernel
theorem dX11_tide_1 : decode cX11_tide 1 = .ok (.iconst 0, 1) := by decide +kernel
theorem dX11_tide_2 : decode cX11_tide 2 = .ok (.iconst 2, 1) := by decide +kernel
theorem dX11_tide_3 : decode cX11_tide 3 = .ok (.invokestatic 79, 3) := by decide +kernel
theorem dX11_tide_6 : decode cX11_tide 6 = .ok (.ifCond .eq 36, 3) := by decide +kernel
theorem dX11_tide_9 : decode cX11_tide 9 = .ok (.iload_n 2, 1) := by decide +kernel
theorem dX11_tide_10 : decode cX11_tide 10 = .ok (.iconst 0, 1) := by decide +kernel
theorem dX11_tide_11 : decode cX11_tide 11 = .ok (.bipush 11, 2) := by decide +kernel
theorem dX11_tide_13 : decode cX11_tide 13 = .ok (.invokestatic 79, 3) := by decide +kernel
theorem dX11_tide_16 : decode cX11_tide 16 = .ok (.ifCond .eq 26, 3) := by decide +kernel
theorem dX11_tide_19 : decode cX11_tide 19 = .ok (.iload_n 3, 1) := by decide +kernel
theorem dX11_tide_20 : decode cX11_tide 20 = .ok (.bipush (-9), 2) := by decide +kernel
theorem dX11_tide_22 : decode cX11_tide 22 = .ok (.bipush 9, 2) := by decide +kernel
theorem dX11_tide_24 : decode cX11_tide 24 = .ok (.invokestatic 79, 3) := by decide +kernel
theorem dX11_tide_27 : decode cX11_tide 27 = .ok (.ifCond .eq 15, 3) := by decide +kernel
theorem dX11_tide_30 : decode cX11_tide 30 = .ok (.iload 4, 2) := by decide +kernel
theorem dX11_tide_32 : decode cX11_tide 32 = .ok (.bipush (-9), 2) := by decide +kernel
theorem dX11_tide_34 : decode cX11_tide 34 = .ok (.bipush 9, 2) := by decide +kernel
theorem dX11_tide_36 : decode cX11_tide 36 = .ok (.invokestatic 79, 3) := by decide +kernel
theorem dX11_tide_39 : decode cX11_tide 39 = .ok (.ifCond .ne 5, 3) := by decide +kernel
theorem dX11_tide_42 : decode cX11_tide 42 = .ok (.iconst (-1), 1) := by decide +kernel
theorem dX11_tide_43 : decode cX11_tide 43 = .ok (.ireturn, 1) := by decide +kernel
theorem dX11_tide_44 : decode cX11_tide 44 = .ok (.aload_n 0, 1) := by decide +kernel
theorem dX11_tide_45 : decode cX11_tide 45 = .ok (.getfield 10, 3) := by decide +kernel
theorem dX11_tide_48 : decode cX11_tide 48 = .ok (.iload_n 1, 1) := by decide +kernel
theorem dX11_tide_49 : decode cX11_tide 49 = .ok (.bipush 12, 2) := by decide +kernel
theorem dX11_tide_51 : decode cX11_tide 51 = .ok (.imul, 1) := by decide +kernel
theorem dX11_tide_52 : decode cX11_tide 52 = .ok (.iload_n 2, 1) := by decide +kernel
theorem dX11_tide_53 : decode cX11_tide 53 = .ok (.iadd, 1) := by decide +kernel
theorem dX11_tide_54 : decode cX11_tide 54 = .ok (.iload_n 3, 1) := by decide +kernel
theorem dX11_tide_55 : decode cX11_tide 55 = .ok (.iload 4, 2) := by decide +kernel
theorem dX11_tide_57 : decode cX11_tide 57 = .ok (.invokevirtual 94, 3) := by decide +kernel
theorem dX11_tide_60 : decode cX11_tide 60 = .ok (.ifCond .eq 7, 3) := by decide +kernel
theorem dX11_tide_63 : decode cX11_tide 63 = .ok (.iconst 1, 1) := by decide +kernel
theorem dX11_tide_64 : decode cX11_tide 64 = .ok (.goto 4, 3) := by decide +kernel
theorem dX11_tide_67 : decode cX11_tide 67 = .ok (.iconst 0, 1) := by decide +kernel
theorem dX11_tide_68 : decode cX11_tide 68 = .ok (.ireturn, 1) := by decide +kernel
set_option maxRecDepth 20000 in
theorem ggX11_carries_X11_isPlace : GoodIn wsX11_carries wsX11_isPlace := goodIn_r _ [9, 10, 11, 8, 12] (by decide +kernel) (by decide +kernel)
set_option maxRecDepth 20000 in
theorem gX11_carries_X11_isPlace : GoodIn wsX11_carries (va_wsS RX11 87 yX11_isPlace wsX11_isPlace) := goodIn_app (goodIn_of _ (by decide +kernel)) ggX11_carries_X11_isPlace
set_option maxRecDepth 20000 in
theorem ggX11_carries_X11_isWithin : GoodIn wsX11_carries wsX11_isWithin := goodIn_r _ [12] (by decide +kernel) (by decide +kernel)
set_option maxRecDepth 20000 in
theorem gX11_carries_X11_isWithin : GoodIn wsX11_carries (va_wsS RX11 79 yX11_isWithin wsX11_isWithin) := goodIn_app (goodIn_of _ (by decide +kernel)) ggX11_carries_X11_isWithin
set_option maxRecDepth 20000 in
theorem ggX11_carries_X11_tideIndex : GoodIn wsX11_carries wsX11_tideIndex := goodIn_r _ [15] (by decide +kernel) (by decide +kernel)
set_option maxRecDepth 20000 in
theorem gX11_carries_X11_tideIndex : GoodIn wsX11_carries (va_wsS RX11 104 yX11_tideIndex wsX11_tideIndex) := goodIn_app (goodIn_of _ (by decide +kernel)) ggX11_carries_X11_tideIndex
theorem dX11_carries_0 : decode cX11_carries 0 = .ok (.iload_n 1, 1) := by decide +kernel
theorem dX11_carries_1 : decode cX11_carries 1 = .ok (.iload_n 2, 1) := by decide +kernel
theorem dX11_carries_2 : decode cX11_carries 2 = .ok (.invokestatic 87, 3) := by decide +kernel
theorem dX11_carries_5 : decode cX11_carries 5 = .ok (.ifCond .eq 24, 3) := by decide +kernel
theorem dX11_carries_8 : decode cX11_carries 8 = .ok (.iload_n 3, 1) := by decide +kernel
theorem dX11_carries_9 : decode cX11_carries 9 = .ok (.iconst 0, 1) := by decide +kernel
theorem dX11_carries_10 : decode cX11_carries 10 = .ok (.sipush 199, 3) := by decide +kernel
theorem dX11_carries_13 : decode cX11_carries 13 = .ok (.invokestatic 79, 3) := by decide +kernel
theorem dX11_carries_16 : decode cX11_carries 16 = .ok (.ifCond .eq 13, 3) := by decide +kernel
theorem dX11_carries_19 : decode cX11_carries 19 = .ok (.iload 4, 2) := by decide +kernel
theorem dX11_carries_21 : decode cX11_carries 21 = .ok (.iconst 0, 1) := by decide +kernel
theorem dX11_carries_22 : decode cX11_carries 22 = .ok (.iconst 1, 1) := by decide +kernel
theorem dX11_carries_23 : decode cX11_carries 23 = .ok (.invokestatic 79, 3) := by decide +kernel
theorem dX11_carries_26 : decode cX11_carries 26 = .ok (.ifCond .ne 13, 3) := by decide +kernel
theorem dX11_carries_29 : decode cX11_carries 29 = .ok (.new 97, 3) := by decide +kernel
theorem dX11_carries_32 : decode cX11_carries 32 = .ok (.dup, 1) := by decide +kernel
theorem dX11_carries_33 : decode cX11_carries 33 = .ok (.ldc 99, 2) := by decide +kernel
theorem dX11_carries_35 : decode cX11_carries 35 = .ok (.invokespecial 101, 3) := by decide +kernel
theorem dX11_carries_38 : decode cX11_carries 38 = .ok (.athrow, 1) := by decide +kernel
theorem dX11_carries_39 : decode cX11_carries 39 = .ok (.iload_n 2, 1) := by decide +kernel
theorem dX11_carries_40 : decode cX11_carries 40 = .ok (.iload_n 3, 1) := by decide +kernel
theorem dX11_carries_41 : decode cX11_carries 41 = .ok (.invokestatic 104, 3) := by decide +kernel
theorem dX11_carries_44 : decode cX11_carries 44 = .ok (.istore 5, 2) := by decide +kernel
theorem dX11_carries_46 : decode cX11_carries 46 = .ok (.iload 4, 2) := by decide +kernel
theorem dX11_carries_48 : decode cX11_carries 48 = .ok (.ifCond .ne 17, 3) := by decide +kernel
theorem dX11_carries_51 : decode cX11_carries 51 = .ok (.aload_n 0, 1) := by decide +kernel
theorem dX11_carries_52 : decode cX11_carries 52 = .ok (.getfield 10, 3) := by decide +kernel
theorem dX11_carries_55 : decode cX11_carries 55 = .ok (.getfield 108, 3) := by decide +kernel
theorem dX11_carries_58 : decode cX11_carries 58 = .ok (.iload 5, 2) := by decide +kernel
theorem dX11_carries_60 : decode cX11_carries 60 = .ok (.iaload, 1) := by decide +kernel
theorem dX11_carries_61 : decode cX11_carries 61 = .ok (.i2l, 1) := by decide +kernel
theorem dX11_carries_62 : decode cX11_carries 62 = .ok (.goto 14, 3) := by decide +kernel
theorem dX11_carries_65 : decode cX11_carries 65 = .ok (.aload_n 0, 1) := by decide +kernel
theorem dX11_carries_66 : decode cX11_carries 66 = .ok (.getfield 10, 3) := by decide +kernel
theorem dX11_carries_69 : decode cX11_carries 69 = .ok (.getfield 112, 3) := by decide +kernel
theorem dX11_carries_72 : decode cX11_carries 72 = .ok (.iload 5, 2) := by decide +kernel
theorem dX11_carries_74 : decode cX11_carries 74 = .ok (.iaload, 1) := by decide +kernel
theorem dX11_carries_75 : decode cX11_carries 75 = .ok (.i2l, 1) := by decide +kernel
theorem dX11_carries_76 : decode cX11_carries 76 = .ok (.lreturn, 1) := by decide +kernel
set_option maxRecDepth 20000 in
theorem ggX11_set_X11_isWithin : GoodIn wsX11_set wsX11_isWithin := goodIn_r _ [6] (by decide +kernel) (by decide +kernel)
set_option maxRecDepth 20000 in
theorem gX11_set_X11_isWithin : GoodIn wsX11_set (va_wsS RX11 79 yX11_isWithin wsX11_isWithin) := goodIn_app (goodIn_of _ (by decide +kernel)) ggX11_set_X11_isWithin
theorem dX11_set_0 : decode cX11_set 0 = .ok (.iload_n 1, 1) := by decide +kernel
theorem dX11_set_1 : decode cX11_set 1 = .ok (.ifCond .ne 25, 3) := by decide +kernel
theorem dX11_set_4 : decode cX11_set 4 = .ok (.iload_n 2, 1) := by decide +kernel
theorem dX11_set_5 : decode cX11_set 5 = .ok (.iconst 0, 1) := by decide +kernel
theorem dX11_set_6 : decode cX11_set 6 = .ok (.bipush 20, 2) := by decide +kernel
theorem dX11_set_8 : decode cX11_set 8 = .ok (.invokestatic 79, 3) := by decide +kernel
theorem dX11_set_11 : decode cX11_set 11 = .ok (.ifCond .eq 15, 3) := by decide +kernel
theorem dX11_set_14 : decode cX11_set 14 = .ok (.aload_n 0, 1) := by decide +kernel
theorem dX11_set_15 : decode cX11_set 15 = .ok (.getfield 26, 3) := by decide +kernel
theorem dX11_set_18 : decode cX11_set 18 = .ok (.istore_n 3, 1) := by decide +kernel
theorem dX11_set_19 : decode cX11_set 19 = .ok (.aload_n 0, 1) := by decide +kernel
theorem dX11_set_20 : decode cX11_set 20 = .ok (.iload_n 2, 1) := by decide +kernel
theorem dX11_set_21 : decode cX11_set 21 = .ok (.putfield 26, 3) := by decide +kernel
theorem dX11_set_24 : decode cX11_set 24 = .ok (.iload_n 3, 1) := by decide +kernel
theorem dX11_set_25 : decode cX11_set 25 = .ok (.ireturn, 1) := by decide +kernel
theorem dX11_set_26 : decode cX11_set 26 = .ok (.iload_n 1, 1) := by decide +kernel
theorem dX11_set_27 : decode cX11_set 27 = .ok (.iconst 1, 1) := by decide +kernel
theorem dX11_set_28 : decode cX11_set 28 = .ok (.if_icmp .ne 25, 3) := by decide +kernel
theorem dX11_set_31 : decode cX11_set 31 = .ok (.iload_n 2, 1) := by decide +kernel
theorem dX11_set_32 : decode cX11_set 32 = .ok (.iconst 1, 1) := by decide +kernel
theorem dX11_set_33 : decode cX11_set 33 = .ok (.bipush 60, 2) := by decide +kernel
theorem dX11_set_35 : decode cX11_set 35 = .ok (.invokestatic 79, 3) := by decide +kernel
theorem dX11_set_38 : decode cX11_set 38 = .ok (.ifCond .eq 15, 3) := by decide +kernel
theorem dX11_set_41 : decode cX11_set 41 = .ok (.aload_n 0, 1) := by decide +kernel
theorem dX11_set_42 : decode cX11_set 42 = .ok (.getfield 29, 3) := by decide +kernel
theorem dX11_set_45 : decode cX11_set 45 = .ok (.istore_n 3, 1) := by decide +kernel
theorem dX11_set_46 : decode cX11_set 46 = .ok (.aload_n 0, 1) := by decide +kernel
theorem dX11_set_47 : decode cX11_set 47 = .ok (.iload_n 2, 1) := by decide +kernel
theorem dX11_set_48 : decode cX11_set 48 = .ok (.putfield 29, 3) := by decide +kernel
theorem dX11_set_51 : decode cX11_set 51 = .ok (.iload_n 3, 1) := by decide +kernel
theorem dX11_set_52 : decode cX11_set 52 = .ok (.ireturn, 1) := by decide +kernel
theorem dX11_set_53 : decode cX11_set 53 = .ok (.iconst (-1), 1) := by decide +kernel
theorem dX11_set_54 : decode cX11_set 54 = .ok (.ireturn, 1) := by decide +kernel
set_option maxRecDepth 20000 in
theorem ggX11_swimmer_X11_isWithin : GoodIn wsX11_swimmer wsX11_isWithin := goodIn_r _ [6] (by decide +kernel) (by decide +kernel)
set_option maxRecDepth 20000 in
theorem gX11_swimmer_X11_isWithin : GoodIn wsX11_swimmer (va_wsS RX11 79 yX11_isWithin wsX11_isWithin) := goodIn_app (goodIn_of _ (by decide +kernel)) ggX11_swimmer_X11_isWithin
set_option maxRecDepth 20000 in
theorem ggX11_swimmer_X11_ofKind : GoodIn wsX11_swimmer wsX11_ofKind := goodIn_r _ [9, 10, 11, 12, 13, 14, 15, 16, 17, 18, 19, 20, 21, 22, 23, 24, 25, 26, 27, 28, 29, 30, 31, 32, 33, 34, 35, 36, 37, 38, 39, 40, 41, 42, 43, 58, 59, 60, 61, 62, 63, 64, 65, 66, 67, 68, 69, 70, 71, 72, 73] (by decide +kernel) (by decide +kernel)
set_option maxRecDepth 20000 in
theorem gX11_swimmer_X11_ofKind : GoodIn wsX11_swimmer (va_wsS RX11 115 yX11_ofKind wsX11_ofKind) := goodIn_app (goodIn_of _ (by decide +kernel)) ggX11_swimmer_X11_ofKind
theorem dX11_swimmer_0 : decode cX11_swimmer 0 = .ok (.iload_n 1, 1) := by decide +kernel
theorem dX11_swimmer_1 : decode cX11_swimmer 1 = .ok (.iconst 0, 1) := by decide +kernel
theorem dX11_swimmer_2 : decode cX11_swimmer 2 = .ok (.iconst 3, 1) := by decide +kernel
theorem dX11_swimmer_3 : decode cX11_swimmer 3 = .ok (.invokestatic 79, 3) := by decide +kernel
theorem dX11_swimmer_6 : decode cX11_swimmer 6 = .ok (.ifCond .eq 24, 3) := by decide +kernel
theorem dX11_swimmer_9 : decode cX11_swimmer 9 = .ok (.iload_n 2, 1) := by decide +kernel
theorem dX11_swimmer_10 : decode cX11_swimmer 10 = .ok (.iconst 1, 1) := by decide +kernel
theorem dX11_swimmer_11 : decode cX11_swimmer 11 = .ok (.bipush 20, 2) := by decide +kernel
theorem dX11_swimmer_13 : decode cX11_swimmer 13 = .ok (.invokestatic 79, 3) := by decide +kernel
theorem dX11_swimmer_16 : decode cX11_swimmer 16 = .ok (.ifCond .eq 14, 3) := by decide +kernel
theorem dX11_swimmer_19 : decode cX11_swimmer 19 = .ok (.iload_n 3, 1) := by decide +kernel
theorem dX11_swimmer_20 : decode cX11_swimmer 20 = .ok (.iconst 1, 1) := by decide +kernel
theorem dX11_swimmer_21 : decode cX11_swimmer 21 = .ok (.sipush 400, 3) := by decide +kernel
theorem dX11_swimmer_24 : decode cX11_swimmer 24 = .ok (.invokestatic 79, 3) := by decide +kernel
theorem dX11_swimmer_27 : decode cX11_swimmer 27 = .ok (.ifCond .ne 5, 3) := by decide +kernel
theorem dX11_swimmer_30 : decode cX11_swimmer 30 = .ok (.iconst (-1), 1) := by decide +kernel
theorem dX11_swimmer_31 : decode cX11_swimmer 31 = .ok (.ireturn, 1) := by decide +kernel
theorem dX11_swimmer_32 : decode cX11_swimmer 32 = .ok (.aload_n 0, 1) := by decide +kernel
theorem dX11_swimmer_33 : decode cX11_swimmer 33 = .ok (.getfield 22, 3) := by decide +kernel
theorem dX11_swimmer_36 : decode cX11_swimmer 36 = .ok (.bipush 10, 2) := by decide +kernel
theorem dX11_swimmer_38 : decode cX11_swimmer 38 = .ok (.if_icmp .lt 6, 3) := by decide +kernel
theorem dX11_swimmer_41 : decode cX11_swimmer 41 = .ok (.bipush (-2), 2) := by decide +kernel
theorem dX11_swimmer_43 : decode cX11_swimmer 43 = .ok (.ireturn, 1) := by decide +kernel
theorem dX11_swimmer_44 : decode cX11_swimmer 44 = .ok (.aload_n 0, 1) := by decide +kernel
theorem dX11_swimmer_45 : decode cX11_swimmer 45 = .ok (.getfield 18, 3) := by decide +kernel
theorem dX11_swimmer_48 : decode cX11_swimmer 48 = .ok (.aload_n 0, 1) := by decide +kernel
theorem dX11_swimmer_49 : decode cX11_swimmer 49 = .ok (.getfield 22, 3) := by decide +kernel
theorem dX11_swimmer_52 : decode cX11_swimmer 52 = .ok (.iload_n 1, 1) := by decide +kernel
theorem dX11_swimmer_53 : decode cX11_swimmer 53 = .ok (.aload_n 0, 1) := by decide +kernel
theorem dX11_swimmer_54 : decode cX11_swimmer 54 = .ok (.getfield 22, 3) := by decide +kernel
theorem dX11_swimmer_57 : decode cX11_swimmer 57 = .ok (.iload_n 2, 1) := by decide +kernel
theorem dX11_swimmer_58 : decode cX11_swimmer 58 = .ok (.iload_n 3, 1) := by decide +kernel
theorem dX11_swimmer_59 : decode cX11_swimmer 59 = .ok (.invokestatic 115, 3) := by decide +kernel
theorem dX11_swimmer_62 : decode cX11_swimmer 62 = .ok (.aastore, 1) := by decide +kernel
theorem dX11_swimmer_63 : decode cX11_swimmer 63 = .ok (.aload_n 0, 1) := by decide +kernel
theorem dX11_swimmer_64 : decode cX11_swimmer 64 = .ok (.dup, 1) := by decide +kernel
theorem dX11_swimmer_65 : decode cX11_swimmer 65 = .ok (.getfield 22, 3) := by decide +kernel
theorem dX11_swimmer_68 : decode cX11_swimmer 68 = .ok (.iconst 1, 1) := by decide +kernel
theorem dX11_swimmer_69 : decode cX11_swimmer 69 = .ok (.iadd, 1) := by decide +kernel
theorem dX11_swimmer_70 : decode cX11_swimmer 70 = .ok (.putfield 22, 3) := by decide +kernel
theorem dX11_swimmer_73 : decode cX11_swimmer 73 = .ok (.aload_n 0, 1) := by decide +kernel
theorem dX11_swimmer_74 : decode cX11_swimmer 74 = .ok (.getfield 22, 3) := by decide +kernel
theorem dX11_swimmer_77 : decode cX11_swimmer 77 = .ok (.iconst 1, 1) := by decide +kernel
theorem dX11_swimmer_78 : decode cX11_swimmer 78 = .ok (.isub, 1) := by decide +kernel
theorem dX11_swimmer_79 : decode cX11_swimmer 79 = .ok (.ireturn, 1) := by decide +kernel
set_option maxRecDepth 20000 in
theorem ggX11_feed_X11_known : GoodIn wsX11_feed wsX11_known := goodIn_r _ [6, 7, 8, 9, 10, 5, 11, 28, 29, 30, 31, 32, 33, 34, 35, 36, 37, 38, 39, 40, 41] (by decide +kernel) (by decide +kernel)
set_option maxRecDepth 20000 in
theorem gX11_feed_X11_known : GoodIn wsX11_feed (wsV RX11 119 RX11 yX11_known wsX11_known) := goodIn_app (goodIn_of _ (by decide +kernel)) ggX11_feed_X11_known
set_option maxRecDepth 20000 in
theorem ggX11_feed_X11_isWithin : GoodIn wsX11_feed wsX11_isWithin := goodIn_r _ [11] (by decide +kernel) (by decide +kernel)
set_option maxRecDepth 20000 in
theorem gX11_feed_X11_isWithin : GoodIn wsX11_feed (va_wsS RX11 79 yX11_isWithin wsX11_isWithin) := goodIn_app (goodIn_of _ (by decide +kernel)) ggX11_feed_X11_isWithin
theorem dX11_feed_0 : decode cX11_feed 0 = .ok (.aload_n 0, 1) := by decide +kernel
theorem dX11_feed_1 : decode cX11_feed 1 = .ok (.iload_n 1, 1) := by decide +kernel
theorem dX11_feed_2 : decode cX11_feed 2 = .ok (.invokevirtual 119, 3) := by decide +kernel
theorem dX11_feed_5 : decode cX11_feed 5 = .ok (.astore_n 3, 1) := by decide +kernel
theorem dX11_feed_6 : decode cX11_feed 6 = .ok (.aload_n 3, 1) := by decide +kernel
theorem dX11_feed_7 : decode cX11_feed 7 = .ok (.ifnull 13, 3) := by decide +kernel
theorem dX11_feed_10 : decode cX11_feed 10 = .ok (.iload_n 2, 1) := by decide +kernel
theorem dX11_feed_11 : decode cX11_feed 11 = .ok (.iconst 0, 1) := by decide +kernel
theorem dX11_feed_12 : decode cX11_feed 12 = .ok (.bipush 40, 2) := by decide +kernel
theorem dX11_feed_14 : decode cX11_feed 14 = .ok (.invokestatic 79, 3) := by decide +kernel
theorem dX11_feed_17 : decode cX11_feed 17 = .ok (.ifCond .ne 5, 3) := by decide +kernel
theorem dX11_feed_20 : decode cX11_feed 20 = .ok (.iconst (-1), 1) := by decide +kernel
theorem dX11_feed_21 : decode cX11_feed 21 = .ok (.ireturn, 1) := by decide +kernel
theorem dX11_feed_22 : decode cX11_feed 22 = .ok (.aload_n 3, 1) := by decide +kernel
theorem dX11_feed_23 : decode cX11_feed 23 = .ok (.getfield 123, 3) := by decide +kernel
theorem dX11_feed_26 : decode cX11_feed 26 = .ok (.istore 4, 2) := by decide +kernel
theorem dX11_feed_28 : decode cX11_feed 28 = .ok (.aload_n 3, 1) := by decide +kernel
theorem dX11_feed_29 : decode cX11_feed 29 = .ok (.iload_n 2, 1) := by decide +kernel
theorem dX11_feed_30 : decode cX11_feed 30 = .ok (.putfield 123, 3) := by decide +kernel
theorem dX11_feed_33 : decode cX11_feed 33 = .ok (.iload 4, 2) := by decide +kernel
theorem dX11_feed_35 : decode cX11_feed 35 = .ok (.ireturn, 1) := by decide +kernel
set_option maxRecDepth 20000 in
theorem ggX11_pace_X11_known : GoodIn wsX11_pace wsX11_known := goodIn_r _ [6, 7, 8, 9, 10, 5, 11, 76, 77, 78, 79, 80, 81, 82, 83, 84, 85, 86, 87, 88, 89] (by decide +kernel) (by decide +kernel)
set_option maxRecDepth 20000 in
theorem gX11_pace_X11_known : GoodIn wsX11_pace (wsV RX11 119 RX11 yX11_known wsX11_known) := goodIn_app (goodIn_of _ (by decide +kernel)) ggX11_pace_X11_known
set_option maxRecDepth 20000 in
theorem ggX11_pace_X11_isWithin : GoodIn wsX11_pace wsX11_isWithin := goodIn_r _ [11] (by decide +kernel) (by decide +kernel)
set_option maxRecDepth 20000 in
theorem gX11_pace_X11_isWithin : GoodIn wsX11_pace (va_wsS RX11 79 yX11_isWithin wsX11_isWithin) := goodIn_app (goodIn_of _ (by decide +kernel)) ggX11_pace_X11_isWithin
set_option maxRecDepth 20000 in
theorem ggX11_pace_X3_strideIn : GoodIn wsX11_pace wsX3_strideIn := goodIn_r _ [17, 18, 19, 20, 21, 16, 22, 23, 24, 25, 26, 27, 28, 29, 30, 31, 32, 33, 34, 35, 36, 37, 38, 39, 40, 41, 42, 43, 44, 45, 46, 47, 48, 90, 91, 92, 93, 94, 95, 96, 97, 98, 99, 100, 101, 102, 103, 104, 105] (by decide +kernel) (by decide +kernel)
set_option maxRecDepth 20000 in
theorem gX11_pace_X3_strideIn_u126X0 : GoodIn wsX11_pace (va_wsU RX11 126 RX0 "StraitSwim$Plain" ⟨"StraitSwim$Plain", "strideIn", "(I)I"⟩ yX3_strideIn wsX3_strideIn) := goodIn_app (goodIn_of _ (by decide +kernel)) ggX11_pace_X3_strideIn
set_option maxRecDepth 20000 in
theorem gX11_pace_X3_strideIn : GoodIn wsX11_pace (wsV RX11 126 RX3 yX3_strideIn wsX3_strideIn) := goodIn_app (goodIn_of _ (by decide +kernel)) ggX11_pace_X3_strideIn
set_option maxRecDepth 20000 in
theorem gX11_pace_X3_strideIn_u126X4 : GoodIn wsX11_pace (va_wsU RX11 126 RX4 "StraitSwim$Plain" ⟨"StraitSwim$Plain", "strideIn", "(I)I"⟩ yX3_strideIn wsX3_strideIn) := goodIn_app (goodIn_of _ (by decide +kernel)) ggX11_pace_X3_strideIn
set_option maxRecDepth 20000 in
theorem gX11_pace_X3_strideIn_u126X6 : GoodIn wsX11_pace (va_wsU RX11 126 RX6 "StraitSwim$Plain" ⟨"StraitSwim$Plain", "strideIn", "(I)I"⟩ yX3_strideIn wsX3_strideIn) := goodIn_app (goodIn_of _ (by decide +kernel)) ggX11_pace_X3_strideIn
set_option maxRecDepth 20000 in
theorem ggX11_pace_X0_coldIn : GoodIn wsX11_pace wsX0_coldIn := goodIn_r _ [59, 60, 35, 36, 37, 61, 54, 62, 63, 16, 64] (by decide +kernel) (by decide +kernel)
set_option maxRecDepth 20000 in
theorem gX11_pace_X0_coldIn_u130X0 : GoodIn wsX11_pace (va_wsO RX11 130 RX0 "StraitSwim$Plain" ⟨"StraitSwim$Plain", "coldIn", "(II)I"⟩ yX0_coldIn wsX0_coldIn) := goodIn_app (goodIn_of _ (by decide +kernel)) ggX11_pace_X0_coldIn
set_option maxRecDepth 20000 in
theorem ggX11_pace_X3_coldIn : GoodIn wsX11_pace wsX3_coldIn := goodIn_r _ [64] (by decide +kernel) (by decide +kernel)
set_option maxRecDepth 20000 in
theorem gX11_pace_X3_coldIn : GoodIn wsX11_pace (wsV RX11 130 RX3 yX3_coldIn wsX3_coldIn) := goodIn_app (goodIn_of _ (by decide +kernel)) ggX11_pace_X3_coldIn
set_option maxRecDepth 20000 in
theorem gX11_pace_X3_coldIn_u130X4 : GoodIn wsX11_pace (va_wsU RX11 130 RX4 "StraitSwim$Plain" ⟨"StraitSwim$Plain", "coldIn", "(II)I"⟩ yX3_coldIn wsX3_coldIn) := goodIn_app (goodIn_of _ (by decide +kernel)) ggX11_pace_X3_coldIn
set_option maxRecDepth 20000 in
theorem ggX11_pace_X6_coldIn : GoodIn wsX11_pace wsX6_coldIn := goodIn_r _ [71, 72, 35, 36, 37, 73, 74, 75, 57, 58, 59, 60, 61, 54, 62, 63, 16, 64] (by decide +kernel) (by decide +kernel)
set_option maxRecDepth 20000 in
theorem gX11_pace_X6_coldIn_u130X6 : GoodIn wsX11_pace (va_wsO RX11 130 RX6 "StraitSwim$Plain" ⟨"StraitSwim$Plain", "coldIn", "(II)I"⟩ yX6_coldIn wsX6_coldIn) := goodIn_app (goodIn_of _ (by decide +kernel)) ggX11_pace_X6_coldIn
theorem dX11_pace_0 : decode cX11_pace 0 = .ok (.aload_n 0, 1) := by decide +kernel
theorem dX11_pace_1 : decode cX11_pace 1 = .ok (.iload_n 1, 1) := by decide +kernel
theorem dX11_pace_2 : decode cX11_pace 2 = .ok (.invokevirtual 119, 3) := by decide +kernel
theorem dX11_pace_5 : decode cX11_pace 5 = .ok (.astore 4, 2) := by decide +kernel
theorem dX11_pace_7 : decode cX11_pace 7 = .ok (.aload 4, 2) := by decide +kernel
theorem dX11_pace_9 : decode cX11_pace 9 = .ok (.ifnull 22, 3) := by decide +kernel
theorem dX11_pace_12 : decode cX11_pace 12 = .ok (.iload_n 2, 1) := by decide +kernel
theorem dX11_pace_13 : decode cX11_pace 13 = .ok (.iconst 0, 1) := by decide +kernel
theorem dX11_pace_14 : decode cX11_pace 14 = .ok (.bipush 99, 2) := by decide +kernel
theorem dX11_pace_16 : decode cX11_pace 16 = .ok (.invokestatic 79, 3) := by decide +kernel
theorem dX11_pace_19 : decode cX11_pace 19 = .ok (.ifCond .eq 12, 3) := by decide +kernel
theorem dX11_pace_22 : decode cX11_pace 22 = .ok (.iload_n 3, 1) := by decide +kernel
theorem dX11_pace_23 : decode cX11_pace 23 = .ok (.iconst 0, 1) := by decide +kernel
theorem dX11_pace_24 : decode cX11_pace 24 = .ok (.iconst 1, 1) := by decide +kernel
theorem dX11_pace_25 : decode cX11_pace 25 = .ok (.invokestatic 79, 3) := by decide +kernel
theorem dX11_pace_28 : decode cX11_pace 28 = .ok (.ifCond .ne 5, 3) := by decide +kernel
theorem dX11_pace_31 : decode cX11_pace 31 = .ok (.iconst (-1), 1) := by decide +kernel
theorem dX11_pace_32 : decode cX11_pace 32 = .ok (.ireturn, 1) := by decide +kernel
theorem dX11_pace_33 : decode cX11_pace 33 = .ok (.iload_n 3, 1) := by decide +kernel
theorem dX11_pace_34 : decode cX11_pace 34 = .ok (.ifCond .ne 12, 3) := by decide +kernel
theorem dX11_pace_37 : decode cX11_pace 37 = .ok (.aload 4, 2) := by decide +kernel
theorem dX11_pace_39 : decode cX11_pace 39 = .ok (.iload_n 2, 1) := by decide +kernel
theorem dX11_pace_40 : decode cX11_pace 40 = .ok (.invokevirtual 126, 3) := by decide +kernel
theorem dX11_pace_43 : decode cX11_pace 43 = .ok (.goto 13, 3) := by decide +kernel
theorem dX11_pace_46 : decode cX11_pace 46 = .ok (.aload 4, 2) := by decide +kernel
theorem dX11_pace_48 : decode cX11_pace 48 = .ok (.iload_n 2, 1) := by decide +kernel
theorem dX11_pace_49 : decode cX11_pace 49 = .ok (.aload_n 0, 1) := by decide +kernel
theorem dX11_pace_50 : decode cX11_pace 50 = .ok (.getfield 26, 3) := by decide +kernel
theorem dX11_pace_53 : decode cX11_pace 53 = .ok (.invokevirtual 130, 3) := by decide +kernel
theorem dX11_pace_56 : decode cX11_pace 56 = .ok (.ireturn, 1) := by decide +kernel
set_option maxRecDepth 20000 in
theorem ggX11_swim_X11_known : GoodIn wsX11_swim wsX11_known := goodIn_r _ [8, 9, 10, 11, 12, 7, 13, 119, 120, 121, 122, 123, 124, 125, 126, 127, 128, 129, 130, 131, 132] (by decide +kernel) (by decide +kernel)
set_option maxRecDepth 20000 in
theorem gX11_swim_X11_known : GoodIn wsX11_swim (wsV RX11 119 RX11 yX11_known wsX11_known) := goodIn_app (goodIn_of _ (by decide +kernel)) ggX11_swim_X11_known
set_option maxRecDepth 20000 in
theorem ggX11_swim_X11_isPlace : GoodIn wsX11_swim wsX11_isPlace := goodIn_r _ [16, 11, 12, 7, 13] (by decide +kernel) (by decide +kernel)
set_option maxRecDepth 20000 in
theorem gX11_swim_X11_isPlace : GoodIn wsX11_swim (va_wsS RX11 87 yX11_isPlace wsX11_isPlace) := goodIn_app (goodIn_of _ (by decide +kernel)) ggX11_swim_X11_isPlace
set_option maxRecDepth 20000 in
theorem ggX11_swim_X11_isWithin : GoodIn wsX11_swim wsX11_isWithin := goodIn_r _ [13] (by decide +kernel) (by decide +kernel)
set_option maxRecDepth 20000 in
theorem gX11_swim_X11_isWithin : GoodIn wsX11_swim (va_wsS RX11 79 yX11_isWithin wsX11_isWithin) := goodIn_app (goodIn_of _ (by decide +kernel)) ggX11_swim_X11_isWithin
set_option maxRecDepth 20000 in
theorem ggX11_swim_X8_isDry : GoodIn wsX11_swim wsX8_isDry := goodIn_r _ [21, 22, 15, 7, 16, 11, 12, 13, 133, 134, 135, 136] (by decide +kernel) (by decide +kernel)
set_option maxRecDepth 20000 in
theorem gX11_swim_X8_isDry : GoodIn wsX11_swim (wsV RX11 91 RX8 yX8_isDry wsX8_isDry) := goodIn_app (goodIn_of _ (by decide +kernel)) ggX11_swim_X8_isDry
set_option maxRecDepth 20000 in
theorem ggX11_swim_X9_ready : GoodIn wsX11_swim wsX9_ready := goodIn_r _ [27, 28, 29, 30, 31, 32, 33, 34, 35, 36, 37, 38, 39, 40, 41, 42, 43, 44, 45, 46, 47, 48, 49, 50, 51, 52, 53, 54, 55, 56, 57, 58, 59, 60, 61, 62, 63, 64, 65, 66, 67, 68, 69, 70, 71, 72, 73, 74, 75, 76, 77, 78, 79, 80, 81, 82, 83, 84, 85, 86, 87, 88, 89, 90, 91, 92, 93, 94, 95, 96, 97, 98, 99, 100, 101, 137, 138, 139, 140, 141, 142, 143, 144, 145, 146, 147, 148, 149, 150, 151, 152, 153, 154, 155, 156, 157, 158, 159, 160, 161] (by decide +kernel) (by decide +kernel)
set_option maxRecDepth 20000 in
theorem gX11_swim_X9_ready : GoodIn wsX11_swim (wsV RX11 133 RX9 yX9_ready wsX9_ready) := goodIn_app (goodIn_of _ (by decide +kernel)) ggX11_swim_X9_ready
set_option maxRecDepth 20000 in
theorem ggX11_swim_X9_cross : GoodIn wsX11_swim wsX9_cross := goodIn_r _ [105, 106, 107, 108, 31, 30, 33, 109, 110, 111, 112, 26, 113, 32, 114, 115, 116, 7, 117, 15, 16, 11, 12, 13, 118, 18, 19, 20, 21, 22, 153, 154, 155, 156, 157, 158, 159, 160, 161, 133, 134, 135, 136] (by decide +kernel) (by decide +kernel)
set_option maxRecDepth 20000 in
theorem gX11_swim_X9_cross : GoodIn wsX11_swim (wsV RX11 137 RX9 yX9_cross wsX9_cross) := goodIn_app (goodIn_of _ (by decide +kernel)) ggX11_swim_X9_cross
theorem dX11_swim_0 : decode cX11_swim 0 = .ok (.aload_n 0, 1) := by decide +kernel
theorem dX11_swim_1 : decode cX11_swim 1 = .ok (.iload_n 1, 1) := by decide +kernel
theorem dX11_swim_2 : decode cX11_swim 2 = .ok (.invokevirtual 119, 3) := by decide +kernel
theorem dX11_swim_5 : decode cX11_swim 5 = .ok (.astore 6, 2) := by decide +kernel
theorem dX11_swim_7 : decode cX11_swim 7 = .ok (.aload 6, 2) := by decide +kernel
theorem dX11_swim_9 : decode cX11_swim 9 = .ok (.ifnull 33, 3) := by decide +kernel
theorem dX11_swim_12 : decode cX11_swim 12 = .ok (.iload_n 2, 1) := by decide +kernel
theorem dX11_swim_13 : decode cX11_swim 13 = .ok (.iload_n 3, 1) := by decide +kernel
theorem dX11_swim_14 : decode cX11_swim 14 = .ok (.invokestatic 87, 3) := by decide +kernel
theorem dX11_swim_17 : decode cX11_swim 17 = .ok (.ifCond .eq 25, 3) := by decide +kernel
theorem dX11_swim_20 : decode cX11_swim 20 = .ok (.iload 4, 2) := by decide +kernel
theorem dX11_swim_22 : decode cX11_swim 22 = .ok (.iconst 0, 1) := by decide +kernel
theorem dX11_swim_23 : decode cX11_swim 23 = .ok (.bipush 47, 2) := by decide +kernel
theorem dX11_swim_25 : decode cX11_swim 25 = .ok (.invokestatic 79, 3) := by decide +kernel
theorem dX11_swim_28 : decode cX11_swim 28 = .ok (.ifCond .eq 14, 3) := by decide +kernel
theorem dX11_swim_31 : decode cX11_swim 31 = .ok (.iload 5, 2) := by decide +kernel
theorem dX11_swim_33 : decode cX11_swim 33 = .ok (.iconst 0, 1) := by decide +kernel
theorem dX11_swim_34 : decode cX11_swim 34 = .ok (.bipush 7, 2) := by decide +kernel
theorem dX11_swim_36 : decode cX11_swim 36 = .ok (.invokestatic 79, 3) := by decide +kernel
theorem dX11_swim_39 : decode cX11_swim 39 = .ok (.ifCond .ne 5, 3) := by decide +kernel
theorem dX11_swim_42 : decode cX11_swim 42 = .ok (.iconst (-1), 1) := by decide +kernel
theorem dX11_swim_43 : decode cX11_swim 43 = .ok (.ireturn, 1) := by decide +kernel
theorem dX11_swim_44 : decode cX11_swim 44 = .ok (.aload_n 0, 1) := by decide +kernel
theorem dX11_swim_45 : decode cX11_swim 45 = .ok (.getfield 10, 3) := by decide +kernel
theorem dX11_swim_48 : decode cX11_swim 48 = .ok (.iload_n 2, 1) := by decide +kernel
theorem dX11_swim_49 : decode cX11_swim 49 = .ok (.iload_n 3, 1) := by decide +kernel
theorem dX11_swim_50 : decode cX11_swim 50 = .ok (.invokevirtual 91, 3) := by decide +kernel
theorem dX11_swim_53 : decode cX11_swim 53 = .ok (.ifCond .eq 6, 3) := by decide +kernel
theorem dX11_swim_56 : decode cX11_swim 56 = .ok (.bipush (-4), 2) := by decide +kernel
theorem dX11_swim_58 : decode cX11_swim 58 = .ok (.ireturn, 1) := by decide +kernel
theorem dX11_swim_59 : decode cX11_swim 59 = .ok (.aload_n 0, 1) := by decide +kernel
theorem dX11_swim_60 : decode cX11_swim 60 = .ok (.getfield 35, 3) := by decide +kernel
theorem dX11_swim_63 : decode cX11_swim 63 = .ok (.aload 6, 2) := by decide +kernel
theorem dX11_swim_65 : decode cX11_swim 65 = .ok (.aload_n 0, 1) := by decide +kernel
theorem dX11_swim_66 : decode cX11_swim 66 = .ok (.getfield 26, 3) := by decide +kernel
theorem dX11_swim_69 : decode cX11_swim 69 = .ok (.invokevirtual 133, 3) := by decide +kernel
theorem dX11_swim_72 : decode cX11_swim 72 = .ok (.aload_n 0, 1) := by decide +kernel
theorem dX11_swim_73 : decode cX11_swim 73 = .ok (.getfield 35, 3) := by decide +kernel
theorem dX11_swim_76 : decode cX11_swim 76 = .ok (.aload_n 0, 1) := by decide +kernel
theorem dX11_swim_77 : decode cX11_swim 77 = .ok (.getfield 10, 3) := by decide +kernel
theorem dX11_swim_80 : decode cX11_swim 80 = .ok (.iload_n 2, 1) := by decide +kernel
theorem dX11_swim_81 : decode cX11_swim 81 = .ok (.iload_n 3, 1) := by decide +kernel
theorem dX11_swim_82 : decode cX11_swim 82 = .ok (.iload 4, 2) := by decide +kernel
theorem dX11_swim_84 : decode cX11_swim 84 = .ok (.iload 5, 2) := by decide +kernel
theorem dX11_swim_86 : decode cX11_swim 86 = .ok (.invokevirtual 137, 3) := by decide +kernel
theorem dX11_swim_89 : decode cX11_swim 89 = .ok (.ireturn, 1) := by decide +kernel
set_option maxRecDepth 20000 in
theorem ggX11_ended_X11_isWithin : GoodIn wsX11_ended wsX11_isWithin := goodIn_r _ [10] (by decide +kernel) (by decide +kernel)
set_option maxRecDepth 20000 in
theorem gX11_ended_X11_isWithin : GoodIn wsX11_ended (va_wsS RX11 79 yX11_isWithin wsX11_isWithin) := goodIn_app (goodIn_of _ (by decide +kernel)) ggX11_ended_X11_isWithin
set_option maxRecDepth 20000 in
theorem ggX11_ended_X9_hasBeen : GoodIn wsX11_ended wsX9_hasBeen := goodIn_r _ [15, 16, 31, 32, 33, 34, 35, 36, 37, 38, 39] (by decide +kernel) (by decide +kernel)
set_option maxRecDepth 20000 in
theorem gX11_ended_X9_hasBeen : GoodIn wsX11_ended (wsV RX11 141 RX9 yX9_hasBeen wsX9_hasBeen) := goodIn_app (goodIn_of _ (by decide +kernel)) ggX11_ended_X9_hasBeen
theorem dX11_ended_0 : decode cX11_ended 0 = .ok (.iload_n 1, 1) := by decide +kernel
theorem dX11_ended_1 : decode cX11_ended 1 = .ok (.iconst 0, 1) := by decide +kernel
theorem dX11_ended_2 : decode cX11_ended 2 = .ok (.iconst 4, 1) := by decide +kernel
theorem dX11_ended_3 : decode cX11_ended 3 = .ok (.invokestatic 79, 3) := by decide +kernel
theorem dX11_ended_6 : decode cX11_ended 6 = .ok (.ifCond .ne 5, 3) := by decide +kernel
theorem dX11_ended_9 : decode cX11_ended 9 = .ok (.iconst (-1), 1) := by decide +kernel
theorem dX11_ended_10 : decode cX11_ended 10 = .ok (.ireturn, 1) := by decide +kernel
theorem dX11_ended_11 : decode cX11_ended 11 = .ok (.aload_n 0, 1) := by decide +kernel
theorem dX11_ended_12 : decode cX11_ended 12 = .ok (.getfield 35, 3) := by decide +kernel
theorem dX11_ended_15 : decode cX11_ended 15 = .ok (.invokevirtual 141, 3) := by decide +kernel
theorem dX11_ended_18 : decode cX11_ended 18 = .ok (.ifCond .ne 6, 3) := by decide +kernel
theorem dX11_ended_21 : decode cX11_ended 21 = .ok (.bipush (-3), 2) := by decide +kernel
theorem dX11_ended_23 : decode cX11_ended 23 = .ok (.ireturn, 1) := by decide +kernel
theorem dX11_ended_24 : decode cX11_ended 24 = .ok (.iload_n 1, 1) := by decide +kernel
theorem dX11_ended_25 : decode cX11_ended 25 = .ok (.tableswitch 79 0 3 #[31, 47, 63, 71], 31) := by decide +kernel
theorem dX11_ended_56 : decode cX11_ended 56 = .ok (.aload_n 0, 1) := by decide +kernel
theorem dX11_ended_57 : decode cX11_ended 57 = .ok (.getfield 35, 3) := by decide +kernel
theorem dX11_ended_60 : decode cX11_ended 60 = .ok (.getfield 145, 3) := by decide +kernel
theorem dX11_ended_63 : decode cX11_ended 63 = .ok (.aload_n 0, 1) := by decide +kernel
theorem dX11_ended_64 : decode cX11_ended 64 = .ok (.getfield 35, 3) := by decide +kernel
theorem dX11_ended_67 : decode cX11_ended 67 = .ok (.getfield 148, 3) := by decide +kernel
theorem dX11_ended_70 : decode cX11_ended 70 = .ok (.iaload, 1) := by decide +kernel
theorem dX11_ended_71 : decode cX11_ended 71 = .ok (.ireturn, 1) := by decide +kernel
theorem dX11_ended_72 : decode cX11_ended 72 = .ok (.aload_n 0, 1) := by decide +kernel
theorem dX11_ended_73 : decode cX11_ended 73 = .ok (.getfield 35, 3) := by decide +kernel
theorem dX11_ended_76 : decode cX11_ended 76 = .ok (.getfield 151, 3) := by decide +kernel
theorem dX11_ended_79 : decode cX11_ended 79 = .ok (.aload_n 0, 1) := by decide +kernel
theorem dX11_ended_80 : decode cX11_ended 80 = .ok (.getfield 35, 3) := by decide +kernel
theorem dX11_ended_83 : decode cX11_ended 83 = .ok (.getfield 148, 3) := by decide +kernel
theorem dX11_ended_86 : decode cX11_ended 86 = .ok (.iaload, 1) := by decide +kernel
theorem dX11_ended_87 : decode cX11_ended 87 = .ok (.ireturn, 1) := by decide +kernel
theorem dX11_ended_88 : decode cX11_ended 88 = .ok (.aload_n 0, 1) := by decide +kernel
theorem dX11_ended_89 : decode cX11_ended 89 = .ok (.getfield 35, 3) := by decide +kernel
theorem dX11_ended_92 : decode cX11_ended 92 = .ok (.getfield 148, 3) := by decide +kernel
theorem dX11_ended_95 : decode cX11_ended 95 = .ok (.ireturn, 1) := by decide +kernel
theorem dX11_ended_96 : decode cX11_ended 96 = .ok (.aload_n 0, 1) := by decide +kernel
theorem dX11_ended_97 : decode cX11_ended 97 = .ok (.getfield 35, 3) := by decide +kernel
theorem dX11_ended_100 : decode cX11_ended 100 = .ok (.getfield 154, 3) := by decide +kernel
theorem dX11_ended_103 : decode cX11_ended 103 = .ok (.ireturn, 1) := by decide +kernel
theorem dX11_ended_104 : decode cX11_ended 104 = .ok (.aload_n 0, 1) := by decide +kernel
theorem dX11_ended_105 : decode cX11_ended 105 = .ok (.getfield 35, 3) := by decide +kernel
theorem dX11_ended_108 : decode cX11_ended 108 = .ok (.getfield 157, 3) := by decide +kernel
theorem dX11_ended_111 : decode cX11_ended 111 = .ok (.ireturn, 1) := by decide +kernel
set_option maxRecDepth 20000 in
theorem ggX11_where_X11_isWithin : GoodIn wsX11_where wsX11_isWithin := goodIn_r _ [8] (by decide +kernel) (by decide +kernel)
set_option maxRecDepth 20000 in
theorem gX11_where_X11_isWithin : GoodIn wsX11_where (va_wsS RX11 79 yX11_isWithin wsX11_isWithin) := goodIn_app (goodIn_of _ (by decide +kernel)) ggX11_where_X11_isWithin
set_option maxRecDepth 20000 in
theorem ggX11_where_X9_hasBeen : GoodIn wsX11_where wsX9_hasBeen := goodIn_r _ [13, 14, 29, 30, 31, 32, 33, 34, 35, 36, 37] (by decide +kernel) (by decide +kernel)
set_option maxRecDepth 20000 in
theorem gX11_where_X9_hasBeen : GoodIn wsX11_where (wsV RX11 141 RX9 yX9_hasBeen wsX9_hasBeen) := goodIn_app (goodIn_of _ (by decide +kernel)) ggX11_where_X9_hasBeen
theorem dX11_where_0 : decode cX11_where 0 = .ok (.iload_n 1, 1) := by decide +kernel
theorem dX11_where_1 : decode cX11_where 1 = .ok (.iconst 0, 1) := by decide +kernel
theorem dX11_where_2 : decode cX11_where 2 = .ok (.bipush 100, 2) := by decide +kernel
theorem dX11_where_4 : decode cX11_where 4 = .ok (.invokestatic 79, 3) := by decide +kernel
theorem dX11_where_7 : decode cX11_where 7 = .ok (.ifCond .ne 5, 3) := by decide +kernel
theorem dX11_where_10 : decode cX11_where 10 = .ok (.iconst (-1), 1) := by decide +kernel
theorem dX11_where_11 : decode cX11_where 11 = .ok (.ireturn, 1) := by decide +kernel
theorem dX11_where_12 : decode cX11_where 12 = .ok (.aload_n 0, 1) := by decide +kernel
theorem dX11_where_13 : decode cX11_where 13 = .ok (.getfield 35, 3) := by decide +kernel
theorem dX11_where_16 : decode cX11_where 16 = .ok (.invokevirtual 141, 3) := by decide +kernel
theorem dX11_where_19 : decode cX11_where 19 = .ok (.ifCond .eq 14, 3) := by decide +kernel
theorem dX11_where_22 : decode cX11_where 22 = .ok (.iload_n 1, 1) := by decide +kernel
theorem dX11_where_23 : decode cX11_where 23 = .ok (.aload_n 0, 1) := by decide +kernel
theorem dX11_where_24 : decode cX11_where 24 = .ok (.getfield 35, 3) := by decide +kernel
theorem dX11_where_27 : decode cX11_where 27 = .ok (.getfield 148, 3) := by decide +kernel
theorem dX11_where_30 : decode cX11_where 30 = .ok (.if_icmp .le 6, 3) := by decide +kernel
theorem dX11_where_33 : decode cX11_where 33 = .ok (.bipush (-3), 2) := by decide +kernel
theorem dX11_where_35 : decode cX11_where 35 = .ok (.ireturn, 1) := by decide +kernel
theorem dX11_where_36 : decode cX11_where 36 = .ok (.sipush 1000, 3) := by decide +kernel
theorem dX11_where_39 : decode cX11_where 39 = .ok (.aload_n 0, 1) := by decide +kernel
theorem dX11_where_40 : decode cX11_where 40 = .ok (.getfield 35, 3) := by decide +kernel
theorem dX11_where_43 : decode cX11_where 43 = .ok (.getfield 145, 3) := by decide +kernel
theorem dX11_where_46 : decode cX11_where 46 = .ok (.iload_n 1, 1) := by decide +kernel
theorem dX11_where_47 : decode cX11_where 47 = .ok (.iaload, 1) := by decide +kernel
theorem dX11_where_48 : decode cX11_where 48 = .ok (.imul, 1) := by decide +kernel
theorem dX11_where_49 : decode cX11_where 49 = .ok (.aload_n 0, 1) := by decide +kernel
theorem dX11_where_50 : decode cX11_where 50 = .ok (.getfield 35, 3) := by decide +kernel
theorem dX11_where_53 : decode cX11_where 53 = .ok (.getfield 151, 3) := by decide +kernel
theorem dX11_where_56 : decode cX11_where 56 = .ok (.iload_n 1, 1) := by decide +kernel
theorem dX11_where_57 : decode cX11_where 57 = .ok (.iaload, 1) := by decide +kernel
theorem dX11_where_58 : decode cX11_where 58 = .ok (.iadd, 1) := by decide +kernel
theorem dX11_where_59 : decode cX11_where 59 = .ok (.ireturn, 1) := by decide +kernel
set_option maxRecDepth 20000 in
theorem ggX11_best_X11_known : GoodIn wsX11_best wsX11_known := goodIn_r _ [9, 10, 11, 12, 13, 8, 14, 120, 121, 122, 123, 124, 125, 126, 127, 128, 129, 130, 131, 132, 133] (by decide +kernel) (by decide +kernel)
set_option maxRecDepth 20000 in
theorem gX11_best_X11_known : GoodIn wsX11_best (wsV RX11 119 RX11 yX11_known wsX11_known) := goodIn_app (goodIn_of _ (by decide +kernel)) ggX11_best_X11_known
set_option maxRecDepth 20000 in
theorem ggX11_best_X11_isPlace : GoodIn wsX11_best wsX11_isPlace := goodIn_r _ [17, 12, 13, 8, 14] (by decide +kernel) (by decide +kernel)
set_option maxRecDepth 20000 in
theorem gX11_best_X11_isPlace : GoodIn wsX11_best (va_wsS RX11 87 yX11_isPlace wsX11_isPlace) := goodIn_app (goodIn_of _ (by decide +kernel)) ggX11_best_X11_isPlace
set_option maxRecDepth 20000 in
theorem ggX11_best_X8_isDry : GoodIn wsX11_best wsX8_isDry := goodIn_r _ [22, 23, 16, 8, 17, 12, 13, 14, 143, 144, 145, 146] (by decide +kernel) (by decide +kernel)
set_option maxRecDepth 20000 in
theorem gX11_best_X8_isDry : GoodIn wsX11_best (wsV RX11 91 RX8 yX8_isDry wsX8_isDry) := goodIn_app (goodIn_of _ (by decide +kernel)) ggX11_best_X8_isDry
set_option maxRecDepth 20000 in
theorem ggX11_best_X9_ready : GoodIn wsX11_best wsX9_ready := goodIn_r _ [28, 29, 30, 31, 32, 33, 34, 35, 36, 37, 38, 39, 40, 41, 42, 43, 44, 45, 46, 47, 48, 49, 50, 51, 52, 53, 54, 55, 56, 57, 58, 59, 60, 61, 62, 63, 64, 65, 66, 67, 68, 69, 70, 71, 72, 73, 74, 75, 76, 77, 78, 79, 80, 81, 82, 83, 84, 85, 86, 87, 88, 89, 90, 91, 92, 93, 94, 95, 96, 97, 98, 99, 100, 101, 102, 147, 148, 149, 150, 151, 152, 153, 154, 155, 156, 157, 158, 159, 160, 161, 162, 134, 135, 136, 137, 138, 139, 140, 141, 142] (by decide +kernel) (by decide +kernel)
set_option maxRecDepth 20000 in
theorem gX11_best_X9_ready : GoodIn wsX11_best (wsV RX11 133 RX9 yX9_ready wsX9_ready) := goodIn_app (goodIn_of _ (by decide +kernel)) ggX11_best_X9_ready
set_option maxRecDepth 20000 in
theorem ggX11_best_X9_cross : GoodIn wsX11_best wsX9_cross := goodIn_r _ [106, 107, 108, 109, 32, 31, 34, 110, 111, 112, 113, 27, 114, 33, 115, 116, 117, 8, 118, 16, 17, 12, 13, 14, 119, 19, 20, 21, 22, 23, 134, 135, 136, 137, 138, 139, 140, 141, 142, 143, 144, 145, 146] (by decide +kernel) (by decide +kernel)
set_option maxRecDepth 20000 in
theorem gX11_best_X9_cross : GoodIn wsX11_best (wsV RX11 137 RX9 yX9_cross wsX9_cross) := goodIn_app (goodIn_of _ (by decide +kernel)) ggX11_best_X9_cross
theorem dX11_best_0 : decode cX11_best 0 = .ok (.aload_n 0, 1) := by decide +kernel
theorem dX11_best_1 : decode cX11_best 1 = .ok (.iload_n 1, 1) := by decide +kernel
theorem dX11_best_2 : decode cX11_best 2 = .ok (.invokevirtual 119, 3) := by decide +kernel
theorem dX11_best_5 : decode cX11_best 5 = .ok (.astore 4, 2) := by decide +kernel
theorem dX11_best_7 : decode cX11_best 7 = .ok (.aload 4, 2) := by decide +kernel
theorem dX11_best_9 : decode cX11_best 9 = .ok (.ifnull 11, 3) := by decide +kernel
theorem dX11_best_12 : decode cX11_best 12 = .ok (.iload_n 2, 1) := by decide +kernel
theorem dX11_best_13 : decode cX11_best 13 = .ok (.iload_n 3, 1) := by decide +kernel
theorem dX11_best_14 : decode cX11_best 14 = .ok (.invokestatic 87, 3) := by decide +kernel
theorem dX11_best_17 : decode cX11_best 17 = .ok (.ifCond .ne 5, 3) := by decide +kernel
theorem dX11_best_20 : decode cX11_best 20 = .ok (.iconst (-1), 1) := by decide +kernel
theorem dX11_best_21 : decode cX11_best 21 = .ok (.ireturn, 1) := by decide +kernel
theorem dX11_best_22 : decode cX11_best 22 = .ok (.aload_n 0, 1) := by decide +kernel
theorem dX11_best_23 : decode cX11_best 23 = .ok (.getfield 10, 3) := by decide +kernel
theorem dX11_best_26 : decode cX11_best 26 = .ok (.iload_n 2, 1) := by decide +kernel
theorem dX11_best_27 : decode cX11_best 27 = .ok (.iload_n 3, 1) := by decide +kernel
theorem dX11_best_28 : decode cX11_best 28 = .ok (.invokevirtual 91, 3) := by decide +kernel
theorem dX11_best_31 : decode cX11_best 31 = .ok (.ifCond .eq 6, 3) := by decide +kernel
theorem dX11_best_34 : decode cX11_best 34 = .ok (.bipush (-4), 2) := by decide +kernel
theorem dX11_best_36 : decode cX11_best 36 = .ok (.ireturn, 1) := by decide +kernel
theorem dX11_best_37 : decode cX11_best 37 = .ok (.aload_n 0, 1) := by decide +kernel
theorem dX11_best_38 : decode cX11_best 38 = .ok (.getfield 39, 3) := by decide +kernel
theorem dX11_best_41 : decode cX11_best 41 = .ok (.aload 4, 2) := by decide +kernel
theorem dX11_best_43 : decode cX11_best 43 = .ok (.aload_n 0, 1) := by decide +kernel
theorem dX11_best_44 : decode cX11_best 44 = .ok (.getfield 26, 3) := by decide +kernel
theorem dX11_best_47 : decode cX11_best 47 = .ok (.invokevirtual 133, 3) := by decide +kernel
theorem dX11_best_50 : decode cX11_best 50 = .ok (.bipush 101, 2) := by decide +kernel
theorem dX11_best_52 : decode cX11_best 52 = .ok (.istore 5, 2) := by decide +kernel
theorem dX11_best_54 : decode cX11_best 54 = .ok (.bipush (-4), 2) := by decide +kernel
theorem dX11_best_56 : decode cX11_best 56 = .ok (.istore 6, 2) := by decide +kernel
theorem dX11_best_58 : decode cX11_best 58 = .ok (.iconst 0, 1) := by decide +kernel
theorem dX11_best_59 : decode cX11_best 59 = .ok (.istore 7, 2) := by decide +kernel
theorem dX11_best_61 : decode cX11_best 61 = .ok (.iload 7, 2) := by decide +kernel
theorem dX11_best_63 : decode cX11_best 63 = .ok (.bipush 48, 2) := by decide +kernel
theorem dX11_best_65 : decode cX11_best 65 = .ok (.if_icmp .ge 80, 3) := by decide +kernel
theorem dX11_best_68 : decode cX11_best 68 = .ok (.iconst 0, 1) := by decide +kernel
theorem dX11_best_69 : decode cX11_best 69 = .ok (.istore 8, 2) := by decide +kernel
theorem dX11_best_71 : decode cX11_best 71 = .ok (.iload 8, 2) := by decide +kernel
theorem dX11_best_73 : decode cX11_best 73 = .ok (.bipush 8, 2) := by decide +kernel
theorem dX11_best_75 : decode cX11_best 75 = .ok (.if_icmp .ge 64, 3) := by decide +kernel
theorem dX11_best_78 : decode cX11_best 78 = .ok (.aload_n 0, 1) := by decide +kernel
theorem dX11_best_79 : decode cX11_best 79 = .ok (.getfield 39, 3) := by decide +kernel
theorem dX11_best_82 : decode cX11_best 82 = .ok (.aload_n 0, 1) := by decide +kernel
theorem dX11_best_83 : decode cX11_best 83 = .ok (.getfield 10, 3) := by decide +kernel
theorem dX11_best_86 : decode cX11_best 86 = .ok (.iload_n 2, 1) := by decide +kernel
theorem dX11_best_87 : decode cX11_best 87 = .ok (.iload_n 3, 1) := by decide +kernel
theorem dX11_best_88 : decode cX11_best 88 = .ok (.iload 7, 2) := by decide +kernel
theorem dX11_best_90 : decode cX11_best 90 = .ok (.iload 8, 2) := by decide +kernel
theorem dX11_best_92 : decode cX11_best 92 = .ok (.invokevirtual 137, 3) := by decide +kernel
theorem dX11_best_95 : decode cX11_best 95 = .ok (.istore 9, 2) := by decide +kernel
theorem dX11_best_97 : decode cX11_best 97 = .ok (.iload 9, 2) := by decide +kernel
theorem dX11_best_99 : decode cX11_best 99 = .ok (.ifCond .ne 34, 3) := by decide +kernel
theorem dX11_best_102 : decode cX11_best 102 = .ok (.aload_n 0, 1) := by decide +kernel
theorem dX11_best_103 : decode cX11_best 103 = .ok (.getfield 39, 3) := by decide +kernel
theorem dX11_best_106 : decode cX11_best 106 = .ok (.getfield 148, 3) := by decide +kernel
theorem dX11_best_109 : decode cX11_best 109 = .ok (.iload 5, 2) := by decide +kernel
theorem dX11_best_111 : decode cX11_best 111 = .ok (.if_icmp .ge 22, 3) := by decide +kernel
theorem dX11_best_114 : decode cX11_best 114 = .ok (.aload_n 0, 1) := by decide +kernel
theorem dX11_best_115 : decode cX11_best 115 = .ok (.getfield 39, 3) := by decide +kernel
theorem dX11_best_118 : decode cX11_best 118 = .ok (.getfield 148, 3) := by decide +kernel
theorem dX11_best_121 : decode cX11_best 121 = .ok (.istore 5, 2) := by decide +kernel
theorem dX11_best_123 : decode cX11_best 123 = .ok (.bipush 10, 2) := by decide +kernel
theorem dX11_best_125 : decode cX11_best 125 = .ok (.iload 7, 2) := by decide +kernel
theorem dX11_best_127 : decode cX11_best 127 = .ok (.imul, 1) := by decide +kernel
theorem dX11_best_128 : decode cX11_best 128 = .ok (.iload 8, 2) := by decide +kernel
theorem dX11_best_130 : decode cX11_best 130 = .ok (.iadd, 1) := by decide +kernel
theorem dX11_best_131 : decode cX11_best 131 = .ok (.istore 6, 2) := by decide +kernel
theorem dX11_best_133 : decode cX11_best 133 = .ok (.iinc 8 1, 3) := by decide +kernel
theorem dX11_best_136 : decode cX11_best 136 = .ok (.goto (-65), 3) := by decide +kernel
theorem dX11_best_139 : decode cX11_best 139 = .ok (.iinc 7 1, 3) := by decide +kernel
theorem dX11_best_142 : decode cX11_best 142 = .ok (.goto (-81), 3) := by decide +kernel
theorem dX11_best_145 : decode cX11_best 145 = .ok (.iload 6, 2) := by decide +kernel
theorem dX11_best_147 : decode cX11_best 147 = .ok (.ireturn, 1) := by decide +kernel
set_option maxRecDepth 20000 in
theorem ggX11_ends_X11_known : GoodIn wsX11_ends wsX11_known := goodIn_r _ [8, 9, 10, 11, 12, 7, 13, 119, 120, 121, 122, 123, 124, 125, 126, 127, 128, 129, 130, 131, 132] (by decide +kernel) (by decide +kernel)
set_option maxRecDepth 20000 in
theorem gX11_ends_X11_known : GoodIn wsX11_ends (wsV RX11 119 RX11 yX11_known wsX11_known) := goodIn_app (goodIn_of _ (by decide +kernel)) ggX11_ends_X11_known
set_option maxRecDepth 20000 in
theorem ggX11_ends_X11_isPlace : GoodIn wsX11_ends wsX11_isPlace := goodIn_r _ [16, 11, 12, 7, 13] (by decide +kernel) (by decide +kernel)
set_option maxRecDepth 20000 in
theorem gX11_ends_X11_isPlace : GoodIn wsX11_ends (va_wsS RX11 87 yX11_isPlace wsX11_isPlace) := goodIn_app (goodIn_of _ (by decide +kernel)) ggX11_ends_X11_isPlace
set_option maxRecDepth 20000 in
theorem ggX11_ends_X11_isWithin : GoodIn wsX11_ends wsX11_isWithin := goodIn_r _ [13] (by decide +kernel) (by decide +kernel)
set_option maxRecDepth 20000 in
theorem gX11_ends_X11_isWithin : GoodIn wsX11_ends (va_wsS RX11 79 yX11_isWithin wsX11_isWithin) := goodIn_app (goodIn_of _ (by decide +kernel)) ggX11_ends_X11_isWithin
set_option maxRecDepth 20000 in
theorem ggX11_ends_X8_isDry : GoodIn wsX11_ends wsX8_isDry := goodIn_r _ [21, 22, 15, 7, 16, 11, 12, 13, 133, 134, 135, 136] (by decide +kernel) (by decide +kernel)
set_option maxRecDepth 20000 in
theorem gX11_ends_X8_isDry : GoodIn wsX11_ends (wsV RX11 91 RX8 yX8_isDry wsX8_isDry) := goodIn_app (goodIn_of _ (by decide +kernel)) ggX11_ends_X8_isDry
set_option maxRecDepth 20000 in
theorem ggX11_ends_X9_ready : GoodIn wsX11_ends wsX9_ready := goodIn_r _ [27, 28, 29, 30, 31, 32, 33, 34, 35, 36, 37, 38, 39, 40, 41, 42, 43, 44, 45, 46, 47, 48, 49, 50, 51, 52, 53, 54, 55, 56, 57, 58, 59, 60, 61, 62, 63, 64, 65, 66, 67, 68, 69, 70, 71, 72, 73, 74, 75, 76, 77, 78, 79, 80, 81, 82, 83, 84, 85, 86, 87, 88, 89, 90, 91, 92, 93, 94, 95, 96, 97, 98, 99, 100, 101, 137, 138, 139, 140, 141, 142, 143, 144, 145, 146, 147, 148, 149, 150, 151, 152, 153, 154, 155, 156, 157, 158, 159, 160, 161] (by decide +kernel) (by decide +kernel)
set_option maxRecDepth 20000 in
theorem gX11_ends_X9_ready : GoodIn wsX11_ends (wsV RX11 133 RX9 yX9_ready wsX9_ready) := goodIn_app (goodIn_of _ (by decide +kernel)) ggX11_ends_X9_ready
set_option maxRecDepth 20000 in
theorem ggX11_ends_X9_cross : GoodIn wsX11_ends wsX9_cross := goodIn_r _ [105, 106, 107, 108, 31, 30, 33, 109, 110, 111, 112, 26, 113, 32, 114, 115, 116, 7, 117, 15, 16, 11, 12, 13, 118, 18, 19, 20, 21, 22, 153, 154, 155, 156, 157, 158, 159, 160, 161, 133, 134, 135, 136] (by decide +kernel) (by decide +kernel)
set_option maxRecDepth 20000 in
theorem gX11_ends_X9_cross : GoodIn wsX11_ends (wsV RX11 137 RX9 yX9_cross wsX9_cross) := goodIn_app (goodIn_of _ (by decide +kernel)) ggX11_ends_X9_cross
theorem dX11_ends_0 : decode cX11_ends 0 = .ok (.aload_n 0, 1) := by decide +kernel
theorem dX11_ends_1 : decode cX11_ends 1 = .ok (.iload_n 1, 1) := by decide +kernel
theorem dX11_ends_2 : decode cX11_ends 2 = .ok (.invokevirtual 119, 3) := by decide +kernel
theorem dX11_ends_5 : decode cX11_ends 5 = .ok (.astore 5, 2) := by decide +kernel
theorem dX11_ends_7 : decode cX11_ends 7 = .ok (.aload 5, 2) := by decide +kernel
theorem dX11_ends_9 : decode cX11_ends 9 = .ok (.ifnull 21, 3) := by decide +kernel
theorem dX11_ends_12 : decode cX11_ends 12 = .ok (.iload_n 2, 1) := by decide +kernel
theorem dX11_ends_13 : decode cX11_ends 13 = .ok (.iload_n 3, 1) := by decide +kernel
theorem dX11_ends_14 : decode cX11_ends 14 = .ok (.invokestatic 87, 3) := by decide +kernel
theorem dX11_ends_17 : decode cX11_ends 17 = .ok (.ifCond .eq 13, 3) := by decide +kernel
theorem dX11_ends_20 : decode cX11_ends 20 = .ok (.iload 4, 2) := by decide +kernel
theorem dX11_ends_22 : decode cX11_ends 22 = .ok (.iconst 0, 1) := by decide +kernel
theorem dX11_ends_23 : decode cX11_ends 23 = .ok (.iconst 3, 1) := by decide +kernel
theorem dX11_ends_24 : decode cX11_ends 24 = .ok (.invokestatic 79, 3) := by decide +kernel
theorem dX11_ends_27 : decode cX11_ends 27 = .ok (.ifCond .ne 5, 3) := by decide +kernel
theorem dX11_ends_30 : decode cX11_ends 30 = .ok (.iconst (-1), 1) := by decide +kernel
theorem dX11_ends_31 : decode cX11_ends 31 = .ok (.ireturn, 1) := by decide +kernel
theorem dX11_ends_32 : decode cX11_ends 32 = .ok (.aload_n 0, 1) := by decide +kernel
theorem dX11_ends_33 : decode cX11_ends 33 = .ok (.getfield 10, 3) := by decide +kernel
theorem dX11_ends_36 : decode cX11_ends 36 = .ok (.iload_n 2, 1) := by decide +kernel
theorem dX11_ends_37 : decode cX11_ends 37 = .ok (.iload_n 3, 1) := by decide +kernel
theorem dX11_ends_38 : decode cX11_ends 38 = .ok (.invokevirtual 91, 3) := by decide +kernel
theorem dX11_ends_41 : decode cX11_ends 41 = .ok (.ifCond .eq 6, 3) := by decide +kernel
theorem dX11_ends_44 : decode cX11_ends 44 = .ok (.bipush (-4), 2) := by decide +kernel
theorem dX11_ends_46 : decode cX11_ends 46 = .ok (.ireturn, 1) := by decide +kernel
theorem dX11_ends_47 : decode cX11_ends 47 = .ok (.aload_n 0, 1) := by decide +kernel
theorem dX11_ends_48 : decode cX11_ends 48 = .ok (.getfield 39, 3) := by decide +kernel
theorem dX11_ends_51 : decode cX11_ends 51 = .ok (.aload 5, 2) := by decide +kernel
theorem dX11_ends_53 : decode cX11_ends 53 = .ok (.aload_n 0, 1) := by decide +kernel
theorem dX11_ends_54 : decode cX11_ends 54 = .ok (.getfield 26, 3) := by decide +kernel
theorem dX11_ends_57 : decode cX11_ends 57 = .ok (.invokevirtual 133, 3) := by decide +kernel
theorem dX11_ends_60 : decode cX11_ends 60 = .ok (.iconst 0, 1) := by decide +kernel
theorem dX11_ends_61 : decode cX11_ends 61 = .ok (.istore 6, 2) := by decide +kernel
theorem dX11_ends_63 : decode cX11_ends 63 = .ok (.iconst 0, 1) := by decide +kernel
theorem dX11_ends_64 : decode cX11_ends 64 = .ok (.istore 7, 2) := by decide +kernel
theorem dX11_ends_66 : decode cX11_ends 66 = .ok (.iload 7, 2) := by decide +kernel
theorem dX11_ends_68 : decode cX11_ends 68 = .ok (.bipush 48, 2) := by decide +kernel
theorem dX11_ends_70 : decode cX11_ends 70 = .ok (.if_icmp .ge 50, 3) := by decide +kernel
theorem dX11_ends_73 : decode cX11_ends 73 = .ok (.iconst 0, 1) := by decide +kernel
theorem dX11_ends_74 : decode cX11_ends 74 = .ok (.istore 8, 2) := by decide +kernel
theorem dX11_ends_76 : decode cX11_ends 76 = .ok (.iload 8, 2) := by decide +kernel
theorem dX11_ends_78 : decode cX11_ends 78 = .ok (.bipush 8, 2) := by decide +kernel
theorem dX11_ends_80 : decode cX11_ends 80 = .ok (.if_icmp .ge 34, 3) := by decide +kernel
theorem dX11_ends_83 : decode cX11_ends 83 = .ok (.aload_n 0, 1) := by decide +kernel
theorem dX11_ends_84 : decode cX11_ends 84 = .ok (.getfield 39, 3) := by decide +kernel
theorem dX11_ends_87 : decode cX11_ends 87 = .ok (.aload_n 0, 1) := by decide +kernel
theorem dX11_ends_88 : decode cX11_ends 88 = .ok (.getfield 10, 3) := by decide +kernel
theorem dX11_ends_91 : decode cX11_ends 91 = .ok (.iload_n 2, 1) := by decide +kernel
theorem dX11_ends_92 : decode cX11_ends 92 = .ok (.iload_n 3, 1) := by decide +kernel
theorem dX11_ends_93 : decode cX11_ends 93 = .ok (.iload 7, 2) := by decide +kernel
theorem dX11_ends_95 : decode cX11_ends 95 = .ok (.iload 8, 2) := by decide +kernel
theorem dX11_ends_97 : decode cX11_ends 97 = .ok (.invokevirtual 137, 3) := by decide +kernel
theorem dX11_ends_100 : decode cX11_ends 100 = .ok (.iload 4, 2) := by decide +kernel
theorem dX11_ends_102 : decode cX11_ends 102 = .ok (.if_icmp .ne 6, 3) := by decide +kernel
theorem dX11_ends_105 : decode cX11_ends 105 = .ok (.iinc 6 1, 3) := by decide +kernel
theorem dX11_ends_108 : decode cX11_ends 108 = .ok (.iinc 8 1, 3) := by decide +kernel
theorem dX11_ends_111 : decode cX11_ends 111 = .ok (.goto (-35), 3) := by decide +kernel
theorem dX11_ends_114 : decode cX11_ends 114 = .ok (.iinc 7 1, 3) := by decide +kernel
theorem dX11_ends_117 : decode cX11_ends 117 = .ok (.goto (-51), 3) := by decide +kernel
theorem dX11_ends_120 : decode cX11_ends 120 = .ok (.iload 6, 2) := by decide +kernel
theorem dX11_ends_122 : decode cX11_ends 122 = .ok (.ireturn, 1) := by decide +kernel
set_option maxRecDepth 20000 in
theorem ggX11_ship_X11_isPlace : GoodIn wsX11_ship wsX11_isPlace := goodIn_r _ [9, 10, 11, 8, 12] (by decide +kernel) (by decide +kernel)
set_option maxRecDepth 20000 in
theorem gX11_ship_X11_isPlace : GoodIn wsX11_ship (va_wsS RX11 87 yX11_isPlace wsX11_isPlace) := goodIn_app (goodIn_of _ (by decide +kernel)) ggX11_ship_X11_isPlace
set_option maxRecDepth 20000 in
theorem ggX11_ship_X11_isWithin : GoodIn wsX11_ship wsX11_isWithin := goodIn_r _ [12] (by decide +kernel) (by decide +kernel)
set_option maxRecDepth 20000 in
theorem gX11_ship_X11_isWithin : GoodIn wsX11_ship (va_wsS RX11 79 yX11_isWithin wsX11_isWithin) := goodIn_app (goodIn_of _ (by decide +kernel)) ggX11_ship_X11_isWithin
set_option maxRecDepth 20000 in
theorem ggX11_ship_X7_init : GoodIn wsX11_ship wsX7_init := goodIn_r _ [15, 16, 17, 18, 19, 20, 21, 22, 37, 38, 39, 40] (by decide +kernel) (by decide +kernel)
set_option maxRecDepth 20000 in
theorem gX11_ship_X7_init : GoodIn wsX11_ship (wsX7_init) := ggX11_ship_X7_init
theorem dX11_ship_0 : decode cX11_ship 0 = .ok (.iload_n 1, 1) := by decide +kernel
theorem dX11_ship_1 : decode cX11_ship 1 = .ok (.iload_n 2, 1) := by decide +kernel
theorem dX11_ship_2 : decode cX11_ship 2 = .ok (.invokestatic 87, 3) := by decide +kernel
theorem dX11_ship_5 : decode cX11_ship 5 = .ok (.ifCond .eq 26, 3) := by decide +kernel
theorem dX11_ship_8 : decode cX11_ship 8 = .ok (.iload_n 3, 1) := by decide +kernel
theorem dX11_ship_9 : decode cX11_ship 9 = .ok (.bipush (-20), 2) := by decide +kernel
theorem dX11_ship_11 : decode cX11_ship 11 = .ok (.bipush 20, 2) := by decide +kernel
theorem dX11_ship_13 : decode cX11_ship 13 = .ok (.invokestatic 79, 3) := by decide +kernel
theorem dX11_ship_16 : decode cX11_ship 16 = .ok (.ifCond .eq 15, 3) := by decide +kernel
theorem dX11_ship_19 : decode cX11_ship 19 = .ok (.iload 4, 2) := by decide +kernel
theorem dX11_ship_21 : decode cX11_ship 21 = .ok (.bipush (-20), 2) := by decide +kernel
theorem dX11_ship_23 : decode cX11_ship 23 = .ok (.bipush 20, 2) := by decide +kernel
theorem dX11_ship_25 : decode cX11_ship 25 = .ok (.invokestatic 79, 3) := by decide +kernel
theorem dX11_ship_28 : decode cX11_ship 28 = .ok (.ifCond .ne 5, 3) := by decide +kernel
theorem dX11_ship_31 : decode cX11_ship 31 = .ok (.iconst (-1), 1) := by decide +kernel
theorem dX11_ship_32 : decode cX11_ship 32 = .ok (.ireturn, 1) := by decide +kernel
theorem dX11_ship_33 : decode cX11_ship 33 = .ok (.aload_n 0, 1) := by decide +kernel
theorem dX11_ship_34 : decode cX11_ship 34 = .ok (.getfield 48, 3) := by decide +kernel
theorem dX11_ship_37 : decode cX11_ship 37 = .ok (.bipush 8, 2) := by decide +kernel
theorem dX11_ship_39 : decode cX11_ship 39 = .ok (.if_icmp .lt 6, 3) := by decide +kernel
theorem dX11_ship_42 : decode cX11_ship 42 = .ok (.bipush (-2), 2) := by decide +kernel
theorem dX11_ship_44 : decode cX11_ship 44 = .ok (.ireturn, 1) := by decide +kernel
theorem dX11_ship_45 : decode cX11_ship 45 = .ok (.aload_n 0, 1) := by decide +kernel
theorem dX11_ship_46 : decode cX11_ship 46 = .ok (.getfield 44, 3) := by decide +kernel
theorem dX11_ship_49 : decode cX11_ship 49 = .ok (.aload_n 0, 1) := by decide +kernel
theorem dX11_ship_50 : decode cX11_ship 50 = .ok (.getfield 48, 3) := by decide +kernel
theorem dX11_ship_53 : decode cX11_ship 53 = .ok (.new 42, 3) := by decide +kernel
theorem dX11_ship_56 : decode cX11_ship 56 = .ok (.dup, 1) := by decide +kernel
theorem dX11_ship_57 : decode cX11_ship 57 = .ok (.iload_n 1, 1) := by decide +kernel
theorem dX11_ship_58 : decode cX11_ship 58 = .ok (.iload_n 2, 1) := by decide +kernel
theorem dX11_ship_59 : decode cX11_ship 59 = .ok (.iload_n 3, 1) := by decide +kernel
theorem dX11_ship_60 : decode cX11_ship 60 = .ok (.iload 4, 2) := by decide +kernel
theorem dX11_ship_62 : decode cX11_ship 62 = .ok (.invokespecial 160, 3) := by decide +kernel
theorem dX11_ship_65 : decode cX11_ship 65 = .ok (.aastore, 1) := by decide +kernel
theorem dX11_ship_66 : decode cX11_ship 66 = .ok (.aload_n 0, 1) := by decide +kernel
theorem dX11_ship_67 : decode cX11_ship 67 = .ok (.dup, 1) := by decide +kernel
theorem dX11_ship_68 : decode cX11_ship 68 = .ok (.getfield 48, 3) := by decide +kernel
theorem dX11_ship_71 : decode cX11_ship 71 = .ok (.iconst 1, 1) := by decide +kernel
theorem dX11_ship_72 : decode cX11_ship 72 = .ok (.iadd, 1) := by decide +kernel
theorem dX11_ship_73 : decode cX11_ship 73 = .ok (.putfield 48, 3) := by decide +kernel
theorem dX11_ship_76 : decode cX11_ship 76 = .ok (.aload_n 0, 1) := by decide +kernel
theorem dX11_ship_77 : decode cX11_ship 77 = .ok (.getfield 48, 3) := by decide +kernel
theorem dX11_ship_80 : decode cX11_ship 80 = .ok (.iconst 1, 1) := by decide +kernel
theorem dX11_ship_81 : decode cX11_ship 81 = .ok (.isub, 1) := by decide +kernel
theorem dX11_ship_82 : decode cX11_ship 82 = .ok (.ireturn, 1) := by decide +kernel
set_option maxRecDepth 20000 in
theorem ggX11_near_X11_isWithin : GoodIn wsX11_near wsX11_isWithin := goodIn_r _ [7] (by decide +kernel) (by decide +kernel)
set_option maxRecDepth 20000 in
theorem gX11_near_X11_isWithin : GoodIn wsX11_near (va_wsS RX11 79 yX11_isWithin wsX11_isWithin) := goodIn_app (goodIn_of _ (by decide +kernel)) ggX11_near_X11_isWithin
set_option maxRecDepth 20000 in
theorem ggX11_near_X9_hasBeen : GoodIn wsX11_near wsX9_hasBeen := goodIn_r _ [12, 13, 49, 50, 51, 52, 53, 54, 55, 56, 57] (by decide +kernel) (by decide +kernel)
set_option maxRecDepth 20000 in
theorem gX11_near_X9_hasBeen : GoodIn wsX11_near (wsV RX11 141 RX9 yX9_hasBeen wsX9_hasBeen) := goodIn_app (goodIn_of _ (by decide +kernel)) ggX11_near_X9_hasBeen
set_option maxRecDepth 20000 in
theorem ggX11_near_X11_firstNear : GoodIn wsX11_near wsX11_firstNear := goodIn_r _ [17, 2, 18, 19, 20, 21, 22, 23, 24, 25, 26, 27, 28, 29, 30, 31, 32, 33, 34, 35, 36, 37, 38, 39, 40, 41, 42, 43, 44, 45, 46, 47, 48, 49, 50, 51, 52, 53, 54, 55, 56, 57, 58, 59, 60, 61] (by decide +kernel) (by decide +kernel)
set_option maxRecDepth 20000 in
theorem gX11_near_X11_firstNear : GoodIn wsX11_near (wsV RX11 163 RX11 yX11_firstNear wsX11_firstNear) := goodIn_app (goodIn_of _ (by decide +kernel)) ggX11_near_X11_firstNear
theorem dX11_near_0 : decode cX11_near 0 = .ok (.iload_n 1, 1) := by decide +kernel
theorem dX11_near_1 : decode cX11_near 1 = .ok (.iconst 0, 1) := by decide +kernel
theorem dX11_near_2 : decode cX11_near 2 = .ok (.aload_n 0, 1) := by decide +kernel
theorem dX11_near_3 : decode cX11_near 3 = .ok (.getfield 48, 3) := by decide +kernel
theorem dX11_near_6 : decode cX11_near 6 = .ok (.iconst 1, 1) := by decide +kernel
theorem dX11_near_7 : decode cX11_near 7 = .ok (.isub, 1) := by decide +kernel
theorem dX11_near_8 : decode cX11_near 8 = .ok (.invokestatic 79, 3) := by decide +kernel
theorem dX11_near_11 : decode cX11_near 11 = .ok (.ifCond .ne 5, 3) := by decide +kernel
theorem dX11_near_14 : decode cX11_near 14 = .ok (.iconst (-1), 1) := by decide +kernel
theorem dX11_near_15 : decode cX11_near 15 = .ok (.ireturn, 1) := by decide +kernel
theorem dX11_near_16 : decode cX11_near 16 = .ok (.aload_n 0, 1) := by decide +kernel
theorem dX11_near_17 : decode cX11_near 17 = .ok (.getfield 35, 3) := by decide +kernel
theorem dX11_near_20 : decode cX11_near 20 = .ok (.invokevirtual 141, 3) := by decide +kernel
theorem dX11_near_23 : decode cX11_near 23 = .ok (.ifCond .ne 6, 3) := by decide +kernel
theorem dX11_near_26 : decode cX11_near 26 = .ok (.bipush (-3), 2) := by decide +kernel
theorem dX11_near_28 : decode cX11_near 28 = .ok (.ireturn, 1) := by decide +kernel
theorem dX11_near_29 : decode cX11_near 29 = .ok (.aload_n 0, 1) := by decide +kernel
theorem dX11_near_30 : decode cX11_near 30 = .ok (.aload_n 0, 1) := by decide +kernel
theorem dX11_near_31 : decode cX11_near 31 = .ok (.getfield 44, 3) := by decide +kernel
theorem dX11_near_34 : decode cX11_near 34 = .ok (.iload_n 1, 1) := by decide +kernel
theorem dX11_near_35 : decode cX11_near 35 = .ok (.aaload, 1) := by decide +kernel
theorem dX11_near_36 : decode cX11_near 36 = .ok (.invokevirtual 163, 3) := by decide +kernel
theorem dX11_near_39 : decode cX11_near 39 = .ok (.ireturn, 1) := by decide +kernel
set_option maxRecDepth 20000 in
theorem ggX11_lanes_X9_hasBeen : GoodIn wsX11_lanes wsX9_hasBeen := goodIn_r _ [8, 9, 46, 47, 48, 49, 50, 51, 52, 53, 54] (by decide +kernel) (by decide +kernel)
set_option maxRecDepth 20000 in
theorem gX11_lanes_X9_hasBeen : GoodIn wsX11_lanes (wsV RX11 141 RX9 yX9_hasBeen wsX9_hasBeen) := goodIn_app (goodIn_of _ (by decide +kernel)) ggX11_lanes_X9_hasBeen
set_option maxRecDepth 20000 in
theorem ggX11_lanes_X11_firstNear : GoodIn wsX11_lanes wsX11_firstNear := goodIn_r _ [14, 1, 15, 16, 17, 18, 19, 20, 21, 22, 23, 24, 25, 26, 27, 28, 29, 30, 31, 32, 33, 34, 35, 36, 37, 38, 39, 40, 41, 42, 43, 44, 45, 46, 47, 48, 49, 50, 51, 52, 53, 54, 55, 56, 57, 58] (by decide +kernel) (by decide +kernel)
set_option maxRecDepth 20000 in
theorem gX11_lanes_X11_firstNear : GoodIn wsX11_lanes (wsV RX11 163 RX11 yX11_firstNear wsX11_firstNear) := goodIn_app (goodIn_of _ (by decide +kernel)) ggX11_lanes_X11_firstNear
theorem dX11_lanes_0 : decode cX11_lanes 0 = .ok (.aload_n 0, 1) := by decide +kernel
theorem dX11_lanes_1 : decode cX11_lanes 1 = .ok (.getfield 35, 3) := by decide +kernel
theorem dX11_lanes_4 : decode cX11_lanes 4 = .ok (.invokevirtual 141, 3) := by decide +kernel
theorem dX11_lanes_7 : decode cX11_lanes 7 = .ok (.ifCond .ne 6, 3) := by decide +kernel
theorem dX11_lanes_10 : decode cX11_lanes 10 = .ok (.bipush (-3), 2) := by decide +kernel
theorem dX11_lanes_12 : decode cX11_lanes 12 = .ok (.ireturn, 1) := by decide +kernel
theorem dX11_lanes_13 : decode cX11_lanes 13 = .ok (.iconst 0, 1) := by decide +kernel
theorem dX11_lanes_14 : decode cX11_lanes 14 = .ok (.istore_n 1, 1) := by decide +kernel
theorem dX11_lanes_15 : decode cX11_lanes 15 = .ok (.iconst 0, 1) := by decide +kernel
theorem dX11_lanes_16 : decode cX11_lanes 16 = .ok (.istore_n 2, 1) := by decide +kernel
theorem dX11_lanes_17 : decode cX11_lanes 17 = .ok (.iload_n 2, 1) := by decide +kernel
theorem dX11_lanes_18 : decode cX11_lanes 18 = .ok (.aload_n 0, 1) := by decide +kernel
theorem dX11_lanes_19 : decode cX11_lanes 19 = .ok (.getfield 48, 3) := by decide +kernel
theorem dX11_lanes_22 : decode cX11_lanes 22 = .ok (.if_icmp .ge 30, 3) := by decide +kernel
theorem dX11_lanes_25 : decode cX11_lanes 25 = .ok (.aload_n 0, 1) := by decide +kernel
theorem dX11_lanes_26 : decode cX11_lanes 26 = .ok (.aload_n 0, 1) := by decide +kernel
theorem dX11_lanes_27 : decode cX11_lanes 27 = .ok (.getfield 44, 3) := by decide +kernel
theorem dX11_lanes_30 : decode cX11_lanes 30 = .ok (.iload_n 2, 1) := by decide +kernel
theorem dX11_lanes_31 : decode cX11_lanes 31 = .ok (.aaload, 1) := by decide +kernel
theorem dX11_lanes_32 : decode cX11_lanes 32 = .ok (.invokevirtual 163, 3) := by decide +kernel
theorem dX11_lanes_35 : decode cX11_lanes 35 = .ok (.bipush (-4), 2) := by decide +kernel
theorem dX11_lanes_37 : decode cX11_lanes 37 = .ok (.if_icmp .eq 9, 3) := by decide +kernel
theorem dX11_lanes_40 : decode cX11_lanes 40 = .ok (.iload_n 1, 1) := by decide +kernel
theorem dX11_lanes_41 : decode cX11_lanes 41 = .ok (.iconst 1, 1) := by decide +kernel
theorem dX11_lanes_42 : decode cX11_lanes 42 = .ok (.iload_n 2, 1) := by decide +kernel
theorem dX11_lanes_43 : decode cX11_lanes 43 = .ok (.ishl, 1) := by decide +kernel
theorem dX11_lanes_44 : decode cX11_lanes 44 = .ok (.ior, 1) := by decide +kernel
theorem dX11_lanes_45 : decode cX11_lanes 45 = .ok (.istore_n 1, 1) := by decide +kernel
theorem dX11_lanes_46 : decode cX11_lanes 46 = .ok (.iinc 2 1, 3) := by decide +kernel
theorem dX11_lanes_49 : decode cX11_lanes 49 = .ok (.goto (-32), 3) := by decide +kernel
theorem dX11_lanes_52 : decode cX11_lanes 52 = .ok (.iload_n 1, 1) := by decide +kernel
theorem dX11_lanes_53 : decode cX11_lanes 53 = .ok (.ireturn, 1) := by decide +kernel
set_option maxRecDepth 20000 in
theorem ggX11_stroke_X11_isWithin : GoodIn wsX11_stroke wsX11_isWithin := goodIn_r _ [6] (by decide +kernel) (by decide +kernel)
set_option maxRecDepth 20000 in
theorem gX11_stroke_X11_isWithin : GoodIn wsX11_stroke (va_wsS RX11 79 yX11_isWithin wsX11_isWithin) := goodIn_app (goodIn_of _ (by decide +kernel)) ggX11_stroke_X11_isWithin
set_option maxRecDepth 20000 in
theorem ggX11_stroke_X10_isFull : GoodIn wsX11_stroke wsX10_isFull := goodIn_r _ [11, 12, 13, 33, 34] (by decide +kernel) (by decide +kernel)
set_option maxRecDepth 20000 in
theorem gX11_stroke_X10_isFull : GoodIn wsX11_stroke (wsV RX11 167 RX10 yX10_isFull wsX10_isFull) := goodIn_app (goodIn_of _ (by decide +kernel)) ggX11_stroke_X10_isFull
set_option maxRecDepth 20000 in
theorem ggX11_stroke_X10_add : GoodIn wsX11_stroke wsX10_add := goodIn_r _ [17, 13, 12, 18, 8, 9, 10, 11, 33, 34] (by decide +kernel) (by decide +kernel)
set_option maxRecDepth 20000 in
theorem gX11_stroke_X10_add : GoodIn wsX11_stroke (wsV RX11 170 RX10 yX10_add wsX10_add) := goodIn_app (goodIn_of _ (by decide +kernel)) ggX11_stroke_X10_add
theorem dX11_stroke_0 : decode cX11_stroke 0 = .ok (.iload_n 1, 1) := by decide +kernel
theorem dX11_stroke_1 : decode cX11_stroke 1 = .ok (.iconst 0, 1) := by decide +kernel
theorem dX11_stroke_2 : decode cX11_stroke 2 = .ok (.bipush 99, 2) := by decide +kernel
theorem dX11_stroke_4 : decode cX11_stroke 4 = .ok (.invokestatic 79, 3) := by decide +kernel
theorem dX11_stroke_7 : decode cX11_stroke 7 = .ok (.ifCond .ne 5, 3) := by decide +kernel
theorem dX11_stroke_10 : decode cX11_stroke 10 = .ok (.iconst (-1), 1) := by decide +kernel
theorem dX11_stroke_11 : decode cX11_stroke 11 = .ok (.ireturn, 1) := by decide +kernel
theorem dX11_stroke_12 : decode cX11_stroke 12 = .ok (.aload_n 0, 1) := by decide +kernel
theorem dX11_stroke_13 : decode cX11_stroke 13 = .ok (.getfield 56, 3) := by decide +kernel
theorem dX11_stroke_16 : decode cX11_stroke 16 = .ok (.invokevirtual 167, 3) := by decide +kernel
theorem dX11_stroke_19 : decode cX11_stroke 19 = .ok (.ifCond .eq 6, 3) := by decide +kernel
theorem dX11_stroke_22 : decode cX11_stroke 22 = .ok (.bipush (-2), 2) := by decide +kernel
theorem dX11_stroke_24 : decode cX11_stroke 24 = .ok (.ireturn, 1) := by decide +kernel
theorem dX11_stroke_25 : decode cX11_stroke 25 = .ok (.aload_n 0, 1) := by decide +kernel
theorem dX11_stroke_26 : decode cX11_stroke 26 = .ok (.getfield 56, 3) := by decide +kernel
theorem dX11_stroke_29 : decode cX11_stroke 29 = .ok (.iload_n 1, 1) := by decide +kernel
theorem dX11_stroke_30 : decode cX11_stroke 30 = .ok (.invokevirtual 170, 3) := by decide +kernel
theorem dX11_stroke_33 : decode cX11_stroke 33 = .ok (.aload_n 0, 1) := by decide +kernel
theorem dX11_stroke_34 : decode cX11_stroke 34 = .ok (.getfield 56, 3) := by decide +kernel
theorem dX11_stroke_37 : decode cX11_stroke 37 = .ok (.getfield 173, 3) := by decide +kernel
theorem dX11_stroke_40 : decode cX11_stroke 40 = .ok (.ireturn, 1) := by decide +kernel
theorem dX11_strokes_0 : decode cX11_strokes 0 = .ok (.aload_n 0, 1) := by decide +kernel
theorem dX11_strokes_1 : decode cX11_strokes 1 = .ok (.getfield 56, 3) := by decide +kernel
theorem dX11_strokes_4 : decode cX11_strokes 4 = .ok (.getfield 173, 3) := by decide +kernel
theorem dX11_strokes_7 : decode cX11_strokes 7 = .ok (.istore_n 1, 1) := by decide +kernel
theorem dX11_strokes_8 : decode cX11_strokes 8 = .ok (.aload_n 0, 1) := by decide +kernel
theorem dX11_strokes_9 : decode cX11_strokes 9 = .ok (.getfield 56, 3) := by decide +kernel
theorem dX11_strokes_12 : decode cX11_strokes 12 = .ok (.iconst 0, 1) := by decide +kernel
theorem dX11_strokes_13 : decode cX11_strokes 13 = .ok (.putfield 173, 3) := by decide +kernel
theorem dX11_strokes_16 : decode cX11_strokes 16 = .ok (.iload_n 1, 1) := by decide +kernel
theorem dX11_strokes_17 : decode cX11_strokes 17 = .ok (.ireturn, 1) := by decide +kernel
set_option maxRecDepth 20000 in
theorem ggX11_stop_X11_isWithin : GoodIn wsX11_stop wsX11_isWithin := goodIn_r _ [4] (by decide +kernel) (by decide +kernel)
set_option maxRecDepth 20000 in
theorem gX11_stop_X11_isWithin : GoodIn wsX11_stop (va_wsS RX11 79 yX11_isWithin wsX11_isWithin) := goodIn_app (goodIn_of _ (by decide +kernel)) ggX11_stop_X11_isWithin
set_option maxRecDepth 20000 in
theorem ggX11_stop_X11_stopsAt : GoodIn wsX11_stop wsX11_stopsAt := goodIn_r _ [8, 9, 10, 11, 12, 13, 14, 15, 16, 17, 18, 19, 20, 21, 22, 23, 24, 25, 26, 27] (by decide +kernel) (by decide +kernel)
set_option maxRecDepth 20000 in
theorem gX11_stop_X11_stopsAt : GoodIn wsX11_stop (wsV RX11 176 RX11 yX11_stopsAt wsX11_stopsAt) := goodIn_app (goodIn_of _ (by decide +kernel)) ggX11_stop_X11_stopsAt
theorem dX11_stop_0 : decode cX11_stop 0 = .ok (.iload_n 1, 1) := by decide +kernel
theorem dX11_stop_1 : decode cX11_stop 1 = .ok (.iconst 0, 1) := by decide +kernel
theorem dX11_stop_2 : decode cX11_stop 2 = .ok (.bipush 99, 2) := by decide +kernel
theorem dX11_stop_4 : decode cX11_stop 4 = .ok (.invokestatic 79, 3) := by decide +kernel
theorem dX11_stop_7 : decode cX11_stop 7 = .ok (.ifCond .eq 13, 3) := by decide +kernel
theorem dX11_stop_10 : decode cX11_stop 10 = .ok (.iload_n 2, 1) := by decide +kernel
theorem dX11_stop_11 : decode cX11_stop 11 = .ok (.iconst 1, 1) := by decide +kernel
theorem dX11_stop_12 : decode cX11_stop 12 = .ok (.bipush 10, 2) := by decide +kernel
theorem dX11_stop_14 : decode cX11_stop 14 = .ok (.invokestatic 79, 3) := by decide +kernel
theorem dX11_stop_17 : decode cX11_stop 17 = .ok (.ifCond .ne 5, 3) := by decide +kernel
theorem dX11_stop_20 : decode cX11_stop 20 = .ok (.iconst (-1), 1) := by decide +kernel
theorem dX11_stop_21 : decode cX11_stop 21 = .ok (.ireturn, 1) := by decide +kernel
theorem dX11_stop_22 : decode cX11_stop 22 = .ok (.aload_n 0, 1) := by decide +kernel
theorem dX11_stop_23 : decode cX11_stop 23 = .ok (.iload_n 1, 1) := by decide +kernel
theorem dX11_stop_24 : decode cX11_stop 24 = .ok (.iload_n 2, 1) := by decide +kernel
theorem dX11_stop_25 : decode cX11_stop 25 = .ok (.invokevirtual 176, 3) := by decide +kernel
theorem dX11_stop_28 : decode cX11_stop 28 = .ok (.ireturn, 1) := by decide +kernel
set_option maxRecDepth 20000 in
theorem ggX11_floor_X11_isWithin : GoodIn wsX11_floor wsX11_isWithin := goodIn_r _ [4] (by decide +kernel) (by decide +kernel)
set_option maxRecDepth 20000 in
theorem gX11_floor_X11_isWithin : GoodIn wsX11_floor (va_wsS RX11 79 yX11_isWithin wsX11_isWithin) := goodIn_app (goodIn_of _ (by decide +kernel)) ggX11_floor_X11_isWithin
set_option maxRecDepth 20000 in
theorem ggX11_floor_X11_stopsAt : GoodIn wsX11_floor wsX11_stopsAt := goodIn_r _ [8, 9, 10, 11, 12, 13, 14, 15, 16, 17, 18, 19, 20, 21, 22, 23, 24, 25, 26, 27] (by decide +kernel) (by decide +kernel)
set_option maxRecDepth 20000 in
theorem gX11_floor_X11_stopsAt : GoodIn wsX11_floor (wsV RX11 176 RX11 yX11_stopsAt wsX11_stopsAt) := goodIn_app (goodIn_of _ (by decide +kernel)) ggX11_floor_X11_stopsAt
theorem dX11_floor_0 : decode cX11_floor 0 = .ok (.iload_n 1, 1) := by decide +kernel
theorem dX11_floor_1 : decode cX11_floor 1 = .ok (.iconst 1, 1) := by decide +kernel
theorem dX11_floor_2 : decode cX11_floor 2 = .ok (.bipush 10, 2) := by decide +kernel
theorem dX11_floor_4 : decode cX11_floor 4 = .ok (.invokestatic 79, 3) := by decide +kernel
theorem dX11_floor_7 : decode cX11_floor 7 = .ok (.ifCond .ne 5, 3) := by decide +kernel
theorem dX11_floor_10 : decode cX11_floor 10 = .ok (.iconst (-1), 1) := by decide +kernel
theorem dX11_floor_11 : decode cX11_floor 11 = .ok (.ireturn, 1) := by decide +kernel
theorem dX11_floor_12 : decode cX11_floor 12 = .ok (.iconst 0, 1) := by decide +kernel
theorem dX11_floor_13 : decode cX11_floor 13 = .ok (.istore_n 2, 1) := by decide +kernel
theorem dX11_floor_14 : decode cX11_floor 14 = .ok (.iload_n 2, 1) := by decide +kernel
theorem dX11_floor_15 : decode cX11_floor 15 = .ok (.bipush 99, 2) := by decide +kernel
theorem dX11_floor_17 : decode cX11_floor 17 = .ok (.if_icmp .gt 22, 3) := by decide +kernel
theorem dX11_floor_20 : decode cX11_floor 20 = .ok (.aload_n 0, 1) := by decide +kernel
theorem dX11_floor_21 : decode cX11_floor 21 = .ok (.iload_n 2, 1) := by decide +kernel
theorem dX11_floor_22 : decode cX11_floor 22 = .ok (.iload_n 1, 1) := by decide +kernel
theorem dX11_floor_23 : decode cX11_floor 23 = .ok (.invokevirtual 176, 3) := by decide +kernel
theorem dX11_floor_26 : decode cX11_floor 26 = .ok (.bipush (-4), 2) := by decide +kernel
theorem dX11_floor_28 : decode cX11_floor 28 = .ok (.if_icmp .eq 5, 3) := by decide +kernel
theorem dX11_floor_31 : decode cX11_floor 31 = .ok (.iload_n 2, 1) := by decide +kernel
theorem dX11_floor_32 : decode cX11_floor 32 = .ok (.ireturn, 1) := by decide +kernel
theorem dX11_floor_33 : decode cX11_floor 33 = .ok (.iinc 2 1, 3) := by decide +kernel
theorem dX11_floor_36 : decode cX11_floor 36 = .ok (.goto (-22), 3) := by decide +kernel
theorem dX11_floor_39 : decode cX11_floor 39 = .ok (.bipush (-4), 2) := by decide +kernel
theorem dX11_floor_41 : decode cX11_floor 41 = .ok (.ireturn, 1) := by decide +kernel
set_option maxRecDepth 20000 in
theorem ggX11_order_X11_orderSize : GoodIn wsX11_order wsX11_orderSize := goodIn_r _ [8, 9, 10, 7, 11, 12, 13, 14, 15, 16, 17, 18, 19, 20, 32, 33, 34, 35, 36, 37, 38, 39, 40, 41, 42, 43, 44, 45] (by decide +kernel) (by decide +kernel)
set_option maxRecDepth 20000 in
theorem gX11_order_X11_orderSize : GoodIn wsX11_order (wsV RX11 179 RX11 yX11_orderSize wsX11_orderSize) := goodIn_app (goodIn_of _ (by decide +kernel)) ggX11_order_X11_orderSize
set_option maxRecDepth 20000 in
theorem ggX11_order_X11_orderDigit : GoodIn wsX11_order wsX11_orderDigit := goodIn_r _ [11] (by decide +kernel) (by decide +kernel)
set_option maxRecDepth 20000 in
theorem gX11_order_X11_orderDigit : GoodIn wsX11_order (va_wsS RX11 182 yX11_orderDigit wsX11_orderDigit) := goodIn_app (goodIn_of _ (by decide +kernel)) ggX11_order_X11_orderDigit
set_option maxRecDepth 20000 in
theorem ggX11_order_X10_add : GoodIn wsX11_order wsX10_add := goodIn_r _ [25, 26, 27, 28, 29, 30, 24, 31, 46, 47] (by decide +kernel) (by decide +kernel)
set_option maxRecDepth 20000 in
theorem gX11_order_X10_add : GoodIn wsX11_order (wsV RX11 170 RX10 yX10_add wsX10_add) := goodIn_app (goodIn_of _ (by decide +kernel)) ggX11_order_X10_add
theorem dX11_order_0 : decode cX11_order 0 = .ok (.aload_n 0, 1) := by decide +kernel
theorem dX11_order_1 : decode cX11_order 1 = .ok (.iload_n 1, 1) := by decide +kernel
theorem dX11_order_2 : decode cX11_order 2 = .ok (.invokevirtual 179, 3) := by decide +kernel
theorem dX11_order_5 : decode cX11_order 5 = .ok (.istore_n 2, 1) := by decide +kernel
theorem dX11_order_6 : decode cX11_order 6 = .ok (.iload_n 2, 1) := by decide +kernel
theorem dX11_order_7 : decode cX11_order 7 = .ok (.iconst 2, 1) := by decide +kernel
theorem dX11_order_8 : decode cX11_order 8 = .ok (.if_icmp .ge 5, 3) := by decide +kernel
theorem dX11_order_11 : decode cX11_order 11 = .ok (.iconst (-1), 1) := by decide +kernel
theorem dX11_order_12 : decode cX11_order 12 = .ok (.ireturn, 1) := by decide +kernel
theorem dX11_order_13 : decode cX11_order 13 = .ok (.aload_n 0, 1) := by decide +kernel
theorem dX11_order_14 : decode cX11_order 14 = .ok (.getfield 60, 3) := by decide +kernel
theorem dX11_order_17 : decode cX11_order 17 = .ok (.iconst 0, 1) := by decide +kernel
theorem dX11_order_18 : decode cX11_order 18 = .ok (.putfield 173, 3) := by decide +kernel
theorem dX11_order_21 : decode cX11_order 21 = .ok (.aload_n 0, 1) := by decide +kernel
theorem dX11_order_22 : decode cX11_order 22 = .ok (.getfield 63, 3) := by decide +kernel
theorem dX11_order_25 : decode cX11_order 25 = .ok (.iconst 0, 1) := by decide +kernel
theorem dX11_order_26 : decode cX11_order 26 = .ok (.putfield 173, 3) := by decide +kernel
theorem dX11_order_29 : decode cX11_order 29 = .ok (.iconst 0, 1) := by decide +kernel
theorem dX11_order_30 : decode cX11_order 30 = .ok (.istore_n 3, 1) := by decide +kernel
theorem dX11_order_31 : decode cX11_order 31 = .ok (.iload_n 3, 1) := by decide +kernel
theorem dX11_order_32 : decode cX11_order 32 = .ok (.iload_n 2, 1) := by decide +kernel
theorem dX11_order_33 : decode cX11_order 33 = .ok (.if_icmp .ge 23, 3) := by decide +kernel
theorem dX11_order_36 : decode cX11_order 36 = .ok (.aload_n 0, 1) := by decide +kernel
theorem dX11_order_37 : decode cX11_order 37 = .ok (.getfield 60, 3) := by decide +kernel
theorem dX11_order_40 : decode cX11_order 40 = .ok (.iload_n 1, 1) := by decide +kernel
theorem dX11_order_41 : decode cX11_order 41 = .ok (.iload_n 3, 1) := by decide +kernel
theorem dX11_order_42 : decode cX11_order 42 = .ok (.invokestatic 182, 3) := by decide +kernel
theorem dX11_order_45 : decode cX11_order 45 = .ok (.iconst 1, 1) := by decide +kernel
theorem dX11_order_46 : decode cX11_order 46 = .ok (.isub, 1) := by decide +kernel
theorem dX11_order_47 : decode cX11_order 47 = .ok (.invokevirtual 170, 3) := by decide +kernel
theorem dX11_order_50 : decode cX11_order 50 = .ok (.iinc 3 1, 3) := by decide +kernel
theorem dX11_order_53 : decode cX11_order 53 = .ok (.goto (-22), 3) := by decide +kernel
theorem dX11_order_56 : decode cX11_order 56 = .ok (.iload_n 2, 1) := by decide +kernel
theorem dX11_order_57 : decode cX11_order 57 = .ok (.ireturn, 1) := by decide +kernel
set_option maxRecDepth 20000 in
theorem ggX11_turn_X11_known : GoodIn wsX11_turn wsX11_known := goodIn_r _ [8, 9, 10, 11, 12, 7, 13, 26, 27, 28, 29, 30, 31, 32, 33, 34, 35, 36, 37, 38, 39] (by decide +kernel) (by decide +kernel)
set_option maxRecDepth 20000 in
theorem gX11_turn_X11_known : GoodIn wsX11_turn (wsV RX11 119 RX11 yX11_known wsX11_known) := goodIn_app (goodIn_of _ (by decide +kernel)) ggX11_turn_X11_known
set_option maxRecDepth 20000 in
theorem ggX11_turn_X10_isFull : GoodIn wsX11_turn wsX10_isFull := goodIn_r _ [18, 19, 20, 40, 41] (by decide +kernel) (by decide +kernel)
set_option maxRecDepth 20000 in
theorem gX11_turn_X10_isFull : GoodIn wsX11_turn (wsV RX11 167 RX10 yX10_isFull wsX10_isFull) := goodIn_app (goodIn_of _ (by decide +kernel)) ggX11_turn_X10_isFull
set_option maxRecDepth 20000 in
theorem ggX11_turn_X10_add : GoodIn wsX11_turn wsX10_add := goodIn_r _ [24, 20, 19, 25, 15, 16, 17, 18, 40, 41] (by decide +kernel) (by decide +kernel)
set_option maxRecDepth 20000 in
theorem gX11_turn_X10_add : GoodIn wsX11_turn (wsV RX11 170 RX10 yX10_add wsX10_add) := goodIn_app (goodIn_of _ (by decide +kernel)) ggX11_turn_X10_add
theorem dX11_turn_0 : decode cX11_turn 0 = .ok (.aload_n 0, 1) := by decide +kernel
theorem dX11_turn_1 : decode cX11_turn 1 = .ok (.iload_n 1, 1) := by decide +kernel
theorem dX11_turn_2 : decode cX11_turn 2 = .ok (.invokevirtual 119, 3) := by decide +kernel
theorem dX11_turn_5 : decode cX11_turn 5 = .ok (.ifnonnull 5, 3) := by decide +kernel
theorem dX11_turn_8 : decode cX11_turn 8 = .ok (.iconst (-1), 1) := by decide +kernel
theorem dX11_turn_9 : decode cX11_turn 9 = .ok (.ireturn, 1) := by decide +kernel
theorem dX11_turn_10 : decode cX11_turn 10 = .ok (.aload_n 0, 1) := by decide +kernel
theorem dX11_turn_11 : decode cX11_turn 11 = .ok (.getfield 63, 3) := by decide +kernel
theorem dX11_turn_14 : decode cX11_turn 14 = .ok (.invokevirtual 167, 3) := by decide +kernel
theorem dX11_turn_17 : decode cX11_turn 17 = .ok (.ifCond .eq 6, 3) := by decide +kernel
theorem dX11_turn_20 : decode cX11_turn 20 = .ok (.bipush (-2), 2) := by decide +kernel
theorem dX11_turn_22 : decode cX11_turn 22 = .ok (.ireturn, 1) := by decide +kernel
theorem dX11_turn_23 : decode cX11_turn 23 = .ok (.aload_n 0, 1) := by decide +kernel
theorem dX11_turn_24 : decode cX11_turn 24 = .ok (.getfield 60, 3) := by decide +kernel
theorem dX11_turn_27 : decode cX11_turn 27 = .ok (.getfield 173, 3) := by decide +kernel
theorem dX11_turn_30 : decode cX11_turn 30 = .ok (.ifCond .ne 6, 3) := by decide +kernel
theorem dX11_turn_33 : decode cX11_turn 33 = .ok (.bipush (-3), 2) := by decide +kernel
theorem dX11_turn_35 : decode cX11_turn 35 = .ok (.ireturn, 1) := by decide +kernel
theorem dX11_turn_36 : decode cX11_turn 36 = .ok (.aload_n 0, 1) := by decide +kernel
theorem dX11_turn_37 : decode cX11_turn 37 = .ok (.getfield 63, 3) := by decide +kernel
theorem dX11_turn_40 : decode cX11_turn 40 = .ok (.iload_n 1, 1) := by decide +kernel
theorem dX11_turn_41 : decode cX11_turn 41 = .ok (.invokevirtual 170, 3) := by decide +kernel
theorem dX11_turn_44 : decode cX11_turn 44 = .ok (.aload_n 0, 1) := by decide +kernel
theorem dX11_turn_45 : decode cX11_turn 45 = .ok (.getfield 63, 3) := by decide +kernel
theorem dX11_turn_48 : decode cX11_turn 48 = .ok (.getfield 173, 3) := by decide +kernel
theorem dX11_turn_51 : decode cX11_turn 51 = .ok (.ireturn, 1) := by decide +kernel
theorem dX11_voided_0 : decode cX11_voided 0 = .ok (.aload_n 0, 1) := by decide +kernel
theorem dX11_voided_1 : decode cX11_voided 1 = .ok (.getfield 60, 3) := by decide +kernel
theorem dX11_voided_4 : decode cX11_voided 4 = .ok (.getfield 173, 3) := by decide +kernel
theorem dX11_voided_7 : decode cX11_voided 7 = .ok (.istore_n 1, 1) := by decide +kernel
theorem dX11_voided_8 : decode cX11_voided 8 = .ok (.iload_n 1, 1) := by decide +kernel
theorem dX11_voided_9 : decode cX11_voided 9 = .ok (.ifCond .ne 6, 3) := by decide +kernel
theorem dX11_voided_12 : decode cX11_voided 12 = .ok (.bipush (-3), 2) := by decide +kernel
theorem dX11_voided_14 : decode cX11_voided 14 = .ok (.ireturn, 1) := by decide +kernel
theorem dX11_voided_15 : decode cX11_voided 15 = .ok (.iconst 0, 1) := by decide +kernel
theorem dX11_voided_16 : decode cX11_voided 16 = .ok (.istore_n 2, 1) := by decide +kernel
theorem dX11_voided_17 : decode cX11_voided 17 = .ok (.iload_n 2, 1) := by decide +kernel
theorem dX11_voided_18 : decode cX11_voided 18 = .ok (.aload_n 0, 1) := by decide +kernel
theorem dX11_voided_19 : decode cX11_voided 19 = .ok (.getfield 63, 3) := by decide +kernel
theorem dX11_voided_22 : decode cX11_voided 22 = .ok (.getfield 173, 3) := by decide +kernel
theorem dX11_voided_25 : decode cX11_voided 25 = .ok (.if_icmp .ge 34, 3) := by decide +kernel
theorem dX11_voided_28 : decode cX11_voided 28 = .ok (.aload_n 0, 1) := by decide +kernel
theorem dX11_voided_29 : decode cX11_voided 29 = .ok (.getfield 63, 3) := by decide +kernel
theorem dX11_voided_32 : decode cX11_voided 32 = .ok (.getfield 185, 3) := by decide +kernel
theorem dX11_voided_35 : decode cX11_voided 35 = .ok (.iload_n 2, 1) := by decide +kernel
theorem dX11_voided_36 : decode cX11_voided 36 = .ok (.iaload, 1) := by decide +kernel
theorem dX11_voided_37 : decode cX11_voided 37 = .ok (.aload_n 0, 1) := by decide +kernel
theorem dX11_voided_38 : decode cX11_voided 38 = .ok (.getfield 60, 3) := by decide +kernel
theorem dX11_voided_41 : decode cX11_voided 41 = .ok (.getfield 185, 3) := by decide +kernel
theorem dX11_voided_44 : decode cX11_voided 44 = .ok (.iload_n 2, 1) := by decide +kernel
theorem dX11_voided_45 : decode cX11_voided 45 = .ok (.iload_n 1, 1) := by decide +kernel
theorem dX11_voided_46 : decode cX11_voided 46 = .ok (.irem, 1) := by decide +kernel
theorem dX11_voided_47 : decode cX11_voided 47 = .ok (.iaload, 1) := by decide +kernel
theorem dX11_voided_48 : decode cX11_voided 48 = .ok (.if_icmp .eq 5, 3) := by decide +kernel
theorem dX11_voided_51 : decode cX11_voided 51 = .ok (.iload_n 2, 1) := by decide +kernel
theorem dX11_voided_52 : decode cX11_voided 52 = .ok (.ireturn, 1) := by decide +kernel
theorem dX11_voided_53 : decode cX11_voided 53 = .ok (.iinc 2 1, 3) := by decide +kernel
theorem dX11_voided_56 : decode cX11_voided 56 = .ok (.goto (-39), 3) := by decide +kernel
theorem dX11_voided_59 : decode cX11_voided 59 = .ok (.bipush (-4), 2) := by decide +kernel
theorem dX11_voided_61 : decode cX11_voided 61 = .ok (.ireturn, 1) := by decide +kernel
set_option maxRecDepth 20000 in
theorem ggX11_calm_X11_isWithin : GoodIn wsX11_calm wsX11_isWithin := goodIn_r _ [6] (by decide +kernel) (by decide +kernel)
set_option maxRecDepth 20000 in
theorem gX11_calm_X11_isWithin : GoodIn wsX11_calm (va_wsS RX11 79 yX11_isWithin wsX11_isWithin) := goodIn_app (goodIn_of _ (by decide +kernel)) ggX11_calm_X11_isWithin
theorem dX11_calm_0 : decode cX11_calm 0 = .ok (.iload_n 1, 1) := by decide +kernel
theorem dX11_calm_1 : decode cX11_calm 1 = .ok (.iconst 0, 1) := by decide +kernel
theorem dX11_calm_2 : decode cX11_calm 2 = .ok (.bipush 15, 2) := by decide +kernel
theorem dX11_calm_4 : decode cX11_calm 4 = .ok (.invokestatic 79, 3) := by decide +kernel
theorem dX11_calm_7 : decode cX11_calm 7 = .ok (.ifCond .ne 5, 3) := by decide +kernel
theorem dX11_calm_10 : decode cX11_calm 10 = .ok (.iconst (-1), 1) := by decide +kernel
theorem dX11_calm_11 : decode cX11_calm 11 = .ok (.ireturn, 1) := by decide +kernel
theorem dX11_calm_12 : decode cX11_calm 12 = .ok (.aload_n 0, 1) := by decide +kernel
theorem dX11_calm_13 : decode cX11_calm 13 = .ok (.getfield 69, 3) := by decide +kernel
theorem dX11_calm_16 : decode cX11_calm 16 = .ok (.getfield 188, 3) := by decide +kernel
theorem dX11_calm_19 : decode cX11_calm 19 = .ok (.istore_n 3, 1) := by decide +kernel
theorem dX11_calm_20 : decode cX11_calm 20 = .ok (.aload_n 0, 1) := by decide +kernel
theorem dX11_calm_21 : decode cX11_calm 21 = .ok (.getfield 69, 3) := by decide +kernel
theorem dX11_calm_24 : decode cX11_calm 24 = .ok (.iload_n 2, 1) := by decide +kernel
theorem dX11_calm_25 : decode cX11_calm 25 = .ok (.ifCond .eq 11, 3) := by decide +kernel
theorem dX11_calm_28 : decode cX11_calm 28 = .ok (.iload_n 3, 1) := by decide +kernel
theorem dX11_calm_29 : decode cX11_calm 29 = .ok (.iconst 1, 1) := by decide +kernel
theorem dX11_calm_30 : decode cX11_calm 30 = .ok (.iload_n 1, 1) := by decide +kernel
theorem dX11_calm_31 : decode cX11_calm 31 = .ok (.ishl, 1) := by decide +kernel
theorem dX11_calm_32 : decode cX11_calm 32 = .ok (.ior, 1) := by decide +kernel
theorem dX11_calm_33 : decode cX11_calm 33 = .ok (.goto 10, 3) := by decide +kernel
theorem dX11_calm_36 : decode cX11_calm 36 = .ok (.iload_n 3, 1) := by decide +kernel
theorem dX11_calm_37 : decode cX11_calm 37 = .ok (.iconst 1, 1) := by decide +kernel
theorem dX11_calm_38 : decode cX11_calm 38 = .ok (.iload_n 1, 1) := by decide +kernel
theorem dX11_calm_39 : decode cX11_calm 39 = .ok (.ishl, 1) := by decide +kernel
theorem dX11_calm_40 : decode cX11_calm 40 = .ok (.iconst (-1), 1) := by decide +kernel
theorem dX11_calm_41 : decode cX11_calm 41 = .ok (.ixor, 1) := by decide +kernel
theorem dX11_calm_42 : decode cX11_calm 42 = .ok (.iand, 1) := by decide +kernel
theorem dX11_calm_43 : decode cX11_calm 43 = .ok (.putfield 188, 3) := by decide +kernel
theorem dX11_calm_46 : decode cX11_calm 46 = .ok (.aload_n 0, 1) := by decide +kernel
theorem dX11_calm_47 : decode cX11_calm 47 = .ok (.getfield 69, 3) := by decide +kernel
theorem dX11_calm_50 : decode cX11_calm 50 = .ok (.getfield 188, 3) := by decide +kernel
theorem dX11_calm_53 : decode cX11_calm 53 = .ok (.iload_n 3, 1) := by decide +kernel
theorem dX11_calm_54 : decode cX11_calm 54 = .ok (.if_icmp .eq 7, 3) := by decide +kernel
theorem dX11_calm_57 : decode cX11_calm 57 = .ok (.iconst 1, 1) := by decide +kernel
theorem dX11_calm_58 : decode cX11_calm 58 = .ok (.goto 4, 3) := by decide +kernel
theorem dX11_calm_61 : decode cX11_calm 61 = .ok (.iconst 0, 1) := by decide +kernel
theorem dX11_calm_62 : decode cX11_calm 62 = .ok (.ireturn, 1) := by decide +kernel
set_option maxRecDepth 20000 in
theorem ggX11_slot_X11_known : GoodIn wsX11_slot wsX11_known := goodIn_r _ [7, 8, 9, 10, 11, 6, 12, 22, 23, 24, 25, 26, 27, 28, 29, 30, 31, 32, 33, 34, 35] (by decide +kernel) (by decide +kernel)
set_option maxRecDepth 20000 in
theorem gX11_slot_X11_known : GoodIn wsX11_slot (wsV RX11 119 RX11 yX11_known wsX11_known) := goodIn_app (goodIn_of _ (by decide +kernel)) ggX11_slot_X11_known
set_option maxRecDepth 20000 in
theorem ggX11_slot_X11_isWithin : GoodIn wsX11_slot wsX11_isWithin := goodIn_r _ [12] (by decide +kernel) (by decide +kernel)
set_option maxRecDepth 20000 in
theorem gX11_slot_X11_isWithin : GoodIn wsX11_slot (va_wsS RX11 79 yX11_isWithin wsX11_isWithin) := goodIn_app (goodIn_of _ (by decide +kernel)) ggX11_slot_X11_isWithin
set_option maxRecDepth 20000 in
theorem ggX11_slot_X2_enter : GoodIn wsX11_slot wsX2_enter := goodIn_r _ [17, 18, 19, 20, 21, 36, 37, 38, 39, 40, 41, 42] (by decide +kernel) (by decide +kernel)
set_option maxRecDepth 20000 in
theorem gX11_slot_X2_enter : GoodIn wsX11_slot (wsV RX11 192 RX2 yX2_enter wsX2_enter) := goodIn_app (goodIn_of _ (by decide +kernel)) ggX11_slot_X2_enter
theorem dX11_slot_0 : decode cX11_slot 0 = .ok (.aload_n 0, 1) := by decide +kernel
theorem dX11_slot_1 : decode cX11_slot 1 = .ok (.iload_n 1, 1) := by decide +kernel
theorem dX11_slot_2 : decode cX11_slot 2 = .ok (.invokevirtual 119, 3) := by decide +kernel
theorem dX11_slot_5 : decode cX11_slot 5 = .ok (.ifnull 32, 3) := by decide +kernel
theorem dX11_slot_8 : decode cX11_slot 8 = .ok (.iload_n 2, 1) := by decide +kernel
theorem dX11_slot_9 : decode cX11_slot 9 = .ok (.iconst 0, 1) := by decide +kernel
theorem dX11_slot_10 : decode cX11_slot 10 = .ok (.iconst 3, 1) := by decide +kernel
theorem dX11_slot_11 : decode cX11_slot 11 = .ok (.invokestatic 79, 3) := by decide +kernel
theorem dX11_slot_14 : decode cX11_slot 14 = .ok (.ifCond .eq 23, 3) := by decide +kernel
theorem dX11_slot_17 : decode cX11_slot 17 = .ok (.iload_n 3, 1) := by decide +kernel
theorem dX11_slot_18 : decode cX11_slot 18 = .ok (.iconst 1, 1) := by decide +kernel
theorem dX11_slot_19 : decode cX11_slot 19 = .ok (.iconst 4, 1) := by decide +kernel
theorem dX11_slot_20 : decode cX11_slot 20 = .ok (.invokestatic 79, 3) := by decide +kernel
theorem dX11_slot_23 : decode cX11_slot 23 = .ok (.ifCond .eq 14, 3) := by decide +kernel
theorem dX11_slot_26 : decode cX11_slot 26 = .ok (.iload 4, 2) := by decide +kernel
theorem dX11_slot_28 : decode cX11_slot 28 = .ok (.iconst 0, 1) := by decide +kernel
theorem dX11_slot_29 : decode cX11_slot 29 = .ok (.ldc 191, 2) := by decide +kernel
theorem dX11_slot_31 : decode cX11_slot 31 = .ok (.invokestatic 79, 3) := by decide +kernel
theorem dX11_slot_34 : decode cX11_slot 34 = .ok (.ifCond .ne 5, 3) := by decide +kernel
theorem dX11_slot_37 : decode cX11_slot 37 = .ok (.iconst (-1), 1) := by decide +kernel
theorem dX11_slot_38 : decode cX11_slot 38 = .ok (.ireturn, 1) := by decide +kernel
theorem dX11_slot_39 : decode cX11_slot 39 = .ok (.aload_n 0, 1) := by decide +kernel
theorem dX11_slot_40 : decode cX11_slot 40 = .ok (.getfield 69, 3) := by decide +kernel
theorem dX11_slot_43 : decode cX11_slot 43 = .ok (.iload_n 1, 1) := by decide +kernel
theorem dX11_slot_44 : decode cX11_slot 44 = .ok (.iload_n 2, 1) := by decide +kernel
theorem dX11_slot_45 : decode cX11_slot 45 = .ok (.iload_n 3, 1) := by decide +kernel
theorem dX11_slot_46 : decode cX11_slot 46 = .ok (.iload 4, 2) := by decide +kernel
theorem dX11_slot_48 : decode cX11_slot 48 = .ok (.invokevirtual 192, 3) := by decide +kernel
theorem dX11_slot_51 : decode cX11_slot 51 = .ok (.ifCond .eq 7, 3) := by decide +kernel
theorem dX11_slot_54 : decode cX11_slot 54 = .ok (.iconst 1, 1) := by decide +kernel
theorem dX11_slot_55 : decode cX11_slot 55 = .ok (.goto 4, 3) := by decide +kernel
theorem dX11_slot_58 : decode cX11_slot 58 = .ok (.iconst 0, 1) := by decide +kernel
theorem dX11_slot_59 : decode cX11_slot 59 = .ok (.ireturn, 1) := by decide +kernel
set_option maxRecDepth 20000 in
theorem ggX11_done_X2_mostFrom : GoodIn wsX11_done wsX2_mostFrom := goodIn_r _ [6, 7, 8, 9, 10, 11, 12, 13, 14, 15, 16, 5, 17, 18, 19, 20, 21, 22, 23, 24, 39, 40, 41, 42, 43, 44, 45] (by decide +kernel) (by decide +kernel)
set_option maxRecDepth 20000 in
theorem gX11_done_X2_mostFrom : GoodIn wsX11_done (wsV RX11 196 RX2 yX2_mostFrom wsX2_mostFrom) := goodIn_app (goodIn_of _ (by decide +kernel)) ggX11_done_X2_mostFrom
theorem dX11_done_0 : decode cX11_done 0 = .ok (.iconst 0, 1) := by decide +kernel
theorem dX11_done_1 : decode cX11_done 1 = .ok (.istore_n 1, 1) := by decide +kernel
theorem dX11_done_2 : decode cX11_done 2 = .ok (.iconst 0, 1) := by decide +kernel
theorem dX11_done_3 : decode cX11_done 3 = .ok (.istore_n 2, 1) := by decide +kernel
theorem dX11_done_4 : decode cX11_done 4 = .ok (.iload_n 2, 1) := by decide +kernel
theorem dX11_done_5 : decode cX11_done 5 = .ok (.iconst 4, 1) := by decide +kernel
theorem dX11_done_6 : decode cX11_done 6 = .ok (.if_icmp .ge 22, 3) := by decide +kernel
theorem dX11_done_9 : decode cX11_done 9 = .ok (.iload_n 1, 1) := by decide +kernel
theorem dX11_done_10 : decode cX11_done 10 = .ok (.aload_n 0, 1) := by decide +kernel
theorem dX11_done_11 : decode cX11_done 11 = .ok (.getfield 69, 3) := by decide +kernel
theorem dX11_done_14 : decode cX11_done 14 = .ok (.iconst 0, 1) := by decide +kernel
theorem dX11_done_15 : decode cX11_done 15 = .ok (.iload_n 2, 1) := by decide +kernel
theorem dX11_done_16 : decode cX11_done 16 = .ok (.iconst 0, 1) := by decide +kernel
theorem dX11_done_17 : decode cX11_done 17 = .ok (.invokevirtual 196, 3) := by decide +kernel
theorem dX11_done_20 : decode cX11_done 20 = .ok (.iadd, 1) := by decide +kernel
theorem dX11_done_21 : decode cX11_done 21 = .ok (.istore_n 1, 1) := by decide +kernel
theorem dX11_done_22 : decode cX11_done 22 = .ok (.iinc 2 1, 3) := by decide +kernel
theorem dX11_done_25 : decode cX11_done 25 = .ok (.goto (-21), 3) := by decide +kernel
theorem dX11_done_28 : decode cX11_done 28 = .ok (.iload_n 1, 1) := by decide +kernel
theorem dX11_done_29 : decode cX11_done 29 = .ok (.ireturn, 1) := by decide +kernel
set_option maxRecDepth 20000 in
theorem ggX11_goes_X11_isWithin : GoodIn wsX11_goes wsX11_isWithin := goodIn_r _ [5] (by decide +kernel) (by decide +kernel)
set_option maxRecDepth 20000 in
theorem gX11_goes_X11_isWithin : GoodIn wsX11_goes (va_wsS RX11 79 yX11_isWithin wsX11_isWithin) := goodIn_app (goodIn_of _ (by decide +kernel)) ggX11_goes_X11_isWithin
set_option maxRecDepth 20000 in
theorem ggX11_goes_X2_whoGoes : GoodIn wsX11_goes wsX2_whoGoes := goodIn_r _ [10, 11, 12, 13, 9, 14, 15, 16, 17, 18, 19, 20, 21, 22, 23, 24, 25, 26, 27, 28, 29, 30, 31, 32, 33, 34, 35, 36, 37, 52, 53, 54, 55, 56, 57, 58] (by decide +kernel) (by decide +kernel)
set_option maxRecDepth 20000 in
theorem gX11_goes_X2_whoGoes : GoodIn wsX11_goes (wsV RX11 200 RX2 yX2_whoGoes wsX2_whoGoes) := goodIn_app (goodIn_of _ (by decide +kernel)) ggX11_goes_X2_whoGoes
theorem dX11_goes_0 : decode cX11_goes 0 = .ok (.iload_n 1, 1) := by decide +kernel
theorem dX11_goes_1 : decode cX11_goes 1 = .ok (.iconst 0, 1) := by decide +kernel
theorem dX11_goes_2 : decode cX11_goes 2 = .ok (.bipush 15, 2) := by decide +kernel
theorem dX11_goes_4 : decode cX11_goes 4 = .ok (.invokestatic 79, 3) := by decide +kernel
theorem dX11_goes_7 : decode cX11_goes 7 = .ok (.ifCond .eq 12, 3) := by decide +kernel
theorem dX11_goes_10 : decode cX11_goes 10 = .ok (.iload_n 2, 1) := by decide +kernel
theorem dX11_goes_11 : decode cX11_goes 11 = .ok (.iconst 0, 1) := by decide +kernel
theorem dX11_goes_12 : decode cX11_goes 12 = .ok (.iconst 3, 1) := by decide +kernel
theorem dX11_goes_13 : decode cX11_goes 13 = .ok (.invokestatic 79, 3) := by decide +kernel
theorem dX11_goes_16 : decode cX11_goes 16 = .ok (.ifCond .ne 5, 3) := by decide +kernel
theorem dX11_goes_19 : decode cX11_goes 19 = .ok (.iconst (-1), 1) := by decide +kernel
theorem dX11_goes_20 : decode cX11_goes 20 = .ok (.ireturn, 1) := by decide +kernel
theorem dX11_goes_21 : decode cX11_goes 21 = .ok (.aload_n 0, 1) := by decide +kernel
theorem dX11_goes_22 : decode cX11_goes 22 = .ok (.getfield 69, 3) := by decide +kernel
theorem dX11_goes_25 : decode cX11_goes 25 = .ok (.iload_n 1, 1) := by decide +kernel
theorem dX11_goes_26 : decode cX11_goes 26 = .ok (.iload_n 2, 1) := by decide +kernel
theorem dX11_goes_27 : decode cX11_goes 27 = .ok (.invokevirtual 200, 3) := by decide +kernel
theorem dX11_goes_30 : decode cX11_goes 30 = .ok (.istore_n 3, 1) := by decide +kernel
theorem dX11_goes_31 : decode cX11_goes 31 = .ok (.iload_n 3, 1) := by decide +kernel
theorem dX11_goes_32 : decode cX11_goes 32 = .ok (.iconst (-1), 1) := by decide +kernel
theorem dX11_goes_33 : decode cX11_goes 33 = .ok (.if_icmp .ne 8, 3) := by decide +kernel
theorem dX11_goes_36 : decode cX11_goes 36 = .ok (.bipush (-2), 2) := by decide +kernel
theorem dX11_goes_38 : decode cX11_goes 38 = .ok (.goto 4, 3) := by decide +kernel
theorem dX11_goes_41 : decode cX11_goes 41 = .ok (.iload_n 3, 1) := by decide +kernel
theorem dX11_goes_42 : decode cX11_goes 42 = .ok (.ireturn, 1) := by decide +kernel
set_option maxRecDepth 20000 in
theorem ggX11_count_J6_bitCount_0f7a4 : GoodIn wsX11_count wsJ6_bitCount_0f7a4 := goodIn_r _ [13, 14, 15, 16] (by decide +kernel) (by decide +kernel)
set_option maxRecDepth 20000 in
theorem gX11_count_J6_bitCount_0f7a4 : GoodIn wsX11_count (va_wsS RX11 206 yJ6_bitCount_0f7a4 wsJ6_bitCount_0f7a4) := goodIn_app (goodIn_of _ (by decide +kernel)) ggX11_count_J6_bitCount_0f7a4
theorem dX11_count_0 : decode cX11_count 0 = .ok (.iload_n 1, 1) := by decide +kernel
theorem dX11_count_1 : decode cX11_count 1 = .ok (.tableswitch 84 0 5 #[39, 44, 52, 57, 65, 73], 39) := by decide +kernel
theorem dX11_count_40 : decode cX11_count 40 = .ok (.aload_n 0, 1) := by decide +kernel
theorem dX11_count_41 : decode cX11_count 41 = .ok (.getfield 22, 3) := by decide +kernel
theorem dX11_count_44 : decode cX11_count 44 = .ok (.ireturn, 1) := by decide +kernel
theorem dX11_count_45 : decode cX11_count 45 = .ok (.aload_n 0, 1) := by decide +kernel
theorem dX11_count_46 : decode cX11_count 46 = .ok (.getfield 10, 3) := by decide +kernel
theorem dX11_count_49 : decode cX11_count 49 = .ok (.getfield 203, 3) := by decide +kernel
theorem dX11_count_52 : decode cX11_count 52 = .ok (.ireturn, 1) := by decide +kernel
theorem dX11_count_53 : decode cX11_count 53 = .ok (.aload_n 0, 1) := by decide +kernel
theorem dX11_count_54 : decode cX11_count 54 = .ok (.getfield 48, 3) := by decide +kernel
theorem dX11_count_57 : decode cX11_count 57 = .ok (.ireturn, 1) := by decide +kernel
theorem dX11_count_58 : decode cX11_count 58 = .ok (.aload_n 0, 1) := by decide +kernel
theorem dX11_count_59 : decode cX11_count 59 = .ok (.getfield 56, 3) := by decide +kernel
theorem dX11_count_62 : decode cX11_count 62 = .ok (.getfield 173, 3) := by decide +kernel
theorem dX11_count_65 : decode cX11_count 65 = .ok (.ireturn, 1) := by decide +kernel
theorem dX11_count_66 : decode cX11_count 66 = .ok (.aload_n 0, 1) := by decide +kernel
theorem dX11_count_67 : decode cX11_count 67 = .ok (.getfield 63, 3) := by decide +kernel
theorem dX11_count_70 : decode cX11_count 70 = .ok (.getfield 173, 3) := by decide +kernel
theorem dX11_count_73 : decode cX11_count 73 = .ok (.ireturn, 1) := by decide +kernel
theorem dX11_count_74 : decode cX11_count 74 = .ok (.aload_n 0, 1) := by decide +kernel
theorem dX11_count_75 : decode cX11_count 75 = .ok (.getfield 69, 3) := by decide +kernel
theorem dX11_count_78 : decode cX11_count 78 = .ok (.getfield 188, 3) := by decide +kernel
theorem dX11_count_81 : decode cX11_count 81 = .ok (.invokestatic 206, 3) := by decide +kernel
theorem dX11_count_84 : decode cX11_count 84 = .ok (.ireturn, 1) := by decide +kernel
theorem dX11_count_85 : decode cX11_count 85 = .ok (.iconst (-1), 1) := by decide +kernel
theorem dX11_count_86 : decode cX11_count 86 = .ok (.ireturn, 1) := by decide +kernel
set_option maxRecDepth 20000 in
theorem ggX11_keep_X11_isShelf : GoodIn wsX11_keep wsX11_isShelf := goodIn_r _ [5, 6, 7, 4, 8] (by decide +kernel) (by decide +kernel)
set_option maxRecDepth 20000 in
theorem gX11_keep_X11_isShelf : GoodIn wsX11_keep (va_wsS RX11 211 yX11_isShelf wsX11_isShelf) := goodIn_app (goodIn_of _ (by decide +kernel)) ggX11_keep_X11_isShelf
set_option maxRecDepth 20000 in
theorem ggX11_keep_X11_known : GoodIn wsX11_keep wsX11_known := goodIn_r _ [12, 13, 14, 6, 7, 4, 8, 107, 108, 109, 110, 111, 112, 113, 114, 115, 116, 117, 118, 119, 120] (by decide +kernel) (by decide +kernel)
set_option maxRecDepth 20000 in
theorem gX11_keep_X11_known : GoodIn wsX11_keep (wsV RX11 119 RX11 yX11_known wsX11_known) := goodIn_app (goodIn_of _ (by decide +kernel)) ggX11_keep_X11_known
set_option maxRecDepth 20000 in
theorem ggX11_keep_X11_twinOf : GoodIn wsX11_keep wsX11_twinOf := goodIn_r _ [17, 18, 19, 20, 21, 22, 23, 24, 25, 26, 27, 28, 29, 30, 31, 32, 33, 34, 35, 36, 37, 38, 39, 40, 41, 42, 43, 4, 44, 45, 46, 47, 48, 49, 50, 51, 52, 53, 54, 55, 56, 57, 58, 59, 60, 61, 62, 63, 64, 65, 66, 67, 68, 69, 70, 71, 72, 73, 74, 121, 122, 123, 124, 125, 126, 127, 128, 129, 130, 131, 132, 133, 134, 135, 136] (by decide +kernel) (by decide +kernel)
set_option maxRecDepth 20000 in
theorem gX11_keep_X11_twinOf : GoodIn wsX11_keep (va_wsS RX11 215 yX11_twinOf wsX11_twinOf) := goodIn_app (goodIn_of _ (by decide +kernel)) ggX11_keep_X11_twinOf
set_option maxRecDepth 20000 in
theorem ggX11_keep_X11_rowOfLatest : GoodIn wsX11_keep wsX11_rowOfLatest := goodIn_r _ [78, 79, 80, 81, 82, 83, 84, 85, 86, 87, 88, 89, 90, 91, 92, 93, 94, 95, 96, 60, 61, 97, 98, 99, 107, 108, 109, 110, 111, 112, 113, 114, 115, 116, 117, 118, 119, 120, 137, 138, 139, 140, 141, 142, 143, 144, 145, 146, 147] (by decide +kernel) (by decide +kernel)
set_option maxRecDepth 20000 in
theorem gX11_keep_X11_rowOfLatest : GoodIn wsX11_keep (wsV RX11 219 RX11 yX11_rowOfLatest wsX11_rowOfLatest) := goodIn_app (goodIn_of _ (by decide +kernel)) ggX11_keep_X11_rowOfLatest
set_option maxRecDepth 20000 in
theorem ggX11_keep_X11_rowOfCounts : GoodIn wsX11_keep wsX11_rowOfCounts := goodIn_r _ [103, 81, 82, 83, 104, 105, 84, 106, 93, 94, 95, 96, 60, 61, 97, 98, 99, 146, 147, 107, 108, 109, 110, 111, 112, 113, 114, 115, 116, 117, 118, 119, 120, 148, 149] (by decide +kernel) (by decide +kernel)
set_option maxRecDepth 20000 in
theorem gX11_keep_X11_rowOfCounts : GoodIn wsX11_keep (wsV RX11 223 RX11 yX11_rowOfCounts wsX11_rowOfCounts) := goodIn_app (goodIn_of _ (by decide +kernel)) ggX11_keep_X11_rowOfCounts
theorem dX11_keep_0 : decode cX11_keep 0 = .ok (.iload_n 1, 1) := by decide +kernel
theorem dX11_keep_1 : decode cX11_keep 1 = .ok (.invokestatic 211, 3) := by decide +kernel
theorem dX11_keep_4 : decode cX11_keep 4 = .ok (.ifCond .ne 5, 3) := by decide +kernel
theorem dX11_keep_7 : decode cX11_keep 7 = .ok (.iconst (-1), 1) := by decide +kernel
theorem dX11_keep_8 : decode cX11_keep 8 = .ok (.ireturn, 1) := by decide +kernel
theorem dX11_keep_9 : decode cX11_keep 9 = .ok (.iload_n 2, 1) := by decide +kernel
theorem dX11_keep_10 : decode cX11_keep 10 = .ok (.tableswitch 94 0 4 #[34, 43, 94, 70, 82], 34) := by decide +kernel
theorem dX11_keep_44 : decode cX11_keep 44 = .ok (.aload_n 0, 1) := by decide +kernel
theorem dX11_keep_45 : decode cX11_keep 45 = .ok (.getfield 75, 3) := by decide +kernel
theorem dX11_keep_48 : decode cX11_keep 48 = .ok (.iload_n 1, 1) := by decide +kernel
theorem dX11_keep_49 : decode cX11_keep 49 = .ok (.aconst_null, 1) := by decide +kernel
theorem dX11_keep_50 : decode cX11_keep 50 = .ok (.aastore, 1) := by decide +kernel
theorem dX11_keep_51 : decode cX11_keep 51 = .ok (.iconst 0, 1) := by decide +kernel
theorem dX11_keep_52 : decode cX11_keep 52 = .ok (.ireturn, 1) := by decide +kernel
theorem dX11_keep_53 : decode cX11_keep 53 = .ok (.aload_n 0, 1) := by decide +kernel
theorem dX11_keep_54 : decode cX11_keep 54 = .ok (.iload_n 3, 1) := by decide +kernel
theorem dX11_keep_55 : decode cX11_keep 55 = .ok (.invokevirtual 119, 3) := by decide +kernel
theorem dX11_keep_58 : decode cX11_keep 58 = .ok (.astore 4, 2) := by decide +kernel
theorem dX11_keep_60 : decode cX11_keep 60 = .ok (.aload 4, 2) := by decide +kernel
theorem dX11_keep_62 : decode cX11_keep 62 = .ok (.ifnonnull 5, 3) := by decide +kernel
theorem dX11_keep_65 : decode cX11_keep 65 = .ok (.iconst (-1), 1) := by decide +kernel
theorem dX11_keep_66 : decode cX11_keep 66 = .ok (.ireturn, 1) := by decide +kernel
theorem dX11_keep_67 : decode cX11_keep 67 = .ok (.aload_n 0, 1) := by decide +kernel
theorem dX11_keep_68 : decode cX11_keep 68 = .ok (.getfield 75, 3) := by decide +kernel
theorem dX11_keep_71 : decode cX11_keep 71 = .ok (.iload_n 1, 1) := by decide +kernel
theorem dX11_keep_72 : decode cX11_keep 72 = .ok (.aload 4, 2) := by decide +kernel
theorem dX11_keep_74 : decode cX11_keep 74 = .ok (.invokestatic 215, 3) := by decide +kernel
theorem dX11_keep_77 : decode cX11_keep 77 = .ok (.aastore, 1) := by decide +kernel
theorem dX11_keep_78 : decode cX11_keep 78 = .ok (.iconst 0, 1) := by decide +kernel
theorem dX11_keep_79 : decode cX11_keep 79 = .ok (.ireturn, 1) := by decide +kernel
theorem dX11_keep_80 : decode cX11_keep 80 = .ok (.aload_n 0, 1) := by decide +kernel
theorem dX11_keep_81 : decode cX11_keep 81 = .ok (.getfield 75, 3) := by decide +kernel
theorem dX11_keep_84 : decode cX11_keep 84 = .ok (.iload_n 1, 1) := by decide +kernel
theorem dX11_keep_85 : decode cX11_keep 85 = .ok (.aload_n 0, 1) := by decide +kernel
theorem dX11_keep_86 : decode cX11_keep 86 = .ok (.invokevirtual 219, 3) := by decide +kernel
theorem dX11_keep_89 : decode cX11_keep 89 = .ok (.aastore, 1) := by decide +kernel
theorem dX11_keep_90 : decode cX11_keep 90 = .ok (.iconst 0, 1) := by decide +kernel
theorem dX11_keep_91 : decode cX11_keep 91 = .ok (.ireturn, 1) := by decide +kernel
theorem dX11_keep_92 : decode cX11_keep 92 = .ok (.aload_n 0, 1) := by decide +kernel
theorem dX11_keep_93 : decode cX11_keep 93 = .ok (.getfield 75, 3) := by decide +kernel
theorem dX11_keep_96 : decode cX11_keep 96 = .ok (.iload_n 1, 1) := by decide +kernel
theorem dX11_keep_97 : decode cX11_keep 97 = .ok (.aload_n 0, 1) := by decide +kernel
theorem dX11_keep_98 : decode cX11_keep 98 = .ok (.invokevirtual 223, 3) := by decide +kernel
theorem dX11_keep_101 : decode cX11_keep 101 = .ok (.aastore, 1) := by decide +kernel
theorem dX11_keep_102 : decode cX11_keep 102 = .ok (.iconst 0, 1) := by decide +kernel
theorem dX11_keep_103 : decode cX11_keep 103 = .ok (.ireturn, 1) := by decide +kernel
theorem dX11_keep_104 : decode cX11_keep 104 = .ok (.iconst (-1), 1) := by decide +kernel
theorem dX11_keep_105 : decode cX11_keep 105 = .ok (.ireturn, 1) := by decide +kernel
set_option maxRecDepth 20000 in
theorem ggX11_make_X11_isShelf : GoodIn wsX11_make wsX11_isShelf := goodIn_r _ [8, 9, 10, 7, 11] (by decide +kernel) (by decide +kernel)
set_option maxRecDepth 20000 in
theorem gX11_make_X11_isShelf : GoodIn wsX11_make (va_wsS RX11 211 yX11_isShelf wsX11_isShelf) := goodIn_app (goodIn_of _ (by decide +kernel)) ggX11_make_X11_isShelf
set_option maxRecDepth 20000 in
theorem ggX11_make_X11_isWithin : GoodIn wsX11_make wsX11_isWithin := goodIn_r _ [11] (by decide +kernel) (by decide +kernel)
set_option maxRecDepth 20000 in
theorem gX11_make_X11_isWithin : GoodIn wsX11_make (va_wsS RX11 79 yX11_isWithin wsX11_isWithin) := goodIn_app (goodIn_of _ (by decide +kernel)) ggX11_make_X11_isWithin
set_option maxRecDepth 20000 in
theorem ggX11_make_X5_init : GoodIn wsX11_make wsX5_init := goodIn_r _ [14, 15, 16, 17, 18, 19, 20, 35, 36] (by decide +kernel) (by decide +kernel)
set_option maxRecDepth 20000 in
theorem gX11_make_X5_init : GoodIn wsX11_make (wsX5_init) := ggX11_make_X5_init
theorem dX11_make_0 : decode cX11_make 0 = .ok (.iload_n 1, 1) := by decide +kernel
theorem dX11_make_1 : decode cX11_make 1 = .ok (.invokestatic 211, 3) := by decide +kernel
theorem dX11_make_4 : decode cX11_make 4 = .ok (.ifCond .eq 18, 3) := by decide +kernel
theorem dX11_make_7 : decode cX11_make 7 = .ok (.iload_n 2, 1) := by decide +kernel
theorem dX11_make_8 : decode cX11_make 8 = .ok (.iconst 3, 1) := by decide +kernel
theorem dX11_make_9 : decode cX11_make 9 = .ok (.iconst 4, 1) := by decide +kernel
theorem dX11_make_10 : decode cX11_make 10 = .ok (.invokestatic 79, 3) := by decide +kernel
theorem dX11_make_13 : decode cX11_make 13 = .ok (.ifCond .eq 9, 3) := by decide +kernel
theorem dX11_make_16 : decode cX11_make 16 = .ok (.iload_n 3, 1) := by decide +kernel
theorem dX11_make_17 : decode cX11_make 17 = .ok (.bipush 60, 2) := by decide +kernel
theorem dX11_make_19 : decode cX11_make 19 = .ok (.if_icmp .le 5, 3) := by decide +kernel
theorem dX11_make_22 : decode cX11_make 22 = .ok (.iconst (-1), 1) := by decide +kernel
theorem dX11_make_23 : decode cX11_make 23 = .ok (.ireturn, 1) := by decide +kernel
theorem dX11_make_24 : decode cX11_make 24 = .ok (.iload_n 3, 1) := by decide +kernel
theorem dX11_make_25 : decode cX11_make 25 = .ok (.ifCond .ge 6, 3) := by decide +kernel
theorem dX11_make_28 : decode cX11_make 28 = .ok (.bipush (-14), 2) := by decide +kernel
theorem dX11_make_30 : decode cX11_make 30 = .ok (.ireturn, 1) := by decide +kernel
theorem dX11_make_31 : decode cX11_make 31 = .ok (.aload_n 0, 1) := by decide +kernel
theorem dX11_make_32 : decode cX11_make 32 = .ok (.getfield 75, 3) := by decide +kernel
theorem dX11_make_35 : decode cX11_make 35 = .ok (.iload_n 1, 1) := by decide +kernel
theorem dX11_make_36 : decode cX11_make 36 = .ok (.new 226, 3) := by decide +kernel
theorem dX11_make_39 : decode cX11_make 39 = .ok (.dup, 1) := by decide +kernel
theorem dX11_make_40 : decode cX11_make 40 = .ok (.iload_n 2, 1) := by decide +kernel
theorem dX11_make_41 : decode cX11_make 41 = .ok (.iload_n 3, 1) := by decide +kernel
theorem dX11_make_42 : decode cX11_make 42 = .ok (.invokespecial 228, 3) := by decide +kernel
theorem dX11_make_45 : decode cX11_make 45 = .ok (.aastore, 1) := by decide +kernel
theorem dX11_make_46 : decode cX11_make 46 = .ok (.iconst 0, 1) := by decide +kernel
theorem dX11_make_47 : decode cX11_make 47 = .ok (.ireturn, 1) := by decide +kernel
set_option maxRecDepth 20000 in
theorem ggX11_element_X11_isShelf : GoodIn wsX11_element wsX11_isShelf := goodIn_r _ [11, 12, 13, 10, 14] (by decide +kernel) (by decide +kernel)
set_option maxRecDepth 20000 in
theorem gX11_element_X11_isShelf : GoodIn wsX11_element (va_wsS RX11 211 yX11_isShelf wsX11_isShelf) := goodIn_app (goodIn_of _ (by decide +kernel)) ggX11_element_X11_isShelf
set_option maxRecDepth 20000 in
theorem ggX11_element_X11_isWithin : GoodIn wsX11_element wsX11_isWithin := goodIn_r _ [14] (by decide +kernel) (by decide +kernel)
set_option maxRecDepth 20000 in
theorem gX11_element_X11_isWithin : GoodIn wsX11_element (va_wsS RX11 79 yX11_isWithin wsX11_isWithin) := goodIn_app (goodIn_of _ (by decide +kernel)) ggX11_element_X11_isWithin
theorem dX11_element_0 : decode cX11_element 0 = .ok (.iload_n 1, 1) := by decide +kernel
theorem dX11_element_1 : decode cX11_element 1 = .ok (.invokestatic 211, 3) := by decide +kernel
theorem dX11_element_4 : decode cX11_element 4 = .ok (.ifCond .ne 13, 3) := by decide +kernel
theorem dX11_element_7 : decode cX11_element 7 = .ok (.new 97, 3) := by decide +kernel
theorem dX11_element_10 : decode cX11_element 10 = .ok (.dup, 1) := by decide +kernel
theorem dX11_element_11 : decode cX11_element 11 = .ok (.ldc 231, 2) := by decide +kernel
theorem dX11_element_13 : decode cX11_element 13 = .ok (.invokespecial 101, 3) := by decide +kernel
theorem dX11_element_16 : decode cX11_element 16 = .ok (.athrow, 1) := by decide +kernel
theorem dX11_element_17 : decode cX11_element 17 = .ok (.aload_n 0, 1) := by decide +kernel
theorem dX11_element_18 : decode cX11_element 18 = .ok (.getfield 75, 3) := by decide +kernel
theorem dX11_element_21 : decode cX11_element 21 = .ok (.iload_n 1, 1) := by decide +kernel
theorem dX11_element_22 : decode cX11_element 22 = .ok (.aaload, 1) := by decide +kernel
theorem dX11_element_23 : decode cX11_element 23 = .ok (.astore 4, 2) := by decide +kernel
theorem dX11_element_25 : decode cX11_element 25 = .ok (.aload 4, 2) := by decide +kernel
theorem dX11_element_27 : decode cX11_element 27 = .ok (.instanceof 226, 3) := by decide +kernel
theorem dX11_element_30 : decode cX11_element 30 = .ok (.ifCond .eq 24, 3) := by decide +kernel
theorem dX11_element_33 : decode cX11_element 33 = .ok (.aload 4, 2) := by decide +kernel
theorem dX11_element_35 : decode cX11_element 35 = .ok (.checkcast 226, 3) := by decide +kernel
theorem dX11_element_38 : decode cX11_element 38 = .ok (.astore_n 3, 1) := by decide +kernel
theorem dX11_element_39 : decode cX11_element 39 = .ok (.iload_n 2, 1) := by decide +kernel
theorem dX11_element_40 : decode cX11_element 40 = .ok (.iconst 0, 1) := by decide +kernel
theorem dX11_element_41 : decode cX11_element 41 = .ok (.aload_n 3, 1) := by decide +kernel
theorem dX11_element_42 : decode cX11_element 42 = .ok (.getfield 233, 3) := by decide +kernel
theorem dX11_element_45 : decode cX11_element 45 = .ok (.arraylength, 1) := by decide +kernel
theorem dX11_element_46 : decode cX11_element 46 = .ok (.iconst 1, 1) := by decide +kernel
theorem dX11_element_47 : decode cX11_element 47 = .ok (.isub, 1) := by decide +kernel
theorem dX11_element_48 : decode cX11_element 48 = .ok (.invokestatic 79, 3) := by decide +kernel
theorem dX11_element_51 : decode cX11_element 51 = .ok (.ifCond .ne 13, 3) := by decide +kernel
theorem dX11_element_54 : decode cX11_element 54 = .ok (.new 236, 3) := by decide +kernel
theorem dX11_element_57 : decode cX11_element 57 = .ok (.dup, 1) := by decide +kernel
theorem dX11_element_58 : decode cX11_element 58 = .ok (.ldc 238, 2) := by decide +kernel
theorem dX11_element_60 : decode cX11_element 60 = .ok (.invokespecial 240, 3) := by decide +kernel
theorem dX11_element_63 : decode cX11_element 63 = .ok (.athrow, 1) := by decide +kernel
theorem dX11_element_64 : decode cX11_element 64 = .ok (.aload_n 3, 1) := by decide +kernel
theorem dX11_element_65 : decode cX11_element 65 = .ok (.getfield 233, 3) := by decide +kernel
theorem dX11_element_68 : decode cX11_element 68 = .ok (.iload_n 2, 1) := by decide +kernel
theorem dX11_element_69 : decode cX11_element 69 = .ok (.saload, 1) := by decide +kernel
theorem dX11_element_70 : decode cX11_element 70 = .ok (.i2l, 1) := by decide +kernel
theorem dX11_element_71 : decode cX11_element 71 = .ok (.lreturn, 1) := by decide +kernel
set_option maxRecDepth 20000 in
theorem ggX11_copy_X11_isShelf : GoodIn wsX11_copy wsX11_isShelf := goodIn_r _ [12, 13, 14, 11, 15] (by decide +kernel) (by decide +kernel)
set_option maxRecDepth 20000 in
theorem gX11_copy_X11_isShelf : GoodIn wsX11_copy (va_wsS RX11 211 yX11_isShelf wsX11_isShelf) := goodIn_app (goodIn_of _ (by decide +kernel)) ggX11_copy_X11_isShelf
set_option maxRecDepth 20000 in
theorem ggX11_copy_X5_spans : GoodIn wsX11_copy wsX5_spans := goodIn_r _ [20, 21, 36, 37] (by decide +kernel) (by decide +kernel)
set_option maxRecDepth 20000 in
theorem gX11_copy_X5_spans : GoodIn wsX11_copy (wsV RX11 244 RX5 yX5_spans wsX5_spans) := goodIn_app (goodIn_of _ (by decide +kernel)) ggX11_copy_X5_spans
theorem dX11_copy_0 : decode cX11_copy 0 = .ok (.iload_n 1, 1) := by decide +kernel
theorem dX11_copy_1 : decode cX11_copy 1 = .ok (.invokestatic 211, 3) := by decide +kernel
theorem dX11_copy_4 : decode cX11_copy 4 = .ok (.ifCond .eq 10, 3) := by decide +kernel
theorem dX11_copy_7 : decode cX11_copy 7 = .ok (.iload_n 3, 1) := by decide +kernel
theorem dX11_copy_8 : decode cX11_copy 8 = .ok (.invokestatic 211, 3) := by decide +kernel
theorem dX11_copy_11 : decode cX11_copy 11 = .ok (.ifCond .ne 5, 3) := by decide +kernel
theorem dX11_copy_14 : decode cX11_copy 14 = .ok (.iconst (-1), 1) := by decide +kernel
theorem dX11_copy_15 : decode cX11_copy 15 = .ok (.ireturn, 1) := by decide +kernel
theorem dX11_copy_16 : decode cX11_copy 16 = .ok (.aload_n 0, 1) := by decide +kernel
theorem dX11_copy_17 : decode cX11_copy 17 = .ok (.getfield 75, 3) := by decide +kernel
theorem dX11_copy_20 : decode cX11_copy 20 = .ok (.iload_n 1, 1) := by decide +kernel
theorem dX11_copy_21 : decode cX11_copy 21 = .ok (.aaload, 1) := by decide +kernel
theorem dX11_copy_22 : decode cX11_copy 22 = .ok (.ifnull 12, 3) := by decide +kernel
theorem dX11_copy_25 : decode cX11_copy 25 = .ok (.aload_n 0, 1) := by decide +kernel
theorem dX11_copy_26 : decode cX11_copy 26 = .ok (.getfield 75, 3) := by decide +kernel
theorem dX11_copy_29 : decode cX11_copy 29 = .ok (.iload_n 3, 1) := by decide +kernel
theorem dX11_copy_30 : decode cX11_copy 30 = .ok (.aaload, 1) := by decide +kernel
theorem dX11_copy_31 : decode cX11_copy 31 = .ok (.ifnonnull 6, 3) := by decide +kernel
theorem dX11_copy_34 : decode cX11_copy 34 = .ok (.bipush (-11), 2) := by decide +kernel
theorem dX11_copy_36 : decode cX11_copy 36 = .ok (.ireturn, 1) := by decide +kernel
theorem dX11_copy_37 : decode cX11_copy 37 = .ok (.aload_n 0, 1) := by decide +kernel
theorem dX11_copy_38 : decode cX11_copy 38 = .ok (.getfield 75, 3) := by decide +kernel
theorem dX11_copy_41 : decode cX11_copy 41 = .ok (.iload_n 1, 1) := by decide +kernel
theorem dX11_copy_42 : decode cX11_copy 42 = .ok (.aaload, 1) := by decide +kernel
theorem dX11_copy_43 : decode cX11_copy 43 = .ok (.astore 8, 2) := by decide +kernel
theorem dX11_copy_45 : decode cX11_copy 45 = .ok (.aload 8, 2) := by decide +kernel
theorem dX11_copy_47 : decode cX11_copy 47 = .ok (.instanceof 226, 3) := by decide +kernel
theorem dX11_copy_50 : decode cX11_copy 50 = .ok (.ifCond .eq 46, 3) := by decide +kernel
theorem dX11_copy_53 : decode cX11_copy 53 = .ok (.aload 8, 2) := by decide +kernel
theorem dX11_copy_55 : decode cX11_copy 55 = .ok (.checkcast 226, 3) := by decide +kernel
theorem dX11_copy_58 : decode cX11_copy 58 = .ok (.astore 6, 2) := by decide +kernel
theorem dX11_copy_60 : decode cX11_copy 60 = .ok (.aload_n 0, 1) := by decide +kernel
theorem dX11_copy_61 : decode cX11_copy 61 = .ok (.getfield 75, 3) := by decide +kernel
theorem dX11_copy_64 : decode cX11_copy 64 = .ok (.iload_n 3, 1) := by decide +kernel
theorem dX11_copy_65 : decode cX11_copy 65 = .ok (.aaload, 1) := by decide +kernel
theorem dX11_copy_66 : decode cX11_copy 66 = .ok (.astore 8, 2) := by decide +kernel
theorem dX11_copy_68 : decode cX11_copy 68 = .ok (.aload 8, 2) := by decide +kernel
theorem dX11_copy_70 : decode cX11_copy 70 = .ok (.instanceof 226, 3) := by decide +kernel
theorem dX11_copy_73 : decode cX11_copy 73 = .ok (.ifCond .eq 23, 3) := by decide +kernel
theorem dX11_copy_76 : decode cX11_copy 76 = .ok (.aload 8, 2) := by decide +kernel
theorem dX11_copy_78 : decode cX11_copy 78 = .ok (.checkcast 226, 3) := by decide +kernel
theorem dX11_copy_81 : decode cX11_copy 81 = .ok (.astore 7, 2) := by decide +kernel
theorem dX11_copy_83 : decode cX11_copy 83 = .ok (.aload 6, 2) := by decide +kernel
theorem dX11_copy_85 : decode cX11_copy 85 = .ok (.getfield 241, 3) := by decide +kernel
theorem dX11_copy_88 : decode cX11_copy 88 = .ok (.aload 7, 2) := by decide +kernel
theorem dX11_copy_90 : decode cX11_copy 90 = .ok (.getfield 241, 3) := by decide +kernel
theorem dX11_copy_93 : decode cX11_copy 93 = .ok (.if_icmp .eq 6, 3) := by decide +kernel
theorem dX11_copy_96 : decode cX11_copy 96 = .ok (.bipush (-12), 2) := by decide +kernel
theorem dX11_copy_98 : decode cX11_copy 98 = .ok (.ireturn, 1) := by decide +kernel
theorem dX11_copy_99 : decode cX11_copy 99 = .ok (.aload 6, 2) := by decide +kernel
theorem dX11_copy_101 : decode cX11_copy 101 = .ok (.iload_n 2, 1) := by decide +kernel
theorem dX11_copy_102 : decode cX11_copy 102 = .ok (.iload 5, 2) := by decide +kernel
theorem dX11_copy_104 : decode cX11_copy 104 = .ok (.invokevirtual 244, 3) := by decide +kernel
theorem dX11_copy_107 : decode cX11_copy 107 = .ok (.ifCond .eq 15, 3) := by decide +kernel
theorem dX11_copy_110 : decode cX11_copy 110 = .ok (.aload 7, 2) := by decide +kernel
theorem dX11_copy_112 : decode cX11_copy 112 = .ok (.iload 4, 2) := by decide +kernel
theorem dX11_copy_114 : decode cX11_copy 114 = .ok (.iload 5, 2) := by decide +kernel
theorem dX11_copy_116 : decode cX11_copy 116 = .ok (.invokevirtual 244, 3) := by decide +kernel
theorem dX11_copy_119 : decode cX11_copy 119 = .ok (.ifCond .ne 6, 3) := by decide +kernel
theorem dX11_copy_122 : decode cX11_copy 122 = .ok (.bipush (-13), 2) := by decide +kernel
theorem dX11_copy_124 : decode cX11_copy 124 = .ok (.ireturn, 1) := by decide +kernel
theorem dX11_copy_125 : decode cX11_copy 125 = .ok (.aload 6, 2) := by decide +kernel
theorem dX11_copy_127 : decode cX11_copy 127 = .ok (.getfield 233, 3) := by decide +kernel
theorem dX11_copy_130 : decode cX11_copy 130 = .ok (.iload_n 2, 1) := by decide +kernel
theorem dX11_copy_131 : decode cX11_copy 131 = .ok (.aload 7, 2) := by decide +kernel
theorem dX11_copy_133 : decode cX11_copy 133 = .ok (.getfield 233, 3) := by decide +kernel
theorem dX11_copy_136 : decode cX11_copy 136 = .ok (.iload 4, 2) := by decide +kernel
theorem dX11_copy_138 : decode cX11_copy 138 = .ok (.iload 5, 2) := by decide +kernel
theorem dX11_copy_140 : decode cX11_copy 140 = .ok (.invokestatic 247, 3) := by decide +kernel
theorem dX11_copy_143 : decode cX11_copy 143 = .ok (.iload 5, 2) := by decide +kernel
theorem dX11_copy_145 : decode cX11_copy 145 = .ok (.ireturn, 1) := by decide +kernel
set_option maxRecDepth 20000 in
theorem ggX11_weight_X11_isShelf : GoodIn wsX11_weight wsX11_isShelf := goodIn_r _ [6, 7, 8, 5, 9] (by decide +kernel) (by decide +kernel)
set_option maxRecDepth 20000 in
theorem gX11_weight_X11_isShelf : GoodIn wsX11_weight (va_wsS RX11 211 yX11_isShelf wsX11_isShelf) := goodIn_app (goodIn_of _ (by decide +kernel)) ggX11_weight_X11_isShelf
set_option maxRecDepth 20000 in
theorem ggX11_weight_X0_heft : GoodIn wsX11_weight wsX0_heft := goodIn_r _ [16, 17, 11, 18, 19, 20, 21, 22, 23, 55, 56, 57, 58, 59, 60, 61, 62, 63, 64, 65, 66, 67, 68, 69, 70] (by decide +kernel) (by decide +kernel)
set_option maxRecDepth 20000 in
theorem gX11_weight_X0_heft_u253X0 : GoodIn wsX11_weight (va_wsO RX11 253 RX0 "StraitSwim$Plain" ⟨"StraitSwim$Plain", "heft", "()I"⟩ yX0_heft wsX0_heft) := goodIn_app (goodIn_of _ (by decide +kernel)) ggX11_weight_X0_heft
set_option maxRecDepth 20000 in
theorem ggX11_weight_X3_heft : GoodIn wsX11_weight wsX3_heft := goodIn_r _ [21, 22, 23, 55, 56, 57, 58, 59, 60, 61, 62, 63, 64, 65, 66, 67, 68, 69, 70] (by decide +kernel) (by decide +kernel)
set_option maxRecDepth 20000 in
theorem gX11_weight_X3_heft : GoodIn wsX11_weight (wsV RX11 253 RX3 yX3_heft wsX3_heft) := goodIn_app (goodIn_of _ (by decide +kernel)) ggX11_weight_X3_heft
set_option maxRecDepth 20000 in
theorem ggX11_weight_X4_heft : GoodIn wsX11_weight wsX4_heft := goodIn_r _ [29, 30, 31, 32, 11, 33, 19, 20, 21, 22, 23, 55, 56, 57, 58, 59, 60, 61, 62, 63, 64, 65, 66, 67, 68, 69, 70] (by decide +kernel) (by decide +kernel)
set_option maxRecDepth 20000 in
theorem gX11_weight_X4_heft_u253X4 : GoodIn wsX11_weight (va_wsO RX11 253 RX4 "StraitSwim$Plain" ⟨"StraitSwim$Plain", "heft", "()I"⟩ yX4_heft wsX4_heft) := goodIn_app (goodIn_of _ (by decide +kernel)) ggX11_weight_X4_heft
set_option maxRecDepth 20000 in
theorem ggX11_weight_X6_heft : GoodIn wsX11_weight wsX6_heft := goodIn_r _ [37, 38, 39, 40, 14, 15, 16, 17, 11, 18, 19, 20, 21, 22, 23, 55, 56, 57, 58, 59, 60, 61, 62, 63, 64, 65, 66, 67, 68, 69, 70] (by decide +kernel) (by decide +kernel)
set_option maxRecDepth 20000 in
theorem gX11_weight_X6_heft_u253X6 : GoodIn wsX11_weight (va_wsO RX11 253 RX6 "StraitSwim$Plain" ⟨"StraitSwim$Plain", "heft", "()I"⟩ yX6_heft wsX6_heft) := goodIn_app (goodIn_of _ (by decide +kernel)) ggX11_weight_X6_heft
theorem dX11_weight_0 : decode cX11_weight 0 = .ok (.iload_n 1, 1) := by decide +kernel
theorem dX11_weight_1 : decode cX11_weight 1 = .ok (.invokestatic 211, 3) := by decide +kernel
theorem dX11_weight_4 : decode cX11_weight 4 = .ok (.ifCond .ne 5, 3) := by decide +kernel
theorem dX11_weight_7 : decode cX11_weight 7 = .ok (.iconst (-1), 1) := by decide +kernel
theorem dX11_weight_8 : decode cX11_weight 8 = .ok (.ireturn, 1) := by decide +kernel
theorem dX11_weight_9 : decode cX11_weight 9 = .ok (.aload_n 0, 1) := by decide +kernel
theorem dX11_weight_10 : decode cX11_weight 10 = .ok (.getfield 75, 3) := by decide +kernel
theorem dX11_weight_13 : decode cX11_weight 13 = .ok (.iload_n 1, 1) := by decide +kernel
theorem dX11_weight_14 : decode cX11_weight 14 = .ok (.aaload, 1) := by decide +kernel
theorem dX11_weight_15 : decode cX11_weight 15 = .ok (.ifnonnull 6, 3) := by decide +kernel
theorem dX11_weight_18 : decode cX11_weight 18 = .ok (.bipush (-11), 2) := by decide +kernel
theorem dX11_weight_20 : decode cX11_weight 20 = .ok (.ireturn, 1) := by decide +kernel
theorem dX11_weight_21 : decode cX11_weight 21 = .ok (.aload_n 0, 1) := by decide +kernel
theorem dX11_weight_22 : decode cX11_weight 22 = .ok (.getfield 75, 3) := by decide +kernel
theorem dX11_weight_25 : decode cX11_weight 25 = .ok (.iload_n 1, 1) := by decide +kernel
theorem dX11_weight_26 : decode cX11_weight 26 = .ok (.aaload, 1) := by decide +kernel
theorem dX11_weight_27 : decode cX11_weight 27 = .ok (.astore_n 3, 1) := by decide +kernel
theorem dX11_weight_28 : decode cX11_weight 28 = .ok (.aload_n 3, 1) := by decide +kernel
theorem dX11_weight_29 : decode cX11_weight 29 = .ok (.instanceof 16, 3) := by decide +kernel
theorem dX11_weight_32 : decode cX11_weight 32 = .ok (.ifCond .eq 15, 3) := by decide +kernel
theorem dX11_weight_35 : decode cX11_weight 35 = .ok (.aload_n 3, 1) := by decide +kernel
theorem dX11_weight_36 : decode cX11_weight 36 = .ok (.checkcast 16, 3) := by decide +kernel
theorem dX11_weight_39 : decode cX11_weight 39 = .ok (.astore_n 2, 1) := by decide +kernel
theorem dX11_weight_40 : decode cX11_weight 40 = .ok (.aload_n 2, 1) := by decide +kernel
theorem dX11_weight_41 : decode cX11_weight 41 = .ok (.invokevirtual 253, 3) := by decide +kernel
theorem dX11_weight_44 : decode cX11_weight 44 = .ok (.goto 5, 3) := by decide +kernel
theorem dX11_weight_47 : decode cX11_weight 47 = .ok (.bipush (-12), 2) := by decide +kernel
theorem dX11_weight_49 : decode cX11_weight 49 = .ok (.ireturn, 1) := by decide +kernel
set_option maxRecDepth 20000 in
theorem ggX11_toss_X11_isShelf : GoodIn wsX11_toss wsX11_isShelf := goodIn_r _ [6, 7, 8, 5, 9] (by decide +kernel) (by decide +kernel)
set_option maxRecDepth 20000 in
theorem gX11_toss_X11_isShelf : GoodIn wsX11_toss (va_wsS RX11 211 yX11_isShelf wsX11_isShelf) := goodIn_app (goodIn_of _ (by decide +kernel)) ggX11_toss_X11_isShelf
set_option maxRecDepth 20000 in
theorem ggX11_toss_X11_failureOf : GoodIn wsX11_toss wsX11_failureOf := goodIn_ca (goodIn_ca (goodIn_r _ [12, 13, 14, 15, 16, 17, 18, 19, 20, 21, 22, 23, 24, 25, 26, 27, 28, 29, 30, 31, 32, 33, 34, 49, 50, 51, 52, 53, 54, 55, 56, 57, 58, 59, 60, 61, 62, 63, 64] (by decide +kernel) (by decide +kernel)) (goodIn_sub (fun _ h => List.mem_cons_of_mem _ (List.mem_append_left _ (List.mem_append_right _ h))) (by decide +kernel))) (goodIn_sub (fun _ h => List.mem_cons_of_mem _ (List.mem_append_right _ h)) (by decide +kernel))
set_option maxRecDepth 20000 in
theorem gX11_toss_X11_failureOf : GoodIn wsX11_toss (va_wsS RX11 257 yX11_failureOf wsX11_failureOf) := goodIn_app (goodIn_of _ (by decide +kernel)) ggX11_toss_X11_failureOf
theorem dX11_toss_0 : decode cX11_toss 0 = .ok (.iload_n 1, 1) := by decide +kernel
theorem dX11_toss_1 : decode cX11_toss 1 = .ok (.invokestatic 211, 3) := by decide +kernel
theorem dX11_toss_4 : decode cX11_toss 4 = .ok (.ifCond .ne 5, 3) := by decide +kernel
theorem dX11_toss_7 : decode cX11_toss 7 = .ok (.iconst (-1), 1) := by decide +kernel
theorem dX11_toss_8 : decode cX11_toss 8 = .ok (.ireturn, 1) := by decide +kernel
theorem dX11_toss_9 : decode cX11_toss 9 = .ok (.aload_n 0, 1) := by decide +kernel
theorem dX11_toss_10 : decode cX11_toss 10 = .ok (.getfield 75, 3) := by decide +kernel
theorem dX11_toss_13 : decode cX11_toss 13 = .ok (.iload_n 1, 1) := by decide +kernel
theorem dX11_toss_14 : decode cX11_toss 14 = .ok (.aaload, 1) := by decide +kernel
theorem dX11_toss_15 : decode cX11_toss 15 = .ok (.ifnonnull 6, 3) := by decide +kernel
theorem dX11_toss_18 : decode cX11_toss 18 = .ok (.bipush (-11), 2) := by decide +kernel
theorem dX11_toss_20 : decode cX11_toss 20 = .ok (.ireturn, 1) := by decide +kernel
theorem dX11_toss_21 : decode cX11_toss 21 = .ok (.aload_n 0, 1) := by decide +kernel
theorem dX11_toss_22 : decode cX11_toss 22 = .ok (.getfield 75, 3) := by decide +kernel
theorem dX11_toss_25 : decode cX11_toss 25 = .ok (.iload_n 1, 1) := by decide +kernel
theorem dX11_toss_26 : decode cX11_toss 26 = .ok (.aaload, 1) := by decide +kernel
theorem dX11_toss_27 : decode cX11_toss 27 = .ok (.astore_n 3, 1) := by decide +kernel
theorem dX11_toss_28 : decode cX11_toss 28 = .ok (.aload_n 3, 1) := by decide +kernel
theorem dX11_toss_29 : decode cX11_toss 29 = .ok (.instanceof 16, 3) := by decide +kernel
theorem dX11_toss_32 : decode cX11_toss 32 = .ok (.ifCond .eq 15, 3) := by decide +kernel
theorem dX11_toss_35 : decode cX11_toss 35 = .ok (.aload_n 3, 1) := by decide +kernel
theorem dX11_toss_36 : decode cX11_toss 36 = .ok (.checkcast 16, 3) := by decide +kernel
theorem dX11_toss_39 : decode cX11_toss 39 = .ok (.astore_n 2, 1) := by decide +kernel
theorem dX11_toss_40 : decode cX11_toss 40 = .ok (.aload_n 2, 1) := by decide +kernel
theorem dX11_toss_41 : decode cX11_toss 41 = .ok (.invokestatic 257, 3) := by decide +kernel
theorem dX11_toss_44 : decode cX11_toss 44 = .ok (.goto 5, 3) := by decide +kernel
theorem dX11_toss_47 : decode cX11_toss 47 = .ok (.bipush (-12), 2) := by decide +kernel
theorem dX11_toss_49 : decode cX11_toss 49 = .ok (.ireturn, 1) := by decide +kernel
theorem dX11_isWithin_0 : decode cX11_isWithin 0 = .ok (.iload_n 0, 1) := by decide +kernel
theorem dX11_isWithin_1 : decode cX11_isWithin 1 = .ok (.iload_n 1, 1) := by decide +kernel
theorem dX11_isWithin_2 : decode cX11_isWithin 2 = .ok (.if_icmp .lt 12, 3) := by decide +kernel
theorem dX11_isWithin_5 : decode cX11_isWithin 5 = .ok (.iload_n 0, 1) := by decide +kernel
theorem dX11_isWithin_6 : decode cX11_isWithin 6 = .ok (.iload_n 2, 1) := by decide +kernel
theorem dX11_isWithin_7 : decode cX11_isWithin 7 = .ok (.if_icmp .gt 7, 3) := by decide +kernel
theorem dX11_isWithin_10 : decode cX11_isWithin 10 = .ok (.iconst 1, 1) := by decide +kernel
theorem dX11_isWithin_11 : decode cX11_isWithin 11 = .ok (.goto 4, 3) := by decide +kernel
theorem dX11_isWithin_14 : decode cX11_isWithin 14 = .ok (.iconst 0, 1) := by decide +kernel
theorem dX11_isWithin_15 : decode cX11_isWithin 15 = .ok (.ireturn, 1) := by decide +kernel
set_option maxRecDepth 20000 in
theorem ggX11_isPlace_X11_isWithin : GoodIn wsX11_isPlace wsX11_isWithin := goodIn_r _ [4] (by decide +kernel) (by decide +kernel)
set_option maxRecDepth 20000 in
theorem gX11_isPlace_X11_isWithin : GoodIn wsX11_isPlace (va_wsS RX11 79 yX11_isWithin wsX11_isWithin) := goodIn_app (goodIn_of _ (by decide +kernel)) ggX11_isPlace_X11_isWithin
theorem dX11_isPlace_0 : decode cX11_isPlace 0 = .ok (.iload_n 0, 1) := by decide +kernel
theorem dX11_isPlace_1 : decode cX11_isPlace 1 = .ok (.iconst 0, 1) := by decide +kernel
theorem dX11_isPlace_2 : decode cX11_isPlace 2 = .ok (.sipush 239, 3) := by decide +kernel
theorem dX11_isPlace_5 : decode cX11_isPlace 5 = .ok (.invokestatic 79, 3) := by decide +kernel
theorem dX11_isPlace_8 : decode cX11_isPlace 8 = .ok (.ifCond .eq 17, 3) := by decide +kernel
theorem dX11_isPlace_11 : decode cX11_isPlace 11 = .ok (.iload_n 1, 1) := by decide +kernel
theorem dX11_isPlace_12 : decode cX11_isPlace 12 = .ok (.iconst 0, 1) := by decide +kernel
theorem dX11_isPlace_13 : decode cX11_isPlace 13 = .ok (.bipush 119, 2) := by decide +kernel
theorem dX11_isPlace_15 : decode cX11_isPlace 15 = .ok (.invokestatic 79, 3) := by decide +kernel
theorem dX11_isPlace_18 : decode cX11_isPlace 18 = .ok (.ifCond .eq 7, 3) := by decide +kernel
theorem dX11_isPlace_21 : decode cX11_isPlace 21 = .ok (.iconst 1, 1) := by decide +kernel
theorem dX11_isPlace_22 : decode cX11_isPlace 22 = .ok (.goto 4, 3) := by decide +kernel
theorem dX11_isPlace_25 : decode cX11_isPlace 25 = .ok (.iconst 0, 1) := by decide +kernel
theorem dX11_isPlace_26 : decode cX11_isPlace 26 = .ok (.ireturn, 1) := by decide +kernel
set_option maxRecDepth 20000 in
theorem ggX11_isShelf_X11_isWithin : GoodIn wsX11_isShelf wsX11_isWithin := goodIn_r _ [4] (by decide +kernel) (by decide +kernel)
set_option maxRecDepth 20000 in
theorem gX11_isShelf_X11_isWithin : GoodIn wsX11_isShelf (va_wsS RX11 79 yX11_isWithin wsX11_isWithin) := goodIn_app (goodIn_of _ (by decide +kernel)) ggX11_isShelf_X11_isWithin
theorem dX11_isShelf_0 : decode cX11_isShelf 0 = .ok (.iload_n 0, 1) := by decide +kernel
theorem dX11_isShelf_1 : decode cX11_isShelf 1 = .ok (.iconst 0, 1) := by decide +kernel
theorem dX11_isShelf_2 : decode cX11_isShelf 2 = .ok (.bipush 7, 2) := by decide +kernel
theorem dX11_isShelf_4 : decode cX11_isShelf 4 = .ok (.invokestatic 79, 3) := by decide +kernel
theorem dX11_isShelf_7 : decode cX11_isShelf 7 = .ok (.ireturn, 1) := by decide +kernel
theorem dX11_tideIndex_0 : decode cX11_tideIndex 0 = .ok (.iload_n 0, 1) := by decide +kernel
theorem dX11_tideIndex_1 : decode cX11_tideIndex 1 = .ok (.bipush 40, 2) := by decide +kernel
theorem dX11_tideIndex_3 : decode cX11_tideIndex 3 = .ok (.idiv, 1) := by decide +kernel
theorem dX11_tideIndex_4 : decode cX11_tideIndex 4 = .ok (.bipush 12, 2) := by decide +kernel
theorem dX11_tideIndex_6 : decode cX11_tideIndex 6 = .ok (.imul, 1) := by decide +kernel
theorem dX11_tideIndex_7 : decode cX11_tideIndex 7 = .ok (.iload_n 1, 1) := by decide +kernel
theorem dX11_tideIndex_8 : decode cX11_tideIndex 8 = .ok (.iconst 4, 1) := by decide +kernel
theorem dX11_tideIndex_9 : decode cX11_tideIndex 9 = .ok (.idiv, 1) := by decide +kernel
theorem dX11_tideIndex_10 : decode cX11_tideIndex 10 = .ok (.bipush 12, 2) := by decide +kernel
theorem dX11_tideIndex_12 : decode cX11_tideIndex 12 = .ok (.irem, 1) := by decide +kernel
theorem dX11_tideIndex_13 : decode cX11_tideIndex 13 = .ok (.iadd, 1) := by decide +kernel
theorem dX11_tideIndex_14 : decode cX11_tideIndex 14 = .ok (.ireturn, 1) := by decide +kernel
set_option maxRecDepth 20000 in
theorem ggX11_ofKind_X0_init : GoodIn wsX11_ofKind wsX0_init := goodIn_r _ [15, 16, 17, 12, 18, 19, 20, 21, 22, 23, 24, 25, 35, 36, 37, 38, 47, 48, 49, 50, 39, 40, 41, 42, 43, 44, 45, 46] (by decide +kernel) (by decide +kernel)
set_option maxRecDepth 20000 in
theorem gX11_ofKind_X0_init : GoodIn wsX11_ofKind (wsX0_init) := ggX11_ofKind_X0_init
set_option maxRecDepth 20000 in
theorem ggX11_ofKind_X4_init : GoodIn wsX11_ofKind wsX4_init := goodIn_r _ [28, 29, 17, 12, 18, 19, 20, 21, 22, 23, 24, 25, 35, 36, 37, 38, 47, 48, 49, 50, 39, 40, 41, 42, 43, 44, 45, 46] (by decide +kernel) (by decide +kernel)
set_option maxRecDepth 20000 in
theorem gX11_ofKind_X4_init : GoodIn wsX11_ofKind (wsX4_init) := ggX11_ofKind_X4_init
set_option maxRecDepth 20000 in
theorem ggX11_ofKind_X6_init : GoodIn wsX11_ofKind wsX6_init := goodIn_r _ [32, 33, 14, 3, 15, 16, 17, 12, 18, 19, 20, 21, 22, 23, 24, 25, 35, 36, 37, 38, 47, 48, 49, 50, 39, 40, 41, 42, 43, 44, 45, 46] (by decide +kernel) (by decide +kernel)
set_option maxRecDepth 20000 in
theorem gX11_ofKind_X6_init : GoodIn wsX11_ofKind (wsX6_init) := ggX11_ofKind_X6_init
set_option maxRecDepth 20000 in
theorem ggX11_ofKind_X3_init : GoodIn wsX11_ofKind wsX3_init := goodIn_r _ [18, 19, 20, 21, 22, 23, 24, 25, 35, 36, 37, 38, 47, 48, 49, 50, 39, 40, 41, 42, 43, 44, 45, 46] (by decide +kernel) (by decide +kernel)
set_option maxRecDepth 20000 in
theorem gX11_ofKind_X3_init : GoodIn wsX11_ofKind (wsX3_init) := ggX11_ofKind_X3_init
theorem dX11_ofKind_0 : decode cX11_ofKind 0 = .ok (.iload_n 0, 1) := by decide +kernel
theorem dX11_ofKind_1 : decode cX11_ofKind 1 = .ok (.tableswitch 60 1 3 #[27, 38, 49], 27) := by decide +kernel
theorem dX11_ofKind_28 : decode cX11_ofKind 28 = .ok (.new 261, 3) := by decide +kernel
theorem dX11_ofKind_31 : decode cX11_ofKind 31 = .ok (.dup, 1) := by decide +kernel
theorem dX11_ofKind_32 : decode cX11_ofKind 32 = .ok (.iload_n 1, 1) := by decide +kernel
theorem dX11_ofKind_33 : decode cX11_ofKind 33 = .ok (.iload_n 2, 1) := by decide +kernel
theorem dX11_ofKind_34 : decode cX11_ofKind 34 = .ok (.iload_n 3, 1) := by decide +kernel
theorem dX11_ofKind_35 : decode cX11_ofKind 35 = .ok (.invokespecial 263, 3) := by decide +kernel
theorem dX11_ofKind_38 : decode cX11_ofKind 38 = .ok (.areturn, 1) := by decide +kernel
theorem dX11_ofKind_39 : decode cX11_ofKind 39 = .ok (.new 266, 3) := by decide +kernel
theorem dX11_ofKind_42 : decode cX11_ofKind 42 = .ok (.dup, 1) := by decide +kernel
theorem dX11_ofKind_43 : decode cX11_ofKind 43 = .ok (.iload_n 1, 1) := by decide +kernel
theorem dX11_ofKind_44 : decode cX11_ofKind 44 = .ok (.iload_n 2, 1) := by decide +kernel
theorem dX11_ofKind_45 : decode cX11_ofKind 45 = .ok (.iload_n 3, 1) := by decide +kernel
theorem dX11_ofKind_46 : decode cX11_ofKind 46 = .ok (.invokespecial 268, 3) := by decide +kernel
theorem dX11_ofKind_49 : decode cX11_ofKind 49 = .ok (.areturn, 1) := by decide +kernel
theorem dX11_ofKind_50 : decode cX11_ofKind 50 = .ok (.new 269, 3) := by decide +kernel
theorem dX11_ofKind_53 : decode cX11_ofKind 53 = .ok (.dup, 1) := by decide +kernel
theorem dX11_ofKind_54 : decode cX11_ofKind 54 = .ok (.iload_n 1, 1) := by decide +kernel
theorem dX11_ofKind_55 : decode cX11_ofKind 55 = .ok (.iload_n 2, 1) := by decide +kernel
theorem dX11_ofKind_56 : decode cX11_ofKind 56 = .ok (.iload_n 3, 1) := by decide +kernel
theorem dX11_ofKind_57 : decode cX11_ofKind 57 = .ok (.invokespecial 271, 3) := by decide +kernel
theorem dX11_ofKind_60 : decode cX11_ofKind 60 = .ok (.areturn, 1) := by decide +kernel
theorem dX11_ofKind_61 : decode cX11_ofKind 61 = .ok (.new 16, 3) := by decide +kernel
theorem dX11_ofKind_64 : decode cX11_ofKind 64 = .ok (.dup, 1) := by decide +kernel
theorem dX11_ofKind_65 : decode cX11_ofKind 65 = .ok (.iload_n 1, 1) := by decide +kernel
theorem dX11_ofKind_66 : decode cX11_ofKind 66 = .ok (.iload_n 2, 1) := by decide +kernel
theorem dX11_ofKind_67 : decode cX11_ofKind 67 = .ok (.iload_n 3, 1) := by decide +kernel
theorem dX11_ofKind_68 : decode cX11_ofKind 68 = .ok (.invokespecial 272, 3) := by decide +kernel
theorem dX11_ofKind_71 : decode cX11_ofKind 71 = .ok (.areturn, 1) := by decide +kernel
set_option maxRecDepth 20000 in
theorem ggX11_twinOf_X0_kind : GoodIn wsX11_twinOf wsX0_kind := goodIn_r _ [11] (by decide +kernel) (by decide +kernel)
set_option maxRecDepth 20000 in
theorem gX11_twinOf_X0_kind_u273X0 : GoodIn wsX11_twinOf (va_wsO RX11 273 RX0 "StraitSwim$Plain" ⟨"StraitSwim$Plain", "kind", "()I"⟩ yX0_kind wsX0_kind) := goodIn_app (goodIn_of _ (by decide +kernel)) ggX11_twinOf_X0_kind
set_option maxRecDepth 20000 in
theorem ggX11_twinOf_X3_kind : GoodIn wsX11_twinOf wsX3_kind := goodIn_r _ [12] (by decide +kernel) (by decide +kernel)
set_option maxRecDepth 20000 in
theorem gX11_twinOf_X3_kind : GoodIn wsX11_twinOf (wsV RX11 273 RX3 yX3_kind wsX3_kind) := goodIn_app (goodIn_of _ (by decide +kernel)) ggX11_twinOf_X3_kind
set_option maxRecDepth 20000 in
theorem ggX11_twinOf_X4_kind : GoodIn wsX11_twinOf wsX4_kind := goodIn_r _ [20] (by decide +kernel) (by decide +kernel)
set_option maxRecDepth 20000 in
theorem gX11_twinOf_X4_kind_u273X4 : GoodIn wsX11_twinOf (va_wsO RX11 273 RX4 "StraitSwim$Plain" ⟨"StraitSwim$Plain", "kind", "()I"⟩ yX4_kind wsX4_kind) := goodIn_app (goodIn_of _ (by decide +kernel)) ggX11_twinOf_X4_kind
set_option maxRecDepth 20000 in
theorem ggX11_twinOf_X6_kind : GoodIn wsX11_twinOf wsX6_kind := goodIn_r _ [24] (by decide +kernel) (by decide +kernel)
set_option maxRecDepth 20000 in
theorem gX11_twinOf_X6_kind_u273X6 : GoodIn wsX11_twinOf (va_wsO RX11 273 RX6 "StraitSwim$Plain" ⟨"StraitSwim$Plain", "kind", "()I"⟩ yX6_kind wsX6_kind) := goodIn_app (goodIn_of _ (by decide +kernel)) ggX11_twinOf_X6_kind
set_option maxRecDepth 20000 in
theorem ggX11_twinOf_X11_ofKind : GoodIn wsX11_twinOf wsX11_ofKind := goodIn_r _ [28, 29, 30, 10, 31, 32, 19, 33, 34, 23, 35, 36, 16, 37, 38, 39, 40, 41, 42, 43, 44, 45, 46, 47, 48, 49, 50, 51, 52, 53, 54, 55, 56, 57, 58, 59, 60, 61, 62, 67, 68, 69, 70, 71, 72, 73, 74, 63, 64, 65, 66] (by decide +kernel) (by decide +kernel)
set_option maxRecDepth 20000 in
theorem gX11_twinOf_X11_ofKind : GoodIn wsX11_twinOf (va_wsS RX11 115 yX11_ofKind wsX11_ofKind) := goodIn_app (goodIn_of _ (by decide +kernel)) ggX11_twinOf_X11_ofKind
theorem dX11_twinOf_0 : decode cX11_twinOf 0 = .ok (.aload_n 0, 1) := by decide +kernel
theorem dX11_twinOf_1 : decode cX11_twinOf 1 = .ok (.invokevirtual 273, 3) := by decide +kernel
theorem dX11_twinOf_4 : decode cX11_twinOf 4 = .ok (.aload_n 0, 1) := by decide +kernel
theorem dX11_twinOf_5 : decode cX11_twinOf 5 = .ok (.getfield 275, 3) := by decide +kernel
theorem dX11_twinOf_8 : decode cX11_twinOf 8 = .ok (.aload_n 0, 1) := by decide +kernel
theorem dX11_twinOf_9 : decode cX11_twinOf 9 = .ok (.getfield 276, 3) := by decide +kernel
theorem dX11_twinOf_12 : decode cX11_twinOf 12 = .ok (.aload_n 0, 1) := by decide +kernel
theorem dX11_twinOf_13 : decode cX11_twinOf 13 = .ok (.getfield 279, 3) := by decide +kernel
theorem dX11_twinOf_16 : decode cX11_twinOf 16 = .ok (.invokestatic 115, 3) := by decide +kernel
theorem dX11_twinOf_19 : decode cX11_twinOf 19 = .ok (.astore_n 1, 1) := by decide +kernel
theorem dX11_twinOf_20 : decode cX11_twinOf 20 = .ok (.aload_n 1, 1) := by decide +kernel
theorem dX11_twinOf_21 : decode cX11_twinOf 21 = .ok (.aload_n 0, 1) := by decide +kernel
theorem dX11_twinOf_22 : decode cX11_twinOf 22 = .ok (.getfield 123, 3) := by decide +kernel
theorem dX11_twinOf_25 : decode cX11_twinOf 25 = .ok (.putfield 123, 3) := by decide +kernel
theorem dX11_twinOf_28 : decode cX11_twinOf 28 = .ok (.aload_n 1, 1) := by decide +kernel
theorem dX11_twinOf_29 : decode cX11_twinOf 29 = .ok (.areturn, 1) := by decide +kernel
set_option maxRecDepth 20000 in
theorem ggX11_failureOf_X0_fail : GoodIn wsX11_failureOf wsX0_fail := goodIn_ca (goodIn_r _ [9, 10, 11] (by decide +kernel) (by decide +kernel)) (goodIn_sub (fun _ h => List.mem_cons_of_mem _ (List.mem_append_left _ (List.mem_append_right _ h))) (by decide +kernel))
set_option maxRecDepth 20000 in
theorem gX11_failureOf_X0_fail_u282X0 : GoodIn wsX11_failureOf (va_wsO RX11 282 RX0 "StraitSwim$Plain" ⟨"StraitSwim$Plain", "fail", "()V"⟩ yX0_fail wsX0_fail) := goodIn_app (goodIn_of _ (by decide +kernel)) ggX11_failureOf_X0_fail
set_option maxRecDepth 20000 in
theorem ggX11_failureOf_X3_fail : GoodIn wsX11_failureOf wsX3_fail := goodIn_r _ [12] (by decide +kernel) (by decide +kernel)
set_option maxRecDepth 20000 in
theorem gX11_failureOf_X3_fail : GoodIn wsX11_failureOf (wsV RX11 282 RX3 yX3_fail wsX3_fail) := goodIn_app (goodIn_of _ (by decide +kernel)) ggX11_failureOf_X3_fail
set_option maxRecDepth 20000 in
theorem ggX11_failureOf_X4_fail : GoodIn wsX11_failureOf wsX4_fail := goodIn_ca (goodIn_r _ [20, 21, 11] (by decide +kernel) (by decide +kernel)) (goodIn_sub (fun _ h => List.mem_cons_of_mem _ (List.mem_append_right _ h)) (by decide +kernel))
set_option maxRecDepth 20000 in
theorem gX11_failureOf_X4_fail_u282X4 : GoodIn wsX11_failureOf (va_wsO RX11 282 RX4 "StraitSwim$Plain" ⟨"StraitSwim$Plain", "fail", "()V"⟩ yX4_fail wsX4_fail) := goodIn_app (goodIn_of _ (by decide +kernel)) ggX11_failureOf_X4_fail
set_option maxRecDepth 20000 in
theorem gX11_failureOf_X0_fail_u282X6 : GoodIn wsX11_failureOf (va_wsO RX11 282 RX6 "StraitSwim$Plain" ⟨"StraitSwim$Plain", "fail", "()V"⟩ yX0_fail wsX0_fail) := goodIn_app (goodIn_of _ (by decide +kernel)) ggX11_failureOf_X0_fail
theorem dX11_failureOf_0 : decode cX11_failureOf 0 = .ok (.aload_n 0, 1) := by decide +kernel
theorem dX11_failureOf_1 : decode cX11_failureOf 1 = .ok (.invokevirtual 282, 3) := by decide +kernel
theorem dX11_failureOf_4 : decode cX11_failureOf 4 = .ok (.goto 9, 3) := by decide +kernel
theorem dX11_failureOf_7 : decode cX11_failureOf 7 = .ok (.astore_n 1, 1) := by decide +kernel
theorem dX11_failureOf_8 : decode cX11_failureOf 8 = .ok (.aload_n 0, 1) := by decide +kernel
theorem dX11_failureOf_9 : decode cX11_failureOf 9 = .ok (.getfield 275, 3) := by decide +kernel
theorem dX11_failureOf_12 : decode cX11_failureOf 12 = .ok (.ireturn, 1) := by decide +kernel
theorem dX11_failureOf_13 : decode cX11_failureOf 13 = .ok (.bipush (-15), 2) := by decide +kernel
theorem dX11_failureOf_15 : decode cX11_failureOf 15 = .ok (.ireturn, 1) := by decide +kernel
set_option maxRecDepth 20000 in
theorem ggX11_known_X11_isWithin : GoodIn wsX11_known wsX11_isWithin := goodIn_r _ [6] (by decide +kernel) (by decide +kernel)
set_option maxRecDepth 20000 in
theorem gX11_known_X11_isWithin : GoodIn wsX11_known (va_wsS RX11 79 yX11_isWithin wsX11_isWithin) := goodIn_app (goodIn_of _ (by decide +kernel)) ggX11_known_X11_isWithin
theorem dX11_known_0 : decode cX11_known 0 = .ok (.iload_n 1, 1) := by decide +kernel
theorem dX11_known_1 : decode cX11_known 1 = .ok (.iconst 0, 1) := by decide +kernel
theorem dX11_known_2 : decode cX11_known 2 = .ok (.aload_n 0, 1) := by decide +kernel
theorem dX11_known_3 : decode cX11_known 3 = .ok (.getfield 22, 3) := by decide +kernel
theorem dX11_known_6 : decode cX11_known 6 = .ok (.iconst 1, 1) := by decide +kernel
theorem dX11_known_7 : decode cX11_known 7 = .ok (.isub, 1) := by decide +kernel
theorem dX11_known_8 : decode cX11_known 8 = .ok (.invokestatic 79, 3) := by decide +kernel
theorem dX11_known_11 : decode cX11_known 11 = .ok (.ifCond .eq 12, 3) := by decide +kernel
theorem dX11_known_14 : decode cX11_known 14 = .ok (.aload_n 0, 1) := by decide +kernel
theorem dX11_known_15 : decode cX11_known 15 = .ok (.getfield 18, 3) := by decide +kernel
theorem dX11_known_18 : decode cX11_known 18 = .ok (.iload_n 1, 1) := by decide +kernel
theorem dX11_known_19 : decode cX11_known 19 = .ok (.aaload, 1) := by decide +kernel
theorem dX11_known_20 : decode cX11_known 20 = .ok (.goto 4, 3) := by decide +kernel
theorem dX11_known_23 : decode cX11_known 23 = .ok (.aconst_null, 1) := by decide +kernel
theorem dX11_known_24 : decode cX11_known 24 = .ok (.areturn, 1) := by decide +kernel
set_option maxRecDepth 20000 in
theorem ggX11_firstNear_X7_isBy : GoodIn wsX11_firstNear wsX7_isBy := goodIn_r _ [10, 11, 12, 13, 14, 15, 16, 17, 18, 42, 43, 44, 45] (by decide +kernel) (by decide +kernel)
set_option maxRecDepth 20000 in
theorem gX11_firstNear_X7_isBy : GoodIn wsX11_firstNear (wsV RX11 285 RX7 yX7_isBy wsX7_isBy) := goodIn_app (goodIn_of _ (by decide +kernel)) ggX11_firstNear_X7_isBy
theorem dX11_firstNear_0 : decode cX11_firstNear 0 = .ok (.aload_n 1, 1) := by decide +kernel
theorem dX11_firstNear_1 : decode cX11_firstNear 1 = .ok (.ifnonnull 6, 3) := by decide +kernel
theorem dX11_firstNear_4 : decode cX11_firstNear 4 = .ok (.bipush (-4), 2) := by decide +kernel
theorem dX11_firstNear_6 : decode cX11_firstNear 6 = .ok (.ireturn, 1) := by decide +kernel
theorem dX11_firstNear_7 : decode cX11_firstNear 7 = .ok (.iconst 0, 1) := by decide +kernel
theorem dX11_firstNear_8 : decode cX11_firstNear 8 = .ok (.istore_n 2, 1) := by decide +kernel
theorem dX11_firstNear_9 : decode cX11_firstNear 9 = .ok (.iload_n 2, 1) := by decide +kernel
theorem dX11_firstNear_10 : decode cX11_firstNear 10 = .ok (.aload_n 0, 1) := by decide +kernel
theorem dX11_firstNear_11 : decode cX11_firstNear 11 = .ok (.getfield 35, 3) := by decide +kernel
theorem dX11_firstNear_14 : decode cX11_firstNear 14 = .ok (.getfield 148, 3) := by decide +kernel
theorem dX11_firstNear_17 : decode cX11_firstNear 17 = .ok (.if_icmp .ge 47, 3) := by decide +kernel
theorem dX11_firstNear_20 : decode cX11_firstNear 20 = .ok (.aload_n 1, 1) := by decide +kernel
theorem dX11_firstNear_21 : decode cX11_firstNear 21 = .ok (.aload_n 0, 1) := by decide +kernel
theorem dX11_firstNear_22 : decode cX11_firstNear 22 = .ok (.getfield 35, 3) := by decide +kernel
theorem dX11_firstNear_25 : decode cX11_firstNear 25 = .ok (.getfield 145, 3) := by decide +kernel
theorem dX11_firstNear_28 : decode cX11_firstNear 28 = .ok (.iload_n 2, 1) := by decide +kernel
theorem dX11_firstNear_29 : decode cX11_firstNear 29 = .ok (.iconst 1, 1) := by decide +kernel
theorem dX11_firstNear_30 : decode cX11_firstNear 30 = .ok (.iadd, 1) := by decide +kernel
theorem dX11_firstNear_31 : decode cX11_firstNear 31 = .ok (.iaload, 1) := by decide +kernel
theorem dX11_firstNear_32 : decode cX11_firstNear 32 = .ok (.aload_n 0, 1) := by decide +kernel
theorem dX11_firstNear_33 : decode cX11_firstNear 33 = .ok (.getfield 35, 3) := by decide +kernel
theorem dX11_firstNear_36 : decode cX11_firstNear 36 = .ok (.getfield 151, 3) := by decide +kernel
theorem dX11_firstNear_39 : decode cX11_firstNear 39 = .ok (.iload_n 2, 1) := by decide +kernel
theorem dX11_firstNear_40 : decode cX11_firstNear 40 = .ok (.iconst 1, 1) := by decide +kernel
theorem dX11_firstNear_41 : decode cX11_firstNear 41 = .ok (.iadd, 1) := by decide +kernel
theorem dX11_firstNear_42 : decode cX11_firstNear 42 = .ok (.iaload, 1) := by decide +kernel
theorem dX11_firstNear_43 : decode cX11_firstNear 43 = .ok (.iload_n 2, 1) := by decide +kernel
theorem dX11_firstNear_44 : decode cX11_firstNear 44 = .ok (.iconst 1, 1) := by decide +kernel
theorem dX11_firstNear_45 : decode cX11_firstNear 45 = .ok (.iadd, 1) := by decide +kernel
theorem dX11_firstNear_46 : decode cX11_firstNear 46 = .ok (.aload_n 0, 1) := by decide +kernel
theorem dX11_firstNear_47 : decode cX11_firstNear 47 = .ok (.getfield 29, 3) := by decide +kernel
theorem dX11_firstNear_50 : decode cX11_firstNear 50 = .ok (.invokevirtual 285, 3) := by decide +kernel
theorem dX11_firstNear_53 : decode cX11_firstNear 53 = .ok (.ifCond .eq 5, 3) := by decide +kernel
theorem dX11_firstNear_56 : decode cX11_firstNear 56 = .ok (.iload_n 2, 1) := by decide +kernel
theorem dX11_firstNear_57 : decode cX11_firstNear 57 = .ok (.ireturn, 1) := by decide +kernel
theorem dX11_firstNear_58 : decode cX11_firstNear 58 = .ok (.iinc 2 1, 3) := by decide +kernel
theorem dX11_firstNear_61 : decode cX11_firstNear 61 = .ok (.goto (-52), 3) := by decide +kernel
theorem dX11_firstNear_64 : decode cX11_firstNear 64 = .ok (.bipush (-4), 2) := by decide +kernel
theorem dX11_firstNear_66 : decode cX11_firstNear 66 = .ok (.ireturn, 1) := by decide +kernel
theorem dX11_stopsAt_0 : decode cX11_stopsAt 0 = .ok (.iconst 0, 1) := by decide +kernel
theorem dX11_stopsAt_1 : decode cX11_stopsAt 1 = .ok (.istore_n 3, 1) := by decide +kernel
theorem dX11_stopsAt_2 : decode cX11_stopsAt 2 = .ok (.iconst 0, 1) := by decide +kernel
theorem dX11_stopsAt_3 : decode cX11_stopsAt 3 = .ok (.istore 4, 2) := by decide +kernel
theorem dX11_stopsAt_5 : decode cX11_stopsAt 5 = .ok (.iload 4, 2) := by decide +kernel
theorem dX11_stopsAt_7 : decode cX11_stopsAt 7 = .ok (.aload_n 0, 1) := by decide +kernel
theorem dX11_stopsAt_8 : decode cX11_stopsAt 8 = .ok (.getfield 56, 3) := by decide +kernel
theorem dX11_stopsAt_11 : decode cX11_stopsAt 11 = .ok (.getfield 173, 3) := by decide +kernel
theorem dX11_stopsAt_14 : decode cX11_stopsAt 14 = .ok (.if_icmp .ge 39, 3) := by decide +kernel
theorem dX11_stopsAt_17 : decode cX11_stopsAt 17 = .ok (.aload_n 0, 1) := by decide +kernel
theorem dX11_stopsAt_18 : decode cX11_stopsAt 18 = .ok (.getfield 56, 3) := by decide +kernel
theorem dX11_stopsAt_21 : decode cX11_stopsAt 21 = .ok (.getfield 185, 3) := by decide +kernel
theorem dX11_stopsAt_24 : decode cX11_stopsAt 24 = .ok (.iload 4, 2) := by decide +kernel
theorem dX11_stopsAt_26 : decode cX11_stopsAt 26 = .ok (.iaload, 1) := by decide +kernel
theorem dX11_stopsAt_27 : decode cX11_stopsAt 27 = .ok (.iload_n 1, 1) := by decide +kernel
theorem dX11_stopsAt_28 : decode cX11_stopsAt 28 = .ok (.if_icmp .ge 9, 3) := by decide +kernel
theorem dX11_stopsAt_31 : decode cX11_stopsAt 31 = .ok (.iload_n 3, 1) := by decide +kernel
theorem dX11_stopsAt_32 : decode cX11_stopsAt 32 = .ok (.iconst 1, 1) := by decide +kernel
theorem dX11_stopsAt_33 : decode cX11_stopsAt 33 = .ok (.iadd, 1) := by decide +kernel
theorem dX11_stopsAt_34 : decode cX11_stopsAt 34 = .ok (.goto 4, 3) := by decide +kernel
theorem dX11_stopsAt_37 : decode cX11_stopsAt 37 = .ok (.iconst 0, 1) := by decide +kernel
theorem dX11_stopsAt_38 : decode cX11_stopsAt 38 = .ok (.istore_n 3, 1) := by decide +kernel
theorem dX11_stopsAt_39 : decode cX11_stopsAt 39 = .ok (.iload_n 3, 1) := by decide +kernel
theorem dX11_stopsAt_40 : decode cX11_stopsAt 40 = .ok (.iload_n 2, 1) := by decide +kernel
theorem dX11_stopsAt_41 : decode cX11_stopsAt 41 = .ok (.if_icmp .ne 6, 3) := by decide +kernel
theorem dX11_stopsAt_44 : decode cX11_stopsAt 44 = .ok (.iload 4, 2) := by decide +kernel
theorem dX11_stopsAt_46 : decode cX11_stopsAt 46 = .ok (.ireturn, 1) := by decide +kernel
theorem dX11_stopsAt_47 : decode cX11_stopsAt 47 = .ok (.iinc 4 1, 3) := by decide +kernel
theorem dX11_stopsAt_50 : decode cX11_stopsAt 50 = .ok (.goto (-45), 3) := by decide +kernel
theorem dX11_stopsAt_53 : decode cX11_stopsAt 53 = .ok (.bipush (-4), 2) := by decide +kernel
theorem dX11_stopsAt_55 : decode cX11_stopsAt 55 = .ok (.ireturn, 1) := by decide +kernel
theorem dX11_orderDigit_0 : decode cX11_orderDigit 0 = .ok (.iload_n 0, 1) := by decide +kernel
theorem dX11_orderDigit_1 : decode cX11_orderDigit 1 = .ok (.iconst 4, 1) := by decide +kernel
theorem dX11_orderDigit_2 : decode cX11_orderDigit 2 = .ok (.iload_n 1, 1) := by decide +kernel
theorem dX11_orderDigit_3 : decode cX11_orderDigit 3 = .ok (.imul, 1) := by decide +kernel
theorem dX11_orderDigit_4 : decode cX11_orderDigit 4 = .ok (.iushr, 1) := by decide +kernel
theorem dX11_orderDigit_5 : decode cX11_orderDigit 5 = .ok (.bipush 15, 2) := by decide +kernel
theorem dX11_orderDigit_7 : decode cX11_orderDigit 7 = .ok (.iand, 1) := by decide +kernel
theorem dX11_orderDigit_8 : decode cX11_orderDigit 8 = .ok (.ireturn, 1) := by decide +kernel
set_option maxRecDepth 20000 in
theorem ggX11_orderSize_X11_orderDigit : GoodIn wsX11_orderSize wsX11_orderDigit := goodIn_r _ [4] (by decide +kernel) (by decide +kernel)
set_option maxRecDepth 20000 in
theorem gX11_orderSize_X11_orderDigit : GoodIn wsX11_orderSize (va_wsS RX11 182 yX11_orderDigit wsX11_orderDigit) := goodIn_app (goodIn_of _ (by decide +kernel)) ggX11_orderSize_X11_orderDigit
set_option maxRecDepth 20000 in
theorem ggX11_orderSize_X11_known : GoodIn wsX11_orderSize wsX11_known := goodIn_r _ [8, 9, 10, 11, 12, 3, 13, 14, 15, 16, 17, 18, 19, 20, 21, 22, 23, 24, 25, 26, 27] (by decide +kernel) (by decide +kernel)
set_option maxRecDepth 20000 in
theorem gX11_orderSize_X11_known : GoodIn wsX11_orderSize (wsV RX11 119 RX11 yX11_known wsX11_known) := goodIn_app (goodIn_of _ (by decide +kernel)) ggX11_orderSize_X11_known
theorem dX11_orderSize_0 : decode cX11_orderSize 0 = .ok (.iconst 0, 1) := by decide +kernel
theorem dX11_orderSize_1 : decode cX11_orderSize 1 = .ok (.istore_n 2, 1) := by decide +kernel
theorem dX11_orderSize_2 : decode cX11_orderSize 2 = .ok (.iconst 0, 1) := by decide +kernel
theorem dX11_orderSize_3 : decode cX11_orderSize 3 = .ok (.istore_n 3, 1) := by decide +kernel
theorem dX11_orderSize_4 : decode cX11_orderSize 4 = .ok (.iload_n 3, 1) := by decide +kernel
theorem dX11_orderSize_5 : decode cX11_orderSize 5 = .ok (.bipush 6, 2) := by decide +kernel
theorem dX11_orderSize_7 : decode cX11_orderSize 7 = .ok (.if_icmp .ge 53, 3) := by decide +kernel
theorem dX11_orderSize_10 : decode cX11_orderSize 10 = .ok (.iload_n 1, 1) := by decide +kernel
theorem dX11_orderSize_11 : decode cX11_orderSize 11 = .ok (.iconst 4, 1) := by decide +kernel
theorem dX11_orderSize_12 : decode cX11_orderSize 12 = .ok (.iload_n 3, 1) := by decide +kernel
theorem dX11_orderSize_13 : decode cX11_orderSize 13 = .ok (.imul, 1) := by decide +kernel
theorem dX11_orderSize_14 : decode cX11_orderSize 14 = .ok (.iushr, 1) := by decide +kernel
theorem dX11_orderSize_15 : decode cX11_orderSize 15 = .ok (.ifCond .eq 45, 3) := by decide +kernel
theorem dX11_orderSize_18 : decode cX11_orderSize 18 = .ok (.iload_n 1, 1) := by decide +kernel
theorem dX11_orderSize_19 : decode cX11_orderSize 19 = .ok (.iload_n 3, 1) := by decide +kernel
theorem dX11_orderSize_20 : decode cX11_orderSize 20 = .ok (.invokestatic 182, 3) := by decide +kernel
theorem dX11_orderSize_23 : decode cX11_orderSize 23 = .ok (.iconst 1, 1) := by decide +kernel
theorem dX11_orderSize_24 : decode cX11_orderSize 24 = .ok (.isub, 1) := by decide +kernel
theorem dX11_orderSize_25 : decode cX11_orderSize 25 = .ok (.istore 4, 2) := by decide +kernel
theorem dX11_orderSize_27 : decode cX11_orderSize 27 = .ok (.aload_n 0, 1) := by decide +kernel
theorem dX11_orderSize_28 : decode cX11_orderSize 28 = .ok (.iload 4, 2) := by decide +kernel
theorem dX11_orderSize_30 : decode cX11_orderSize 30 = .ok (.invokevirtual 119, 3) := by decide +kernel
theorem dX11_orderSize_33 : decode cX11_orderSize 33 = .ok (.ifnull 12, 3) := by decide +kernel
theorem dX11_orderSize_36 : decode cX11_orderSize 36 = .ok (.iload_n 2, 1) := by decide +kernel
theorem dX11_orderSize_37 : decode cX11_orderSize 37 = .ok (.iload 4, 2) := by decide +kernel
theorem dX11_orderSize_39 : decode cX11_orderSize 39 = .ok (.ishr, 1) := by decide +kernel
theorem dX11_orderSize_40 : decode cX11_orderSize 40 = .ok (.iconst 1, 1) := by decide +kernel
theorem dX11_orderSize_41 : decode cX11_orderSize 41 = .ok (.iand, 1) := by decide +kernel
theorem dX11_orderSize_42 : decode cX11_orderSize 42 = .ok (.ifCond .eq 5, 3) := by decide +kernel
theorem dX11_orderSize_45 : decode cX11_orderSize 45 = .ok (.iconst (-1), 1) := by decide +kernel
theorem dX11_orderSize_46 : decode cX11_orderSize 46 = .ok (.ireturn, 1) := by decide +kernel
theorem dX11_orderSize_47 : decode cX11_orderSize 47 = .ok (.iload_n 2, 1) := by decide +kernel
theorem dX11_orderSize_48 : decode cX11_orderSize 48 = .ok (.iconst 1, 1) := by decide +kernel
theorem dX11_orderSize_49 : decode cX11_orderSize 49 = .ok (.iload 4, 2) := by decide +kernel
theorem dX11_orderSize_51 : decode cX11_orderSize 51 = .ok (.ishl, 1) := by decide +kernel
theorem dX11_orderSize_52 : decode cX11_orderSize 52 = .ok (.ior, 1) := by decide +kernel
theorem dX11_orderSize_53 : decode cX11_orderSize 53 = .ok (.istore_n 2, 1) := by decide +kernel
theorem dX11_orderSize_54 : decode cX11_orderSize 54 = .ok (.iinc 3 1, 3) := by decide +kernel
theorem dX11_orderSize_57 : decode cX11_orderSize 57 = .ok (.goto (-53), 3) := by decide +kernel
theorem dX11_orderSize_60 : decode cX11_orderSize 60 = .ok (.iload_n 1, 1) := by decide +kernel
theorem dX11_orderSize_61 : decode cX11_orderSize 61 = .ok (.bipush 24, 2) := by decide +kernel
theorem dX11_orderSize_63 : decode cX11_orderSize 63 = .ok (.iushr, 1) := by decide +kernel
theorem dX11_orderSize_64 : decode cX11_orderSize 64 = .ok (.ifCond .ne 7, 3) := by decide +kernel
theorem dX11_orderSize_67 : decode cX11_orderSize 67 = .ok (.iload_n 3, 1) := by decide +kernel
theorem dX11_orderSize_68 : decode cX11_orderSize 68 = .ok (.goto 4, 3) := by decide +kernel
theorem dX11_orderSize_71 : decode cX11_orderSize 71 = .ok (.iconst (-1), 1) := by decide +kernel
theorem dX11_orderSize_72 : decode cX11_orderSize 72 = .ok (.ireturn, 1) := by decide +kernel
set_option maxRecDepth 20000 in
theorem ggX11_rowOfLatest_X9_hasBeen : GoodIn wsX11_rowOfLatest wsX9_hasBeen := goodIn_r _ [13, 14, 38, 39, 40, 41, 42, 43, 44, 45, 46] (by decide +kernel) (by decide +kernel)
set_option maxRecDepth 20000 in
theorem gX11_rowOfLatest_X9_hasBeen : GoodIn wsX11_rowOfLatest (wsV RX11 141 RX9 yX9_hasBeen wsX9_hasBeen) := goodIn_app (goodIn_of _ (by decide +kernel)) ggX11_rowOfLatest_X9_hasBeen
set_option maxRecDepth 20000 in
theorem ggX11_rowOfLatest_X5_init : GoodIn wsX11_rowOfLatest wsX5_init := goodIn_r _ [17, 18, 19, 20, 21, 22, 23, 47, 48] (by decide +kernel) (by decide +kernel)
set_option maxRecDepth 20000 in
theorem gX11_rowOfLatest_X5_init : GoodIn wsX11_rowOfLatest (wsX5_init) := ggX11_rowOfLatest_X5_init
theorem dX11_rowOfLatest_0 : decode cX11_rowOfLatest 0 = .ok (.aload_n 0, 1) := by decide +kernel
theorem dX11_rowOfLatest_1 : decode cX11_rowOfLatest 1 = .ok (.getfield 35, 3) := by decide +kernel
theorem dX11_rowOfLatest_4 : decode cX11_rowOfLatest 4 = .ok (.invokevirtual 141, 3) := by decide +kernel
theorem dX11_rowOfLatest_7 : decode cX11_rowOfLatest 7 = .ok (.ifCond .eq 15, 3) := by decide +kernel
theorem dX11_rowOfLatest_10 : decode cX11_rowOfLatest 10 = .ok (.aload_n 0, 1) := by decide +kernel
theorem dX11_rowOfLatest_11 : decode cX11_rowOfLatest 11 = .ok (.getfield 35, 3) := by decide +kernel
theorem dX11_rowOfLatest_14 : decode cX11_rowOfLatest 14 = .ok (.getfield 148, 3) := by decide +kernel
theorem dX11_rowOfLatest_17 : decode cX11_rowOfLatest 17 = .ok (.iconst 1, 1) := by decide +kernel
theorem dX11_rowOfLatest_18 : decode cX11_rowOfLatest 18 = .ok (.iadd, 1) := by decide +kernel
theorem dX11_rowOfLatest_19 : decode cX11_rowOfLatest 19 = .ok (.goto 4, 3) := by decide +kernel
theorem dX11_rowOfLatest_22 : decode cX11_rowOfLatest 22 = .ok (.iconst 0, 1) := by decide +kernel
theorem dX11_rowOfLatest_23 : decode cX11_rowOfLatest 23 = .ok (.istore_n 1, 1) := by decide +kernel
theorem dX11_rowOfLatest_24 : decode cX11_rowOfLatest 24 = .ok (.new 226, 3) := by decide +kernel
theorem dX11_rowOfLatest_27 : decode cX11_rowOfLatest 27 = .ok (.dup, 1) := by decide +kernel
theorem dX11_rowOfLatest_28 : decode cX11_rowOfLatest 28 = .ok (.iconst 3, 1) := by decide +kernel
theorem dX11_rowOfLatest_29 : decode cX11_rowOfLatest 29 = .ok (.iconst 2, 1) := by decide +kernel
theorem dX11_rowOfLatest_30 : decode cX11_rowOfLatest 30 = .ok (.iload_n 1, 1) := by decide +kernel
theorem dX11_rowOfLatest_31 : decode cX11_rowOfLatest 31 = .ok (.imul, 1) := by decide +kernel
theorem dX11_rowOfLatest_32 : decode cX11_rowOfLatest 32 = .ok (.invokespecial 228, 3) := by decide +kernel
theorem dX11_rowOfLatest_35 : decode cX11_rowOfLatest 35 = .ok (.astore_n 2, 1) := by decide +kernel
theorem dX11_rowOfLatest_36 : decode cX11_rowOfLatest 36 = .ok (.iconst 0, 1) := by decide +kernel
theorem dX11_rowOfLatest_37 : decode cX11_rowOfLatest 37 = .ok (.istore_n 3, 1) := by decide +kernel
theorem dX11_rowOfLatest_38 : decode cX11_rowOfLatest 38 = .ok (.iload_n 3, 1) := by decide +kernel
theorem dX11_rowOfLatest_39 : decode cX11_rowOfLatest 39 = .ok (.iload_n 1, 1) := by decide +kernel
theorem dX11_rowOfLatest_40 : decode cX11_rowOfLatest 40 = .ok (.if_icmp .ge 47, 3) := by decide +kernel
theorem dX11_rowOfLatest_43 : decode cX11_rowOfLatest 43 = .ok (.aload_n 2, 1) := by decide +kernel
theorem dX11_rowOfLatest_44 : decode cX11_rowOfLatest 44 = .ok (.getfield 233, 3) := by decide +kernel
theorem dX11_rowOfLatest_47 : decode cX11_rowOfLatest 47 = .ok (.iconst 2, 1) := by decide +kernel
theorem dX11_rowOfLatest_48 : decode cX11_rowOfLatest 48 = .ok (.iload_n 3, 1) := by decide +kernel
theorem dX11_rowOfLatest_49 : decode cX11_rowOfLatest 49 = .ok (.imul, 1) := by decide +kernel
theorem dX11_rowOfLatest_50 : decode cX11_rowOfLatest 50 = .ok (.aload_n 0, 1) := by decide +kernel
theorem dX11_rowOfLatest_51 : decode cX11_rowOfLatest 51 = .ok (.getfield 35, 3) := by decide +kernel
theorem dX11_rowOfLatest_54 : decode cX11_rowOfLatest 54 = .ok (.getfield 145, 3) := by decide +kernel
theorem dX11_rowOfLatest_57 : decode cX11_rowOfLatest 57 = .ok (.iload_n 3, 1) := by decide +kernel
theorem dX11_rowOfLatest_58 : decode cX11_rowOfLatest 58 = .ok (.iaload, 1) := by decide +kernel
theorem dX11_rowOfLatest_59 : decode cX11_rowOfLatest 59 = .ok (.i2s, 1) := by decide +kernel
theorem dX11_rowOfLatest_60 : decode cX11_rowOfLatest 60 = .ok (.sastore, 1) := by decide +kernel
theorem dX11_rowOfLatest_61 : decode cX11_rowOfLatest 61 = .ok (.aload_n 2, 1) := by decide +kernel
theorem dX11_rowOfLatest_62 : decode cX11_rowOfLatest 62 = .ok (.getfield 233, 3) := by decide +kernel
theorem dX11_rowOfLatest_65 : decode cX11_rowOfLatest 65 = .ok (.iconst 2, 1) := by decide +kernel
theorem dX11_rowOfLatest_66 : decode cX11_rowOfLatest 66 = .ok (.iload_n 3, 1) := by decide +kernel
theorem dX11_rowOfLatest_67 : decode cX11_rowOfLatest 67 = .ok (.imul, 1) := by decide +kernel
theorem dX11_rowOfLatest_68 : decode cX11_rowOfLatest 68 = .ok (.iconst 1, 1) := by decide +kernel
theorem dX11_rowOfLatest_69 : decode cX11_rowOfLatest 69 = .ok (.iadd, 1) := by decide +kernel
theorem dX11_rowOfLatest_70 : decode cX11_rowOfLatest 70 = .ok (.aload_n 0, 1) := by decide +kernel
theorem dX11_rowOfLatest_71 : decode cX11_rowOfLatest 71 = .ok (.getfield 35, 3) := by decide +kernel
theorem dX11_rowOfLatest_74 : decode cX11_rowOfLatest 74 = .ok (.getfield 151, 3) := by decide +kernel
theorem dX11_rowOfLatest_77 : decode cX11_rowOfLatest 77 = .ok (.iload_n 3, 1) := by decide +kernel
theorem dX11_rowOfLatest_78 : decode cX11_rowOfLatest 78 = .ok (.iaload, 1) := by decide +kernel
theorem dX11_rowOfLatest_79 : decode cX11_rowOfLatest 79 = .ok (.i2s, 1) := by decide +kernel
theorem dX11_rowOfLatest_80 : decode cX11_rowOfLatest 80 = .ok (.sastore, 1) := by decide +kernel
theorem dX11_rowOfLatest_81 : decode cX11_rowOfLatest 81 = .ok (.iinc 3 1, 3) := by decide +kernel
theorem dX11_rowOfLatest_84 : decode cX11_rowOfLatest 84 = .ok (.goto (-46), 3) := by decide +kernel
theorem dX11_rowOfLatest_87 : decode cX11_rowOfLatest 87 = .ok (.aload_n 2, 1) := by decide +kernel
theorem dX11_rowOfLatest_88 : decode cX11_rowOfLatest 88 = .ok (.areturn, 1) := by decide +kernel
set_option maxRecDepth 20000 in
theorem ggX11_rowOfCounts_X5_init : GoodIn wsX11_rowOfCounts wsX5_init := goodIn_r _ [10, 11, 12, 13, 14, 15, 16, 17, 18] (by decide +kernel) (by decide +kernel)
set_option maxRecDepth 20000 in
theorem gX11_rowOfCounts_X5_init : GoodIn wsX11_rowOfCounts (wsX5_init) := ggX11_rowOfCounts_X5_init
theorem dX11_rowOfCounts_0 : decode cX11_rowOfCounts 0 = .ok (.new 226, 3) := by decide +kernel
theorem dX11_rowOfCounts_3 : decode cX11_rowOfCounts 3 = .ok (.dup, 1) := by decide +kernel
theorem dX11_rowOfCounts_4 : decode cX11_rowOfCounts 4 = .ok (.iconst 4, 1) := by decide +kernel
theorem dX11_rowOfCounts_5 : decode cX11_rowOfCounts 5 = .ok (.aload_n 0, 1) := by decide +kernel
theorem dX11_rowOfCounts_6 : decode cX11_rowOfCounts 6 = .ok (.getfield 56, 3) := by decide +kernel
theorem dX11_rowOfCounts_9 : decode cX11_rowOfCounts 9 = .ok (.getfield 173, 3) := by decide +kernel
theorem dX11_rowOfCounts_12 : decode cX11_rowOfCounts 12 = .ok (.invokespecial 228, 3) := by decide +kernel
theorem dX11_rowOfCounts_15 : decode cX11_rowOfCounts 15 = .ok (.astore_n 1, 1) := by decide +kernel
theorem dX11_rowOfCounts_16 : decode cX11_rowOfCounts 16 = .ok (.iconst 0, 1) := by decide +kernel
theorem dX11_rowOfCounts_17 : decode cX11_rowOfCounts 17 = .ok (.istore_n 2, 1) := by decide +kernel
theorem dX11_rowOfCounts_18 : decode cX11_rowOfCounts 18 = .ok (.iload_n 2, 1) := by decide +kernel
theorem dX11_rowOfCounts_19 : decode cX11_rowOfCounts 19 = .ok (.aload_n 0, 1) := by decide +kernel
theorem dX11_rowOfCounts_20 : decode cX11_rowOfCounts 20 = .ok (.getfield 56, 3) := by decide +kernel
theorem dX11_rowOfCounts_23 : decode cX11_rowOfCounts 23 = .ok (.getfield 173, 3) := by decide +kernel
theorem dX11_rowOfCounts_26 : decode cX11_rowOfCounts 26 = .ok (.if_icmp .ge 25, 3) := by decide +kernel
theorem dX11_rowOfCounts_29 : decode cX11_rowOfCounts 29 = .ok (.aload_n 1, 1) := by decide +kernel
theorem dX11_rowOfCounts_30 : decode cX11_rowOfCounts 30 = .ok (.getfield 233, 3) := by decide +kernel
theorem dX11_rowOfCounts_33 : decode cX11_rowOfCounts 33 = .ok (.iload_n 2, 1) := by decide +kernel
theorem dX11_rowOfCounts_34 : decode cX11_rowOfCounts 34 = .ok (.aload_n 0, 1) := by decide +kernel
theorem dX11_rowOfCounts_35 : decode cX11_rowOfCounts 35 = .ok (.getfield 56, 3) := by decide +kernel
theorem dX11_rowOfCounts_38 : decode cX11_rowOfCounts 38 = .ok (.getfield 185, 3) := by decide +kernel
theorem dX11_rowOfCounts_41 : decode cX11_rowOfCounts 41 = .ok (.iload_n 2, 1) := by decide +kernel
theorem dX11_rowOfCounts_42 : decode cX11_rowOfCounts 42 = .ok (.iaload, 1) := by decide +kernel
theorem dX11_rowOfCounts_43 : decode cX11_rowOfCounts 43 = .ok (.i2s, 1) := by decide +kernel
theorem dX11_rowOfCounts_44 : decode cX11_rowOfCounts 44 = .ok (.sastore, 1) := by decide +kernel
theorem dX11_rowOfCounts_45 : decode cX11_rowOfCounts 45 = .ok (.iinc 2 1, 3) := by decide +kernel
theorem dX11_rowOfCounts_48 : decode cX11_rowOfCounts 48 = .ok (.goto (-30), 3) := by decide +kernel
theorem dX11_rowOfCounts_51 : decode cX11_rowOfCounts 51 = .ok (.aload_n 1, 1) := by decide +kernel
theorem dX11_rowOfCounts_52 : decode cX11_rowOfCounts 52 = .ok (.areturn, 1) := by decide +kernel

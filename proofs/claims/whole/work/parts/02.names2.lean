theorem dX0_isHeardElsewhere_1 : decode cX0_isHeardElsewhere 1 = .ok (.istore_n 3, 1) := by decide +kernel
theorem dX0_isHeardElsewhere_2 : decode cX0_isHeardElsewhere 2 = .ok (.iload_n 3, 1) := by decide +kernel
theorem dX0_isHeardElsewhere_3 : decode cX0_isHeardElsewhere 3 = .ok (.aload_n 0, 1) := by decide +kernel
theorem dX0_isHeardElsewhere_4 : decode cX0_isHeardElsewhere 4 = .ok (.getfield 23, 3) := by decide +kernel
theorem dX0_isHeardElsewhere_7 : decode cX0_isHeardElsewhere 7 = .ok (.getfield 64, 3) := by decide +kernel
theorem dX0_isHeardElsewhere_10 : decode cX0_isHeardElsewhere 10 = .ok (.if_icmp .ge 51, 3) := by decide +kernel
theorem dX0_isHeardElsewhere_13 : decode cX0_isHeardElsewhere 13 = .ok (.aload_n 0, 1) := by decide +kernel
theorem dX0_isHeardElsewhere_14 : decode cX0_isHeardElsewhere 14 = .ok (.aload_n 0, 1) := by decide +kernel
theorem dX0_isHeardElsewhere_15 : decode cX0_isHeardElsewhere 15 = .ok (.getfield 23, 3) := by decide +kernel
theorem dX0_isHeardElsewhere_18 : decode cX0_isHeardElsewhere 18 = .ok (.iload_n 3, 1) := by decide +kernel
theorem dX0_isHeardElsewhere_19 : decode cX0_isHeardElsewhere 19 = .ok (.iconst 1, 1) := by decide +kernel
theorem dX0_isHeardElsewhere_20 : decode cX0_isHeardElsewhere 20 = .ok (.invokevirtual 41, 3) := by decide +kernel
theorem dX0_isHeardElsewhere_23 : decode cX0_isHeardElsewhere 23 = .ok (.aload_n 0, 1) := by decide +kernel
theorem dX0_isHeardElsewhere_24 : decode cX0_isHeardElsewhere 24 = .ok (.getfield 23, 3) := by decide +kernel
theorem dX0_isHeardElsewhere_27 : decode cX0_isHeardElsewhere 27 = .ok (.iload_n 3, 1) := by decide +kernel
theorem dX0_isHeardElsewhere_28 : decode cX0_isHeardElsewhere 28 = .ok (.iconst 0, 1) := by decide +kernel
theorem dX0_isHeardElsewhere_29 : decode cX0_isHeardElsewhere 29 = .ok (.invokevirtual 41, 3) := by decide +kernel
theorem dX0_isHeardElsewhere_32 : decode cX0_isHeardElsewhere 32 = .ok (.invokevirtual 50, 3) := by decide +kernel
theorem dX0_isHeardElsewhere_35 : decode cX0_isHeardElsewhere 35 = .ok (.istore 4, 2) := by decide +kernel
theorem dX0_isHeardElsewhere_37 : decode cX0_isHeardElsewhere 37 = .ok (.iload 4, 2) := by decide +kernel
theorem dX0_isHeardElsewhere_39 : decode cX0_isHeardElsewhere 39 = .ok (.iload_n 2, 1) := by decide +kernel
theorem dX0_isHeardElsewhere_40 : decode cX0_isHeardElsewhere 40 = .ok (.if_icmp .eq 15, 3) := by decide +kernel
theorem dX0_isHeardElsewhere_43 : decode cX0_isHeardElsewhere 43 = .ok (.aload_n 0, 1) := by decide +kernel
theorem dX0_isHeardElsewhere_44 : decode cX0_isHeardElsewhere 44 = .ok (.iload_n 3, 1) := by decide +kernel
theorem dX0_isHeardElsewhere_45 : decode cX0_isHeardElsewhere 45 = .ok (.iload_n 1, 1) := by decide +kernel
theorem dX0_isHeardElsewhere_46 : decode cX0_isHeardElsewhere 46 = .ok (.iconst 1, 1) := by decide +kernel
theorem dX0_isHeardElsewhere_47 : decode cX0_isHeardElsewhere 47 = .ok (.invokevirtual 75, 3) := by decide +kernel
theorem dX0_isHeardElsewhere_50 : decode cX0_isHeardElsewhere 50 = .ok (.ifCond .eq 5, 3) := by decide +kernel
theorem dX0_isHeardElsewhere_53 : decode cX0_isHeardElsewhere 53 = .ok (.iconst 1, 1) := by decide +kernel
theorem dX0_isHeardElsewhere_54 : decode cX0_isHeardElsewhere 54 = .ok (.ireturn, 1) := by decide +kernel
theorem dX0_isHeardElsewhere_55 : decode cX0_isHeardElsewhere 55 = .ok (.iinc 3 1, 3) := by decide +kernel
theorem dX0_isHeardElsewhere_58 : decode cX0_isHeardElsewhere 58 = .ok (.goto (-56), 3) := by decide +kernel
theorem dX0_isHeardElsewhere_61 : decode cX0_isHeardElsewhere 61 = .ok (.iconst 0, 1) := by decide +kernel
theorem dX0_isHeardElsewhere_62 : decode cX0_isHeardElsewhere 62 = .ok (.ireturn, 1) := by decide +kernel
set_option maxRecDepth 20000 in
theorem ggX0_hoursLogged_X2_number : GoodIn wsX0_hoursLogged wsX2_number := goodIn_r _ [7, 8, 9, 10, 11, 6, 12, 13, 14, 15, 16, 35, 36, 37] (by decide +kernel) (by decide +kernel)
set_option maxRecDepth 20000 in
theorem gX0_hoursLogged_X2_number : GoodIn wsX0_hoursLogged (wsV RX0 41 RX2 yX2_number wsX2_number) := goodIn_app (goodIn_of _ (by decide +kernel)) ggX0_hoursLogged_X2_number
set_option maxRecDepth 20000 in
theorem ggX0_hoursLogged_X0_isLogged : GoodIn wsX0_hoursLogged wsX0_isLogged := goodIn_r _ [21, 1, 3, 4, 5, 6, 7, 8, 9, 10, 11, 12, 13, 14, 15, 16, 31, 32, 33, 34, 35, 36, 37] (by decide +kernel) (by decide +kernel)
set_option maxRecDepth 20000 in
theorem gX0_hoursLogged_X0_isLogged : GoodIn wsX0_hoursLogged (wsV RX0 75 RX0 yX0_isLogged wsX0_isLogged) := goodIn_app (goodIn_of _ (by decide +kernel)) ggX0_hoursLogged_X0_isLogged
set_option maxRecDepth 20000 in
theorem ggX0_hoursLogged_X0_placeSeen : GoodIn wsX0_hoursLogged wsX0_placeSeen := goodIn_r _ [25, 26, 3, 4, 5, 6, 7, 8, 9, 10, 11, 12, 13, 14, 15, 16, 27, 28, 29, 30, 31, 32, 33, 34, 35, 36, 37] (by decide +kernel) (by decide +kernel)
set_option maxRecDepth 20000 in
theorem gX0_hoursLogged_X0_placeSeen : GoodIn wsX0_hoursLogged (wsV RX0 50 RX0 yX0_placeSeen wsX0_placeSeen) := goodIn_app (goodIn_of _ (by decide +kernel)) ggX0_hoursLogged_X0_placeSeen
theorem dX0_hoursLogged_0 : decode cX0_hoursLogged 0 = .ok (.iconst 0, 1) := by decide +kernel
theorem dX0_hoursLogged_1 : decode cX0_hoursLogged 1 = .ok (.istore 4, 2) := by decide +kernel
theorem dX0_hoursLogged_3 : decode cX0_hoursLogged 3 = .ok (.iconst 0, 1) := by decide +kernel
theorem dX0_hoursLogged_4 : decode cX0_hoursLogged 4 = .ok (.istore 5, 2) := by decide +kernel
theorem dX0_hoursLogged_6 : decode cX0_hoursLogged 6 = .ok (.iload 5, 2) := by decide +kernel
theorem dX0_hoursLogged_8 : decode cX0_hoursLogged 8 = .ok (.aload_n 0, 1) := by decide +kernel
theorem dX0_hoursLogged_9 : decode cX0_hoursLogged 9 = .ok (.getfield 23, 3) := by decide +kernel
theorem dX0_hoursLogged_12 : decode cX0_hoursLogged 12 = .ok (.getfield 64, 3) := by decide +kernel
theorem dX0_hoursLogged_15 : decode cX0_hoursLogged 15 = .ok (.if_icmp .ge 61, 3) := by decide +kernel
theorem dX0_hoursLogged_18 : decode cX0_hoursLogged 18 = .ok (.aload_n 0, 1) := by decide +kernel
theorem dX0_hoursLogged_19 : decode cX0_hoursLogged 19 = .ok (.getfield 23, 3) := by decide +kernel
theorem dX0_hoursLogged_22 : decode cX0_hoursLogged 22 = .ok (.iload 5, 2) := by decide +kernel
theorem dX0_hoursLogged_24 : decode cX0_hoursLogged 24 = .ok (.iconst 0, 1) := by decide +kernel
theorem dX0_hoursLogged_25 : decode cX0_hoursLogged 25 = .ok (.invokevirtual 41, 3) := by decide +kernel
theorem dX0_hoursLogged_28 : decode cX0_hoursLogged 28 = .ok (.istore 6, 2) := by decide +kernel
theorem dX0_hoursLogged_30 : decode cX0_hoursLogged 30 = .ok (.aload_n 0, 1) := by decide +kernel
theorem dX0_hoursLogged_31 : decode cX0_hoursLogged 31 = .ok (.iload 5, 2) := by decide +kernel
theorem dX0_hoursLogged_33 : decode cX0_hoursLogged 33 = .ok (.iload_n 1, 1) := by decide +kernel
theorem dX0_hoursLogged_34 : decode cX0_hoursLogged 34 = .ok (.iload_n 3, 1) := by decide +kernel
theorem dX0_hoursLogged_35 : decode cX0_hoursLogged 35 = .ok (.invokevirtual 75, 3) := by decide +kernel
theorem dX0_hoursLogged_38 : decode cX0_hoursLogged 38 = .ok (.ifCond .eq 32, 3) := by decide +kernel
theorem dX0_hoursLogged_41 : decode cX0_hoursLogged 41 = .ok (.aload_n 0, 1) := by decide +kernel
theorem dX0_hoursLogged_42 : decode cX0_hoursLogged 42 = .ok (.aload_n 0, 1) := by decide +kernel
theorem dX0_hoursLogged_43 : decode cX0_hoursLogged 43 = .ok (.getfield 23, 3) := by decide +kernel
theorem dX0_hoursLogged_46 : decode cX0_hoursLogged 46 = .ok (.iload 5, 2) := by decide +kernel
theorem dX0_hoursLogged_48 : decode cX0_hoursLogged 48 = .ok (.iconst 1, 1) := by decide +kernel
theorem dX0_hoursLogged_49 : decode cX0_hoursLogged 49 = .ok (.invokevirtual 41, 3) := by decide +kernel
theorem dX0_hoursLogged_52 : decode cX0_hoursLogged 52 = .ok (.iload 6, 2) := by decide +kernel
theorem dX0_hoursLogged_54 : decode cX0_hoursLogged 54 = .ok (.invokevirtual 50, 3) := by decide +kernel
theorem dX0_hoursLogged_57 : decode cX0_hoursLogged 57 = .ok (.iload_n 2, 1) := by decide +kernel
theorem dX0_hoursLogged_58 : decode cX0_hoursLogged 58 = .ok (.if_icmp .ne 12, 3) := by decide +kernel
theorem dX0_hoursLogged_61 : decode cX0_hoursLogged 61 = .ok (.iload 4, 2) := by decide +kernel
theorem dX0_hoursLogged_63 : decode cX0_hoursLogged 63 = .ok (.iconst 1, 1) := by decide +kernel
theorem dX0_hoursLogged_64 : decode cX0_hoursLogged 64 = .ok (.iload 6, 2) := by decide +kernel
theorem dX0_hoursLogged_66 : decode cX0_hoursLogged 66 = .ok (.ishl, 1) := by decide +kernel
theorem dX0_hoursLogged_67 : decode cX0_hoursLogged 67 = .ok (.ior, 1) := by decide +kernel
theorem dX0_hoursLogged_68 : decode cX0_hoursLogged 68 = .ok (.istore 4, 2) := by decide +kernel
theorem dX0_hoursLogged_70 : decode cX0_hoursLogged 70 = .ok (.iinc 5 1, 3) := by decide +kernel
theorem dX0_hoursLogged_73 : decode cX0_hoursLogged 73 = .ok (.goto (-67), 3) := by decide +kernel
theorem dX0_hoursLogged_76 : decode cX0_hoursLogged 76 = .ok (.iload 4, 2) := by decide +kernel
theorem dX0_hoursLogged_78 : decode cX0_hoursLogged 78 = .ok (.ireturn, 1) := by decide +kernel
set_option maxRecDepth 20000 in
theorem ggX0_fitsLaw_X2_number : GoodIn wsX0_fitsLaw wsX2_number := goodIn_r _ [7, 8, 9, 10, 11, 6, 12, 13, 14, 15, 16, 30, 31, 32] (by decide +kernel) (by decide +kernel)
set_option maxRecDepth 20000 in
theorem gX0_fitsLaw_X2_number : GoodIn wsX0_fitsLaw (wsV RX0 41 RX2 yX2_number wsX2_number) := goodIn_app (goodIn_of _ (by decide +kernel)) ggX0_fitsLaw_X2_number
set_option maxRecDepth 20000 in
theorem ggX0_fitsLaw_X4_isLawful : GoodIn wsX0_fitsLaw wsX4_isLawful := goodIn_r _ [20] (by decide +kernel) (by decide +kernel)
set_option maxRecDepth 20000 in
theorem gX0_fitsLaw_X4_isLawful : GoodIn wsX0_fitsLaw (va_wsS RX0 79 yX4_isLawful wsX4_isLawful) := goodIn_app (goodIn_of _ (by decide +kernel)) ggX0_fitsLaw_X4_isLawful
set_option maxRecDepth 20000 in
theorem ggX0_fitsLaw_X0_isLogged : GoodIn wsX0_fitsLaw wsX0_isLogged := goodIn_r _ [25, 1, 3, 4, 5, 6, 7, 8, 9, 10, 11, 12, 13, 14, 15, 16, 26, 27, 28, 29, 30, 31, 32] (by decide +kernel) (by decide +kernel)
set_option maxRecDepth 20000 in
theorem gX0_fitsLaw_X0_isLogged : GoodIn wsX0_fitsLaw (wsV RX0 75 RX0 yX0_isLogged wsX0_isLogged) := goodIn_app (goodIn_of _ (by decide +kernel)) ggX0_fitsLaw_X0_isLogged
theorem dX0_fitsLaw_0 : decode cX0_fitsLaw 0 = .ok (.iconst 0, 1) := by decide +kernel
theorem dX0_fitsLaw_1 : decode cX0_fitsLaw 1 = .ok (.istore 4, 2) := by decide +kernel
theorem dX0_fitsLaw_3 : decode cX0_fitsLaw 3 = .ok (.iload 4, 2) := by decide +kernel
theorem dX0_fitsLaw_5 : decode cX0_fitsLaw 5 = .ok (.aload_n 0, 1) := by decide +kernel
theorem dX0_fitsLaw_6 : decode cX0_fitsLaw 6 = .ok (.getfield 23, 3) := by decide +kernel
theorem dX0_fitsLaw_9 : decode cX0_fitsLaw 9 = .ok (.getfield 64, 3) := by decide +kernel
theorem dX0_fitsLaw_12 : decode cX0_fitsLaw 12 = .ok (.if_icmp .ge 48, 3) := by decide +kernel
theorem dX0_fitsLaw_15 : decode cX0_fitsLaw 15 = .ok (.aload_n 0, 1) := by decide +kernel
theorem dX0_fitsLaw_16 : decode cX0_fitsLaw 16 = .ok (.getfield 23, 3) := by decide +kernel
theorem dX0_fitsLaw_19 : decode cX0_fitsLaw 19 = .ok (.iload 4, 2) := by decide +kernel
theorem dX0_fitsLaw_21 : decode cX0_fitsLaw 21 = .ok (.iconst 0, 1) := by decide +kernel
theorem dX0_fitsLaw_22 : decode cX0_fitsLaw 22 = .ok (.invokevirtual 41, 3) := by decide +kernel
theorem dX0_fitsLaw_25 : decode cX0_fitsLaw 25 = .ok (.iload_n 2, 1) := by decide +kernel
theorem dX0_fitsLaw_26 : decode cX0_fitsLaw 26 = .ok (.iload_n 3, 1) := by decide +kernel
theorem dX0_fitsLaw_27 : decode cX0_fitsLaw 27 = .ok (.invokestatic 79, 3) := by decide +kernel
theorem dX0_fitsLaw_30 : decode cX0_fitsLaw 30 = .ok (.istore 5, 2) := by decide +kernel
theorem dX0_fitsLaw_32 : decode cX0_fitsLaw 32 = .ok (.aload_n 0, 1) := by decide +kernel
theorem dX0_fitsLaw_33 : decode cX0_fitsLaw 33 = .ok (.iload 4, 2) := by decide +kernel
theorem dX0_fitsLaw_35 : decode cX0_fitsLaw 35 = .ok (.iload_n 1, 1) := by decide +kernel
theorem dX0_fitsLaw_36 : decode cX0_fitsLaw 36 = .ok (.iload 5, 2) := by decide +kernel
theorem dX0_fitsLaw_38 : decode cX0_fitsLaw 38 = .ok (.ifCond .eq 7, 3) := by decide +kernel
theorem dX0_fitsLaw_41 : decode cX0_fitsLaw 41 = .ok (.iconst 0, 1) := by decide +kernel
theorem dX0_fitsLaw_42 : decode cX0_fitsLaw 42 = .ok (.goto 4, 3) := by decide +kernel
theorem dX0_fitsLaw_45 : decode cX0_fitsLaw 45 = .ok (.iconst 1, 1) := by decide +kernel
theorem dX0_fitsLaw_46 : decode cX0_fitsLaw 46 = .ok (.invokevirtual 75, 3) := by decide +kernel
theorem dX0_fitsLaw_49 : decode cX0_fitsLaw 49 = .ok (.ifCond .eq 5, 3) := by decide +kernel
theorem dX0_fitsLaw_52 : decode cX0_fitsLaw 52 = .ok (.iconst 0, 1) := by decide +kernel
theorem dX0_fitsLaw_53 : decode cX0_fitsLaw 53 = .ok (.ireturn, 1) := by decide +kernel
theorem dX0_fitsLaw_54 : decode cX0_fitsLaw 54 = .ok (.iinc 4 1, 3) := by decide +kernel
theorem dX0_fitsLaw_57 : decode cX0_fitsLaw 57 = .ok (.goto (-54), 3) := by decide +kernel
theorem dX0_fitsLaw_60 : decode cX0_fitsLaw 60 = .ok (.iconst 1, 1) := by decide +kernel
theorem dX0_fitsLaw_61 : decode cX0_fitsLaw 61 = .ok (.ireturn, 1) := by decide +kernel
set_option maxRecDepth 20000 in
theorem ggX0_spansThatFit_X0_isHeardElsewhere : GoodIn wsX0_spansThatFit wsX0_isHeardElsewhere := goodIn_r _ [5, 6, 7, 8, 9, 10, 11, 12, 13, 14, 15, 16, 17, 18, 19, 20, 21, 22, 23, 24, 4, 25, 26, 27, 28, 29, 30, 31, 32, 33, 34, 39, 40, 41, 42, 43, 44, 45] (by decide +kernel) (by decide +kernel)
set_option maxRecDepth 20000 in
theorem gX0_spansThatFit_X0_isHeardElsewhere : GoodIn wsX0_spansThatFit (wsV RX0 82 RX0 yX0_isHeardElsewhere wsX0_isHeardElsewhere) := goodIn_app (goodIn_of _ (by decide +kernel)) ggX0_spansThatFit_X0_isHeardElsewhere
set_option maxRecDepth 20000 in
theorem ggX0_spansThatFit_X0_hoursLogged : GoodIn wsX0_spansThatFit wsX0_hoursLogged := goodIn_r _ [38, 6, 7, 8, 9, 10, 11, 12, 13, 14, 15, 16, 17, 18, 19, 20, 21, 31, 32, 33, 4, 34, 22, 23, 24, 25, 26, 27, 28, 29, 30, 39, 40, 41, 42, 43, 44, 45] (by decide +kernel) (by decide +kernel)
set_option maxRecDepth 20000 in
theorem gX0_spansThatFit_X0_hoursLogged : GoodIn wsX0_spansThatFit (wsV RX0 86 RX0 yX0_hoursLogged wsX0_hoursLogged) := goodIn_app (goodIn_of _ (by decide +kernel)) ggX0_spansThatFit_X0_hoursLogged
theorem dX0_spansThatFit_0 : decode cX0_spansThatFit 0 = .ok (.aload_n 0, 1) := by decide +kernel
theorem dX0_spansThatFit_1 : decode cX0_spansThatFit 1 = .ok (.iload_n 1, 1) := by decide +kernel
theorem dX0_spansThatFit_2 : decode cX0_spansThatFit 2 = .ok (.iload_n 2, 1) := by decide +kernel
theorem dX0_spansThatFit_3 : decode cX0_spansThatFit 3 = .ok (.invokevirtual 82, 3) := by decide +kernel
theorem dX0_spansThatFit_6 : decode cX0_spansThatFit 6 = .ok (.ifCond .eq 5, 3) := by decide +kernel
theorem dX0_spansThatFit_9 : decode cX0_spansThatFit 9 = .ok (.iconst 0, 1) := by decide +kernel
theorem dX0_spansThatFit_10 : decode cX0_spansThatFit 10 = .ok (.ireturn, 1) := by decide +kernel
theorem dX0_spansThatFit_11 : decode cX0_spansThatFit 11 = .ok (.aload_n 0, 1) := by decide +kernel
theorem dX0_spansThatFit_12 : decode cX0_spansThatFit 12 = .ok (.iload_n 1, 1) := by decide +kernel
theorem dX0_spansThatFit_13 : decode cX0_spansThatFit 13 = .ok (.iload_n 2, 1) := by decide +kernel
theorem dX0_spansThatFit_14 : decode cX0_spansThatFit 14 = .ok (.iconst 1, 1) := by decide +kernel
theorem dX0_spansThatFit_15 : decode cX0_spansThatFit 15 = .ok (.invokevirtual 86, 3) := by decide +kernel
theorem dX0_spansThatFit_18 : decode cX0_spansThatFit 18 = .ok (.iload_n 3, 1) := by decide +kernel
theorem dX0_spansThatFit_19 : decode cX0_spansThatFit 19 = .ok (.ior, 1) := by decide +kernel
theorem dX0_spansThatFit_20 : decode cX0_spansThatFit 20 = .ok (.istore 4, 2) := by decide +kernel
theorem dX0_spansThatFit_22 : decode cX0_spansThatFit 22 = .ok (.aload_n 0, 1) := by decide +kernel
theorem dX0_spansThatFit_23 : decode cX0_spansThatFit 23 = .ok (.iload_n 1, 1) := by decide +kernel
theorem dX0_spansThatFit_24 : decode cX0_spansThatFit 24 = .ok (.iload_n 2, 1) := by decide +kernel
theorem dX0_spansThatFit_25 : decode cX0_spansThatFit 25 = .ok (.iconst 0, 1) := by decide +kernel
theorem dX0_spansThatFit_26 : decode cX0_spansThatFit 26 = .ok (.invokevirtual 86, 3) := by decide +kernel
theorem dX0_spansThatFit_29 : decode cX0_spansThatFit 29 = .ok (.istore 5, 2) := by decide +kernel
theorem dX0_spansThatFit_31 : decode cX0_spansThatFit 31 = .ok (.iconst 0, 1) := by decide +kernel
theorem dX0_spansThatFit_32 : decode cX0_spansThatFit 32 = .ok (.istore 6, 2) := by decide +kernel
theorem dX0_spansThatFit_34 : decode cX0_spansThatFit 34 = .ok (.iconst 0, 1) := by decide +kernel
theorem dX0_spansThatFit_35 : decode cX0_spansThatFit 35 = .ok (.istore 7, 2) := by decide +kernel
theorem dX0_spansThatFit_37 : decode cX0_spansThatFit 37 = .ok (.iload 7, 2) := by decide +kernel
theorem dX0_spansThatFit_39 : decode cX0_spansThatFit 39 = .ok (.bipush 24, 2) := by decide +kernel
theorem dX0_spansThatFit_41 : decode cX0_spansThatFit 41 = .ok (.if_icmp .ge 59, 3) := by decide +kernel
theorem dX0_spansThatFit_44 : decode cX0_spansThatFit 44 = .ok (.iconst 0, 1) := by decide +kernel
theorem dX0_spansThatFit_45 : decode cX0_spansThatFit 45 = .ok (.istore 8, 2) := by decide +kernel
theorem dX0_spansThatFit_47 : decode cX0_spansThatFit 47 = .ok (.iload 7, 2) := by decide +kernel
theorem dX0_spansThatFit_49 : decode cX0_spansThatFit 49 = .ok (.istore 9, 2) := by decide +kernel
theorem dX0_spansThatFit_51 : decode cX0_spansThatFit 51 = .ok (.iload 9, 2) := by decide +kernel
theorem dX0_spansThatFit_53 : decode cX0_spansThatFit 53 = .ok (.bipush 24, 2) := by decide +kernel
theorem dX0_spansThatFit_55 : decode cX0_spansThatFit 55 = .ok (.if_icmp .ge 39, 3) := by decide +kernel
theorem dX0_spansThatFit_58 : decode cX0_spansThatFit 58 = .ok (.iload 8, 2) := by decide +kernel
theorem dX0_spansThatFit_60 : decode cX0_spansThatFit 60 = .ok (.iconst 1, 1) := by decide +kernel
theorem dX0_spansThatFit_61 : decode cX0_spansThatFit 61 = .ok (.iload 9, 2) := by decide +kernel
theorem dX0_spansThatFit_63 : decode cX0_spansThatFit 63 = .ok (.ishl, 1) := by decide +kernel
theorem dX0_spansThatFit_64 : decode cX0_spansThatFit 64 = .ok (.ior, 1) := by decide +kernel
theorem dX0_spansThatFit_65 : decode cX0_spansThatFit 65 = .ok (.istore 8, 2) := by decide +kernel
theorem dX0_spansThatFit_67 : decode cX0_spansThatFit 67 = .ok (.iload 8, 2) := by decide +kernel
theorem dX0_spansThatFit_69 : decode cX0_spansThatFit 69 = .ok (.iload 4, 2) := by decide +kernel
theorem dX0_spansThatFit_71 : decode cX0_spansThatFit 71 = .ok (.iand, 1) := by decide +kernel
theorem dX0_spansThatFit_72 : decode cX0_spansThatFit 72 = .ok (.iload 4, 2) := by decide +kernel
theorem dX0_spansThatFit_74 : decode cX0_spansThatFit 74 = .ok (.if_icmp .ne 14, 3) := by decide +kernel
theorem dX0_spansThatFit_77 : decode cX0_spansThatFit 77 = .ok (.iload 8, 2) := by decide +kernel
theorem dX0_spansThatFit_79 : decode cX0_spansThatFit 79 = .ok (.iload 5, 2) := by decide +kernel
theorem dX0_spansThatFit_81 : decode cX0_spansThatFit 81 = .ok (.iand, 1) := by decide +kernel
theorem dX0_spansThatFit_82 : decode cX0_spansThatFit 82 = .ok (.ifCond .ne 6, 3) := by decide +kernel
theorem dX0_spansThatFit_85 : decode cX0_spansThatFit 85 = .ok (.iinc 6 1, 3) := by decide +kernel
theorem dX0_spansThatFit_88 : decode cX0_spansThatFit 88 = .ok (.iinc 9 1, 3) := by decide +kernel
theorem dX0_spansThatFit_91 : decode cX0_spansThatFit 91 = .ok (.goto (-40), 3) := by decide +kernel
theorem dX0_spansThatFit_94 : decode cX0_spansThatFit 94 = .ok (.iinc 7 1, 3) := by decide +kernel
theorem dX0_spansThatFit_97 : decode cX0_spansThatFit 97 = .ok (.goto (-60), 3) := by decide +kernel
theorem dX0_spansThatFit_100 : decode cX0_spansThatFit 100 = .ok (.iload 6, 2) := by decide +kernel
theorem dX0_spansThatFit_102 : decode cX0_spansThatFit 102 = .ok (.ireturn, 1) := by decide +kernel
theorem dX1_init_0 : decode cX1_init 0 = .ok (.aload_n 0, 1) := by decide +kernel
theorem dX1_init_1 : decode cX1_init 1 = .ok (.invokespecial 3, 3) := by decide +kernel
theorem dX1_init_4 : decode cX1_init 4 = .ok (.aload_n 0, 1) := by decide +kernel
theorem dX1_init_5 : decode cX1_init 5 = .ok (.iconst 4, 1) := by decide +kernel
theorem dX1_init_6 : decode cX1_init 6 = .ok (.newarray .int, 2) := by decide +kernel
theorem dX1_init_8 : decode cX1_init 8 = .ok (.putfield 11, 3) := by decide +kernel
theorem dX1_init_11 : decode cX1_init 11 = .ok (.return_, 1) := by decide +kernel
set_option maxRecDepth 20000 in
theorem ggX1_readItems_X3_rewind : GoodIn wsX1_readItems wsX3_rewind := goodIn_r _ [7, 8, 148, 149, 150, 151, 152, 153] (by decide +kernel) (by decide +kernel)
set_option maxRecDepth 20000 in
theorem gX1_readItems_X3_rewind : GoodIn wsX1_readItems (wsV RX1 17 RX3 yX3_rewind wsX3_rewind) := goodIn_app (goodIn_of _ (by decide +kernel)) ggX1_readItems_X3_rewind
set_option maxRecDepth 20000 in
theorem ggX1_readItems_X4_empty : GoodIn wsX1_readItems wsX4_empty := goodIn_r _ [13, 14, 15, 16, 17, 18, 19, 20, 21, 22, 23, 154, 155, 156, 157, 158, 159, 160] (by decide +kernel) (by decide +kernel)
set_option maxRecDepth 20000 in
theorem gX1_readItems_X4_empty : GoodIn wsX1_readItems (wsV RX1 22 RX4 yX4_empty wsX4_empty) := goodIn_app (goodIn_of _ (by decide +kernel)) ggX1_readItems_X4_empty
set_option maxRecDepth 20000 in
theorem ggX1_readItems_X3_readToken : GoodIn wsX1_readItems wsX3_readToken := goodIn_r _ [27, 8, 28, 29, 30, 31, 32, 33, 34, 35, 36, 37, 6, 38, 39, 40, 41, 42, 43, 44, 45, 46, 47, 48, 49, 50, 51, 52, 53, 54, 55, 56, 57, 58, 59, 60, 61, 62, 63, 64, 65, 66, 67, 68, 69, 70, 71, 72, 73, 74, 75, 76, 77, 78, 79, 80, 81, 82, 83, 84, 85, 86, 87, 88, 89, 90, 91, 92, 93, 94, 95, 96, 97, 98, 99, 100, 101, 102, 103, 104, 105, 106, 107, 108, 148, 149, 150, 151, 152, 153] (by decide +kernel) (by decide +kernel)
set_option maxRecDepth 20000 in
theorem gX1_readItems_X3_readToken : GoodIn wsX1_readItems (wsV RX1 27 RX3 yX3_readToken wsX3_readToken) := goodIn_app (goodIn_of _ (by decide +kernel)) ggX1_readItems_X3_readToken
set_option maxRecDepth 20000 in
theorem ggX1_readItems_X1_readItem : GoodIn wsX1_readItems wsX1_readItem := goodIn_r _ [113, 1, 114, 115, 116, 117, 118, 119, 12, 120, 14, 15, 16, 17, 121, 122, 123, 21, 124, 23, 125, 32, 33, 34, 24, 25, 26, 6, 27, 8, 28, 29, 30, 31, 35, 36, 37, 38, 39, 40, 41, 42, 43, 44, 45, 46, 47, 48, 49, 50, 51, 52, 53, 54, 55, 56, 57, 58, 59, 60, 61, 62, 63, 64, 65, 66, 67, 68, 69, 70, 71, 72, 73, 74, 75, 76, 77, 78, 79, 80, 81, 82, 83, 84, 85, 86, 87, 88, 89, 90, 91, 92, 93, 94, 95, 96, 97, 98, 99, 100, 101, 102, 103, 104, 105, 106, 107, 108, 126, 127, 128, 112, 129, 130, 131, 132, 133, 134, 135, 136, 137, 138, 139, 140, 141, 142, 143, 144, 145, 146, 147, 148, 149, 150, 151, 152, 153, 161, 154, 155, 156, 157, 158, 159, 160] (by decide +kernel) (by decide +kernel)
set_option maxRecDepth 20000 in
theorem gX1_readItems_X1_readItem : GoodIn wsX1_readItems (wsV RX1 34 RX1 yX1_readItem wsX1_readItem) := goodIn_app (goodIn_of _ (by decide +kernel)) ggX1_readItems_X1_readItem
theorem dX1_readItems_0 : decode cX1_readItems 0 = .ok (.aload_n 1, 1) := by decide +kernel
theorem dX1_readItems_1 : decode cX1_readItems 1 = .ok (.ifnull 7, 3) := by decide +kernel
theorem dX1_readItems_4 : decode cX1_readItems 4 = .ok (.aload_n 2, 1) := by decide +kernel
theorem dX1_readItems_5 : decode cX1_readItems 5 = .ok (.ifnonnull 6, 3) := by decide +kernel
theorem dX1_readItems_8 : decode cX1_readItems 8 = .ok (.bipush (-10), 2) := by decide +kernel
theorem dX1_readItems_10 : decode cX1_readItems 10 = .ok (.ireturn, 1) := by decide +kernel
theorem dX1_readItems_11 : decode cX1_readItems 11 = .ok (.aload_n 1, 1) := by decide +kernel
theorem dX1_readItems_12 : decode cX1_readItems 12 = .ok (.invokevirtual 17, 3) := by decide +kernel
theorem dX1_readItems_15 : decode cX1_readItems 15 = .ok (.aload_n 2, 1) := by decide +kernel
theorem dX1_readItems_16 : decode cX1_readItems 16 = .ok (.invokevirtual 22, 3) := by decide +kernel
theorem dX1_readItems_19 : decode cX1_readItems 19 = .ok (.iconst 0, 1) := by decide +kernel
theorem dX1_readItems_20 : decode cX1_readItems 20 = .ok (.istore_n 3, 1) := by decide +kernel
theorem dX1_readItems_21 : decode cX1_readItems 21 = .ok (.aload_n 1, 1) := by decide +kernel
theorem dX1_readItems_22 : decode cX1_readItems 22 = .ok (.invokevirtual 27, 3) := by decide +kernel
theorem dX1_readItems_25 : decode cX1_readItems 25 = .ok (.iload_n 3, 1) := by decide +kernel
theorem dX1_readItems_26 : decode cX1_readItems 26 = .ok (.sipush 250, 3) := by decide +kernel
theorem dX1_readItems_29 : decode cX1_readItems 29 = .ok (.if_icmp .ge 39, 3) := by decide +kernel
theorem dX1_readItems_32 : decode cX1_readItems 32 = .ok (.aload_n 1, 1) := by decide +kernel
theorem dX1_readItems_33 : decode cX1_readItems 33 = .ok (.getfield 30, 3) := by decide +kernel
theorem dX1_readItems_36 : decode cX1_readItems 36 = .ok (.bipush 6, 2) := by decide +kernel
theorem dX1_readItems_38 : decode cX1_readItems 38 = .ok (.if_icmp .eq 30, 3) := by decide +kernel
theorem dX1_readItems_41 : decode cX1_readItems 41 = .ok (.aload_n 0, 1) := by decide +kernel
theorem dX1_readItems_42 : decode cX1_readItems 42 = .ok (.aload_n 1, 1) := by decide +kernel
theorem dX1_readItems_43 : decode cX1_readItems 43 = .ok (.aload_n 2, 1) := by decide +kernel
theorem dX1_readItems_44 : decode cX1_readItems 44 = .ok (.invokevirtual 34, 3) := by decide +kernel
theorem dX1_readItems_47 : decode cX1_readItems 47 = .ok (.ifCond .ne 11, 3) := by decide +kernel
theorem dX1_readItems_50 : decode cX1_readItems 50 = .ok (.bipush (-10), 2) := by decide +kernel
theorem dX1_readItems_52 : decode cX1_readItems 52 = .ok (.aload_n 1, 1) := by decide +kernel
theorem dX1_readItems_53 : decode cX1_readItems 53 = .ok (.getfield 38, 3) := by decide +kernel
theorem dX1_readItems_56 : decode cX1_readItems 56 = .ok (.isub, 1) := by decide +kernel
theorem dX1_readItems_57 : decode cX1_readItems 57 = .ok (.ireturn, 1) := by decide +kernel
theorem dX1_readItems_58 : decode cX1_readItems 58 = .ok (.iinc 3 1, 3) := by decide +kernel
theorem dX1_readItems_61 : decode cX1_readItems 61 = .ok (.aload_n 1, 1) := by decide +kernel
theorem dX1_readItems_62 : decode cX1_readItems 62 = .ok (.invokevirtual 27, 3) := by decide +kernel
theorem dX1_readItems_65 : decode cX1_readItems 65 = .ok (.goto (-40), 3) := by decide +kernel
theorem dX1_readItems_68 : decode cX1_readItems 68 = .ok (.iload_n 3, 1) := by decide +kernel
theorem dX1_readItems_69 : decode cX1_readItems 69 = .ok (.ireturn, 1) := by decide +kernel
set_option maxRecDepth 20000 in
theorem ggX1_readItem_X4_rowsOf : GoodIn wsX1_readItem wsX4_rowsOf := goodIn_r _ [9, 10, 11, 12, 13, 138, 139, 140, 141] (by decide +kernel) (by decide +kernel)
set_option maxRecDepth 20000 in
theorem gX1_readItem_X4_rowsOf : GoodIn wsX1_readItem (wsV RX1 41 RX4 yX4_rowsOf wsX4_rowsOf) := goodIn_app (goodIn_of _ (by decide +kernel)) ggX1_readItem_X4_rowsOf
set_option maxRecDepth 20000 in
theorem ggX1_readItem_X2_isFull : GoodIn wsX1_readItem wsX2_isFull := goodIn_r _ [18, 19, 20, 142, 143, 144] (by decide +kernel) (by decide +kernel)
set_option maxRecDepth 20000 in
theorem gX1_readItem_X2_isFull : GoodIn wsX1_readItem (wsV RX1 45 RX2 yX2_isFull wsX2_isFull) := goodIn_app (goodIn_of _ (by decide +kernel)) ggX1_readItem_X2_isFull
set_option maxRecDepth 20000 in
theorem ggX1_readItem_X5_at : GoodIn wsX1_readItem wsX5_at := goodIn_r _ [23] (by decide +kernel) (by decide +kernel)
set_option maxRecDepth 20000 in
theorem gX1_readItem_X5_at_n52 : GoodIn wsX1_readItem (wsX5_at) := ggX1_readItem_X5_at
set_option maxRecDepth 20000 in
theorem ggX1_readItem_X3_readToken : GoodIn wsX1_readItem wsX3_readToken := goodIn_r _ [28, 29, 30, 31, 32, 33, 21, 22, 23, 34, 35, 36, 27, 37, 38, 39, 40, 41, 42, 43, 44, 45, 46, 47, 48, 49, 50, 51, 52, 53, 54, 55, 56, 57, 58, 59, 60, 61, 62, 63, 64, 65, 66, 67, 68, 69, 70, 71, 72, 73, 74, 75, 76, 77, 78, 79, 80, 81, 82, 83, 84, 85, 86, 87, 88, 89, 90, 91, 92, 93, 94, 95, 96, 97, 98, 99, 100, 101, 102, 103, 104, 105, 106, 107, 131, 132, 133, 134, 135, 136] (by decide +kernel) (by decide +kernel)
set_option maxRecDepth 20000 in
theorem gX1_readItem_X3_readToken : GoodIn wsX1_readItem (wsV RX1 27 RX3 yX3_readToken wsX3_readToken) := goodIn_app (goodIn_of _ (by decide +kernel)) ggX1_readItem_X3_readToken
set_option maxRecDepth 20000 in
theorem ggX1_readItem_X1_mayBe : GoodIn wsX1_readItem wsX1_mayBe := goodIn_r _ [112, 113, 114, 4, 21, 22, 23, 137] (by decide +kernel) (by decide +kernel)
set_option maxRecDepth 20000 in
theorem gX1_readItem_X1_mayBe : GoodIn wsX1_readItem (wsV RX1 59 RX1 yX1_mayBe wsX1_mayBe) := goodIn_app (goodIn_of _ (by decide +kernel)) ggX1_readItem_X1_mayBe
set_option maxRecDepth 20000 in
theorem ggX1_readItem_X5_put : GoodIn wsX1_readItem wsX5_put := goodIn_r _ [116] (by decide +kernel) (by decide +kernel)
set_option maxRecDepth 20000 in
theorem gX1_readItem_X5_put_n63 : GoodIn wsX1_readItem (wsX5_put) := ggX1_readItem_X5_put
set_option maxRecDepth 20000 in
theorem ggX1_readItem_X2_add : GoodIn wsX1_readItem wsX2_add := goodIn_r _ [120, 19, 121, 15, 16, 17, 18, 20, 122, 123, 124, 125, 126, 127, 128, 129, 130, 115, 22, 116, 142, 143, 144] (by decide +kernel) (by decide +kernel)
set_option maxRecDepth 20000 in
theorem gX1_readItem_X2_add : GoodIn wsX1_readItem (wsV RX1 67 RX2 yX2_add wsX2_add) := goodIn_app (goodIn_of _ (by decide +kernel)) ggX1_readItem_X2_add
theorem dX1_readItem_0 : decode cX1_readItem 0 = .ok (.aload_n 1, 1) := by decide +kernel
theorem dX1_readItem_1 : decode cX1_readItem 1 = .ok (.ifnull 15, 3) := by decide +kernel
theorem dX1_readItem_4 : decode cX1_readItem 4 = .ok (.aload_n 2, 1) := by decide +kernel
theorem dX1_readItem_5 : decode cX1_readItem 5 = .ok (.ifnull 11, 3) := by decide +kernel
theorem dX1_readItem_8 : decode cX1_readItem 8 = .ok (.aload_n 1, 1) := by decide +kernel
theorem dX1_readItem_9 : decode cX1_readItem 9 = .ok (.getfield 30, 3) := by decide +kernel
theorem dX1_readItem_12 : decode cX1_readItem 12 = .ok (.iconst 3, 1) := by decide +kernel
theorem dX1_readItem_13 : decode cX1_readItem 13 = .ok (.if_icmp .le 5, 3) := by decide +kernel
theorem dX1_readItem_16 : decode cX1_readItem 16 = .ok (.iconst 0, 1) := by decide +kernel
theorem dX1_readItem_17 : decode cX1_readItem 17 = .ok (.ireturn, 1) := by decide +kernel
theorem dX1_readItem_18 : decode cX1_readItem 18 = .ok (.aload_n 1, 1) := by decide +kernel
theorem dX1_readItem_19 : decode cX1_readItem 19 = .ok (.getfield 30, 3) := by decide +kernel
theorem dX1_readItem_22 : decode cX1_readItem 22 = .ok (.istore_n 3, 1) := by decide +kernel
theorem dX1_readItem_23 : decode cX1_readItem 23 = .ok (.aload_n 2, 1) := by decide +kernel
theorem dX1_readItem_24 : decode cX1_readItem 24 = .ok (.iload_n 3, 1) := by decide +kernel
theorem dX1_readItem_25 : decode cX1_readItem 25 = .ok (.invokevirtual 41, 3) := by decide +kernel
theorem dX1_readItem_28 : decode cX1_readItem 28 = .ok (.astore 4, 2) := by decide +kernel
theorem dX1_readItem_30 : decode cX1_readItem 30 = .ok (.aload 4, 2) := by decide +kernel
theorem dX1_readItem_32 : decode cX1_readItem 32 = .ok (.ifnull 11, 3) := by decide +kernel
theorem dX1_readItem_35 : decode cX1_readItem 35 = .ok (.aload 4, 2) := by decide +kernel
theorem dX1_readItem_37 : decode cX1_readItem 37 = .ok (.invokevirtual 45, 3) := by decide +kernel
theorem dX1_readItem_40 : decode cX1_readItem 40 = .ok (.ifCond .eq 5, 3) := by decide +kernel
theorem dX1_readItem_43 : decode cX1_readItem 43 = .ok (.iconst 0, 1) := by decide +kernel
theorem dX1_readItem_44 : decode cX1_readItem 44 = .ok (.ireturn, 1) := by decide +kernel
theorem dX1_readItem_45 : decode cX1_readItem 45 = .ok (.iconst 0, 1) := by decide +kernel
theorem dX1_readItem_46 : decode cX1_readItem 46 = .ok (.istore 5, 2) := by decide +kernel
theorem dX1_readItem_48 : decode cX1_readItem 48 = .ok (.iload 5, 2) := by decide +kernel
theorem dX1_readItem_50 : decode cX1_readItem 50 = .ok (.getstatic 49, 3) := by decide +kernel
theorem dX1_readItem_53 : decode cX1_readItem 53 = .ok (.iload_n 3, 1) := by decide +kernel
theorem dX1_readItem_54 : decode cX1_readItem 54 = .ok (.invokestatic 52, 3) := by decide +kernel
theorem dX1_readItem_57 : decode cX1_readItem 57 = .ok (.if_icmp .ge 50, 3) := by decide +kernel
theorem dX1_readItem_60 : decode cX1_readItem 60 = .ok (.aload_n 1, 1) := by decide +kernel
theorem dX1_readItem_61 : decode cX1_readItem 61 = .ok (.invokevirtual 27, 3) := by decide +kernel
theorem dX1_readItem_64 : decode cX1_readItem 64 = .ok (.aload_n 1, 1) := by decide +kernel
theorem dX1_readItem_65 : decode cX1_readItem 65 = .ok (.getfield 30, 3) := by decide +kernel
theorem dX1_readItem_68 : decode cX1_readItem 68 = .ok (.iconst 4, 1) := by decide +kernel
theorem dX1_readItem_69 : decode cX1_readItem 69 = .ok (.if_icmp .ne 17, 3) := by decide +kernel
theorem dX1_readItem_72 : decode cX1_readItem 72 = .ok (.aload_n 0, 1) := by decide +kernel
theorem dX1_readItem_73 : decode cX1_readItem 73 = .ok (.iload_n 3, 1) := by decide +kernel
theorem dX1_readItem_74 : decode cX1_readItem 74 = .ok (.iload 5, 2) := by decide +kernel
theorem dX1_readItem_76 : decode cX1_readItem 76 = .ok (.aload_n 1, 1) := by decide +kernel
theorem dX1_readItem_77 : decode cX1_readItem 77 = .ok (.getfield 56, 3) := by decide +kernel
theorem dX1_readItem_80 : decode cX1_readItem 80 = .ok (.invokevirtual 59, 3) := by decide +kernel
theorem dX1_readItem_83 : decode cX1_readItem 83 = .ok (.ifCond .ne 5, 3) := by decide +kernel
theorem dX1_readItem_86 : decode cX1_readItem 86 = .ok (.iconst 0, 1) := by decide +kernel
theorem dX1_readItem_87 : decode cX1_readItem 87 = .ok (.ireturn, 1) := by decide +kernel
theorem dX1_readItem_88 : decode cX1_readItem 88 = .ok (.aload_n 0, 1) := by decide +kernel
theorem dX1_readItem_89 : decode cX1_readItem 89 = .ok (.getfield 11, 3) := by decide +kernel
theorem dX1_readItem_92 : decode cX1_readItem 92 = .ok (.iload 5, 2) := by decide +kernel
theorem dX1_readItem_94 : decode cX1_readItem 94 = .ok (.aload_n 1, 1) := by decide +kernel
theorem dX1_readItem_95 : decode cX1_readItem 95 = .ok (.getfield 56, 3) := by decide +kernel
theorem dX1_readItem_98 : decode cX1_readItem 98 = .ok (.invokestatic 63, 3) := by decide +kernel
theorem dX1_readItem_101 : decode cX1_readItem 101 = .ok (.iinc 5 1, 3) := by decide +kernel
theorem dX1_readItem_104 : decode cX1_readItem 104 = .ok (.goto (-56), 3) := by decide +kernel
theorem dX1_readItem_107 : decode cX1_readItem 107 = .ok (.aload 4, 2) := by decide +kernel
theorem dX1_readItem_109 : decode cX1_readItem 109 = .ok (.aload_n 0, 1) := by decide +kernel
theorem dX1_readItem_110 : decode cX1_readItem 110 = .ok (.getfield 11, 3) := by decide +kernel
theorem dX1_readItem_113 : decode cX1_readItem 113 = .ok (.iconst 0, 1) := by decide +kernel
theorem dX1_readItem_114 : decode cX1_readItem 114 = .ok (.invokestatic 52, 3) := by decide +kernel
theorem dX1_readItem_117 : decode cX1_readItem 117 = .ok (.aload_n 0, 1) := by decide +kernel
theorem dX1_readItem_118 : decode cX1_readItem 118 = .ok (.getfield 11, 3) := by decide +kernel
theorem dX1_readItem_121 : decode cX1_readItem 121 = .ok (.iconst 1, 1) := by decide +kernel
theorem dX1_readItem_122 : decode cX1_readItem 122 = .ok (.invokestatic 52, 3) := by decide +kernel
theorem dX1_readItem_125 : decode cX1_readItem 125 = .ok (.aload_n 0, 1) := by decide +kernel
theorem dX1_readItem_126 : decode cX1_readItem 126 = .ok (.getfield 11, 3) := by decide +kernel
theorem dX1_readItem_129 : decode cX1_readItem 129 = .ok (.iconst 2, 1) := by decide +kernel
theorem dX1_readItem_130 : decode cX1_readItem 130 = .ok (.invokestatic 52, 3) := by decide +kernel
theorem dX1_readItem_133 : decode cX1_readItem 133 = .ok (.aload_n 0, 1) := by decide +kernel
theorem dX1_readItem_134 : decode cX1_readItem 134 = .ok (.getfield 11, 3) := by decide +kernel
theorem dX1_readItem_137 : decode cX1_readItem 137 = .ok (.iconst 3, 1) := by decide +kernel
theorem dX1_readItem_138 : decode cX1_readItem 138 = .ok (.invokestatic 52, 3) := by decide +kernel
theorem dX1_readItem_141 : decode cX1_readItem 141 = .ok (.invokevirtual 67, 3) := by decide +kernel
theorem dX1_readItem_144 : decode cX1_readItem 144 = .ok (.aload_n 1, 1) := by decide +kernel
theorem dX1_readItem_145 : decode cX1_readItem 145 = .ok (.invokevirtual 27, 3) := by decide +kernel
theorem dX1_readItem_148 : decode cX1_readItem 148 = .ok (.aload_n 1, 1) := by decide +kernel
theorem dX1_readItem_149 : decode cX1_readItem 149 = .ok (.getfield 30, 3) := by decide +kernel
theorem dX1_readItem_152 : decode cX1_readItem 152 = .ok (.iconst 5, 1) := by decide +kernel
theorem dX1_readItem_153 : decode cX1_readItem 153 = .ok (.if_icmp .ne 7, 3) := by decide +kernel
theorem dX1_readItem_156 : decode cX1_readItem 156 = .ok (.iconst 1, 1) := by decide +kernel
theorem dX1_readItem_157 : decode cX1_readItem 157 = .ok (.goto 4, 3) := by decide +kernel
theorem dX1_readItem_160 : decode cX1_readItem 160 = .ok (.iconst 0, 1) := by decide +kernel
theorem dX1_readItem_161 : decode cX1_readItem 161 = .ok (.ireturn, 1) := by decide +kernel
set_option maxRecDepth 20000 in
theorem ggX1_mayBe_X5_at : GoodIn wsX1_mayBe wsX5_at := goodIn_r _ [6] (by decide +kernel) (by decide +kernel)
set_option maxRecDepth 20000 in
theorem gX1_mayBe_X5_at_n52 : GoodIn wsX1_mayBe (wsX5_at) := ggX1_mayBe_X5_at
theorem dX1_mayBe_0 : decode cX1_mayBe 0 = .ok (.getstatic 71, 3) := by decide +kernel
theorem dX1_mayBe_3 : decode cX1_mayBe 3 = .ok (.iload_n 1, 1) := by decide +kernel
theorem dX1_mayBe_4 : decode cX1_mayBe 4 = .ok (.iconst 4, 1) := by decide +kernel
theorem dX1_mayBe_5 : decode cX1_mayBe 5 = .ok (.imul, 1) := by decide +kernel
theorem dX1_mayBe_6 : decode cX1_mayBe 6 = .ok (.iload_n 2, 1) := by decide +kernel
theorem dX1_mayBe_7 : decode cX1_mayBe 7 = .ok (.iadd, 1) := by decide +kernel
theorem dX1_mayBe_8 : decode cX1_mayBe 8 = .ok (.invokestatic 52, 3) := by decide +kernel
theorem dX1_mayBe_11 : decode cX1_mayBe 11 = .ok (.istore 4, 2) := by decide +kernel
theorem dX1_mayBe_13 : decode cX1_mayBe 13 = .ok (.getstatic 74, 3) := by decide +kernel
theorem dX1_mayBe_16 : decode cX1_mayBe 16 = .ok (.iload_n 1, 1) := by decide +kernel
theorem dX1_mayBe_17 : decode cX1_mayBe 17 = .ok (.iconst 4, 1) := by decide +kernel
theorem dX1_mayBe_18 : decode cX1_mayBe 18 = .ok (.imul, 1) := by decide +kernel
theorem dX1_mayBe_19 : decode cX1_mayBe 19 = .ok (.iload_n 2, 1) := by decide +kernel
theorem dX1_mayBe_20 : decode cX1_mayBe 20 = .ok (.iadd, 1) := by decide +kernel
theorem dX1_mayBe_21 : decode cX1_mayBe 21 = .ok (.invokestatic 52, 3) := by decide +kernel
theorem dX1_mayBe_24 : decode cX1_mayBe 24 = .ok (.istore 5, 2) := by decide +kernel
theorem dX1_mayBe_26 : decode cX1_mayBe 26 = .ok (.iload_n 1, 1) := by decide +kernel
theorem dX1_mayBe_27 : decode cX1_mayBe 27 = .ok (.iconst 1, 1) := by decide +kernel
theorem dX1_mayBe_28 : decode cX1_mayBe 28 = .ok (.if_icmp .ne 18, 3) := by decide +kernel
theorem dX1_mayBe_31 : decode cX1_mayBe 31 = .ok (.iload_n 2, 1) := by decide +kernel
theorem dX1_mayBe_32 : decode cX1_mayBe 32 = .ok (.iconst 3, 1) := by decide +kernel
theorem dX1_mayBe_33 : decode cX1_mayBe 33 = .ok (.if_icmp .ne 13, 3) := by decide +kernel
theorem dX1_mayBe_36 : decode cX1_mayBe 36 = .ok (.aload_n 0, 1) := by decide +kernel
theorem dX1_mayBe_37 : decode cX1_mayBe 37 = .ok (.getfield 11, 3) := by decide +kernel
theorem dX1_mayBe_40 : decode cX1_mayBe 40 = .ok (.iconst 2, 1) := by decide +kernel
theorem dX1_mayBe_41 : decode cX1_mayBe 41 = .ok (.invokestatic 52, 3) := by decide +kernel
theorem dX1_mayBe_44 : decode cX1_mayBe 44 = .ok (.istore 4, 2) := by decide +kernel
theorem dX1_mayBe_46 : decode cX1_mayBe 46 = .ok (.iload_n 1, 1) := by decide +kernel
theorem dX1_mayBe_47 : decode cX1_mayBe 47 = .ok (.iconst 2, 1) := by decide +kernel
theorem dX1_mayBe_48 : decode cX1_mayBe 48 = .ok (.if_icmp .ne 20, 3) := by decide +kernel
theorem dX1_mayBe_51 : decode cX1_mayBe 51 = .ok (.iload_n 2, 1) := by decide +kernel
theorem dX1_mayBe_52 : decode cX1_mayBe 52 = .ok (.iconst 2, 1) := by decide +kernel
theorem dX1_mayBe_53 : decode cX1_mayBe 53 = .ok (.if_icmp .ne 15, 3) := by decide +kernel
theorem dX1_mayBe_56 : decode cX1_mayBe 56 = .ok (.aload_n 0, 1) := by decide +kernel
theorem dX1_mayBe_57 : decode cX1_mayBe 57 = .ok (.getfield 11, 3) := by decide +kernel
theorem dX1_mayBe_60 : decode cX1_mayBe 60 = .ok (.iconst 1, 1) := by decide +kernel
theorem dX1_mayBe_61 : decode cX1_mayBe 61 = .ok (.invokestatic 52, 3) := by decide +kernel
theorem dX1_mayBe_64 : decode cX1_mayBe 64 = .ok (.iconst 1, 1) := by decide +kernel
theorem dX1_mayBe_65 : decode cX1_mayBe 65 = .ok (.isub, 1) := by decide +kernel
theorem dX1_mayBe_66 : decode cX1_mayBe 66 = .ok (.istore 5, 2) := by decide +kernel
theorem dX1_mayBe_68 : decode cX1_mayBe 68 = .ok (.iload_n 3, 1) := by decide +kernel
theorem dX1_mayBe_69 : decode cX1_mayBe 69 = .ok (.iload 4, 2) := by decide +kernel
theorem dX1_mayBe_71 : decode cX1_mayBe 71 = .ok (.if_icmp .lt 13, 3) := by decide +kernel
theorem dX1_mayBe_74 : decode cX1_mayBe 74 = .ok (.iload_n 3, 1) := by decide +kernel
theorem dX1_mayBe_75 : decode cX1_mayBe 75 = .ok (.iload 5, 2) := by decide +kernel
theorem dX1_mayBe_77 : decode cX1_mayBe 77 = .ok (.if_icmp .gt 7, 3) := by decide +kernel
theorem dX1_mayBe_80 : decode cX1_mayBe 80 = .ok (.iconst 1, 1) := by decide +kernel
theorem dX1_mayBe_81 : decode cX1_mayBe 81 = .ok (.goto 4, 3) := by decide +kernel
theorem dX1_mayBe_84 : decode cX1_mayBe 84 = .ok (.iconst 0, 1) := by decide +kernel
theorem dX1_mayBe_85 : decode cX1_mayBe 85 = .ok (.ireturn, 1) := by decide +kernel
theorem dX2_init_0 : decode cX2_init 0 = .ok (.aload_n 0, 1) := by decide +kernel
theorem dX2_init_1 : decode cX2_init 1 = .ok (.invokespecial 3, 3) := by decide +kernel
theorem dX2_init_4 : decode cX2_init 4 = .ok (.aload_n 0, 1) := by decide +kernel
theorem dX2_init_5 : decode cX2_init 5 = .ok (.bipush 48, 2) := by decide +kernel
theorem dX2_init_7 : decode cX2_init 7 = .ok (.newarray .int, 2) := by decide +kernel
theorem dX2_init_9 : decode cX2_init 9 = .ok (.putfield 11, 3) := by decide +kernel
theorem dX2_init_12 : decode cX2_init 12 = .ok (.aload_n 0, 1) := by decide +kernel
theorem dX2_init_13 : decode cX2_init 13 = .ok (.iconst 0, 1) := by decide +kernel
theorem dX2_init_14 : decode cX2_init 14 = .ok (.putfield 15, 3) := by decide +kernel
theorem dX2_init_17 : decode cX2_init 17 = .ok (.aload_n 0, 1) := by decide +kernel
theorem dX2_init_18 : decode cX2_init 18 = .ok (.iload_n 1, 1) := by decide +kernel
theorem dX2_init_19 : decode cX2_init 19 = .ok (.bipush 12, 2) := by decide +kernel
theorem dX2_init_21 : decode cX2_init 21 = .ok (.invokestatic 19, 3) := by decide +kernel
theorem dX2_init_24 : decode cX2_init 24 = .ok (.putfield 25, 3) := by decide +kernel
theorem dX2_init_27 : decode cX2_init 27 = .ok (.return_, 1) := by decide +kernel
theorem dX2_isFull_0 : decode cX2_isFull 0 = .ok (.aload_n 0, 1) := by decide +kernel
theorem dX2_isFull_1 : decode cX2_isFull 1 = .ok (.getfield 15, 3) := by decide +kernel
theorem dX2_isFull_4 : decode cX2_isFull 4 = .ok (.aload_n 0, 1) := by decide +kernel
theorem dX2_isFull_5 : decode cX2_isFull 5 = .ok (.getfield 25, 3) := by decide +kernel
theorem dX2_isFull_8 : decode cX2_isFull 8 = .ok (.if_icmp .lt 7, 3) := by decide +kernel
theorem dX2_isFull_11 : decode cX2_isFull 11 = .ok (.iconst 1, 1) := by decide +kernel
theorem dX2_isFull_12 : decode cX2_isFull 12 = .ok (.goto 4, 3) := by decide +kernel
theorem dX2_isFull_15 : decode cX2_isFull 15 = .ok (.iconst 0, 1) := by decide +kernel
theorem dX2_isFull_16 : decode cX2_isFull 16 = .ok (.ireturn, 1) := by decide +kernel
theorem dX2_empty_0 : decode cX2_empty 0 = .ok (.aload_n 0, 1) := by decide +kernel
theorem dX2_empty_1 : decode cX2_empty 1 = .ok (.iconst 0, 1) := by decide +kernel
theorem dX2_empty_2 : decode cX2_empty 2 = .ok (.putfield 15, 3) := by decide +kernel
theorem dX2_empty_5 : decode cX2_empty 5 = .ok (.return_, 1) := by decide +kernel
set_option maxRecDepth 20000 in
theorem ggX2_add_X2_isFull : GoodIn wsX2_add wsX2_isFull := goodIn_r _ [6, 1, 7, 20, 21, 22] (by decide +kernel) (by decide +kernel)
set_option maxRecDepth 20000 in
theorem gX2_add_X2_isFull : GoodIn wsX2_add (wsV RX2 28 RX2 yX2_isFull wsX2_isFull) := goodIn_app (goodIn_of _ (by decide +kernel)) ggX2_add_X2_isFull
set_option maxRecDepth 20000 in
theorem ggX2_add_X2_set : GoodIn wsX2_add wsX2_set := goodIn_r _ [11, 12, 13, 14, 15, 5, 16, 1, 17, 18, 19, 20, 21, 22] (by decide +kernel) (by decide +kernel)
set_option maxRecDepth 20000 in
theorem gX2_add_X2_set : GoodIn wsX2_add (wsV RX2 32 RX2 yX2_set wsX2_set) := goodIn_app (goodIn_of _ (by decide +kernel)) ggX2_add_X2_set
theorem dX2_add_0 : decode cX2_add 0 = .ok (.aload_n 0, 1) := by decide +kernel
theorem dX2_add_1 : decode cX2_add 1 = .ok (.invokevirtual 28, 3) := by decide +kernel
theorem dX2_add_4 : decode cX2_add 4 = .ok (.ifCond .eq 4, 3) := by decide +kernel
theorem dX2_add_7 : decode cX2_add 7 = .ok (.return_, 1) := by decide +kernel
theorem dX2_add_8 : decode cX2_add 8 = .ok (.aload_n 0, 1) := by decide +kernel
theorem dX2_add_9 : decode cX2_add 9 = .ok (.dup, 1) := by decide +kernel
theorem dX2_add_10 : decode cX2_add 10 = .ok (.getfield 15, 3) := by decide +kernel
theorem dX2_add_13 : decode cX2_add 13 = .ok (.iconst 1, 1) := by decide +kernel
theorem dX2_add_14 : decode cX2_add 14 = .ok (.iadd, 1) := by decide +kernel
theorem dX2_add_15 : decode cX2_add 15 = .ok (.putfield 15, 3) := by decide +kernel
theorem dX2_add_18 : decode cX2_add 18 = .ok (.aload_n 0, 1) := by decide +kernel
theorem dX2_add_19 : decode cX2_add 19 = .ok (.aload_n 0, 1) := by decide +kernel
theorem dX2_add_20 : decode cX2_add 20 = .ok (.getfield 15, 3) := by decide +kernel
theorem dX2_add_23 : decode cX2_add 23 = .ok (.iconst 1, 1) := by decide +kernel
theorem dX2_add_24 : decode cX2_add 24 = .ok (.isub, 1) := by decide +kernel
theorem dX2_add_25 : decode cX2_add 25 = .ok (.iconst 0, 1) := by decide +kernel
theorem dX2_add_26 : decode cX2_add 26 = .ok (.iload_n 1, 1) := by decide +kernel
theorem dX2_add_27 : decode cX2_add 27 = .ok (.invokevirtual 32, 3) := by decide +kernel
theorem dX2_add_30 : decode cX2_add 30 = .ok (.aload_n 0, 1) := by decide +kernel
theorem dX2_add_31 : decode cX2_add 31 = .ok (.aload_n 0, 1) := by decide +kernel
theorem dX2_add_32 : decode cX2_add 32 = .ok (.getfield 15, 3) := by decide +kernel
theorem dX2_add_35 : decode cX2_add 35 = .ok (.iconst 1, 1) := by decide +kernel
theorem dX2_add_36 : decode cX2_add 36 = .ok (.isub, 1) := by decide +kernel
theorem dX2_add_37 : decode cX2_add 37 = .ok (.iconst 1, 1) := by decide +kernel
theorem dX2_add_38 : decode cX2_add 38 = .ok (.iload_n 2, 1) := by decide +kernel
theorem dX2_add_39 : decode cX2_add 39 = .ok (.invokevirtual 32, 3) := by decide +kernel
theorem dX2_add_42 : decode cX2_add 42 = .ok (.aload_n 0, 1) := by decide +kernel
theorem dX2_add_43 : decode cX2_add 43 = .ok (.aload_n 0, 1) := by decide +kernel
theorem dX2_add_44 : decode cX2_add 44 = .ok (.getfield 15, 3) := by decide +kernel
theorem dX2_add_47 : decode cX2_add 47 = .ok (.iconst 1, 1) := by decide +kernel
theorem dX2_add_48 : decode cX2_add 48 = .ok (.isub, 1) := by decide +kernel
theorem dX2_add_49 : decode cX2_add 49 = .ok (.iconst 2, 1) := by decide +kernel
theorem dX2_add_50 : decode cX2_add 50 = .ok (.iload_n 3, 1) := by decide +kernel
theorem dX2_add_51 : decode cX2_add 51 = .ok (.invokevirtual 32, 3) := by decide +kernel
theorem dX2_add_54 : decode cX2_add 54 = .ok (.aload_n 0, 1) := by decide +kernel
theorem dX2_add_55 : decode cX2_add 55 = .ok (.aload_n 0, 1) := by decide +kernel
theorem dX2_add_56 : decode cX2_add 56 = .ok (.getfield 15, 3) := by decide +kernel
theorem dX2_add_59 : decode cX2_add 59 = .ok (.iconst 1, 1) := by decide +kernel
theorem dX2_add_60 : decode cX2_add 60 = .ok (.isub, 1) := by decide +kernel
theorem dX2_add_61 : decode cX2_add 61 = .ok (.iconst 3, 1) := by decide +kernel
theorem dX2_add_62 : decode cX2_add 62 = .ok (.iload 4, 2) := by decide +kernel
theorem dX2_add_64 : decode cX2_add 64 = .ok (.invokevirtual 32, 3) := by decide +kernel
theorem dX2_add_67 : decode cX2_add 67 = .ok (.return_, 1) := by decide +kernel
set_option maxRecDepth 20000 in
theorem ggX2_number_X2_has : GoodIn wsX2_number wsX2_has := goodIn_r _ [6, 7, 11, 12, 13] (by decide +kernel) (by decide +kernel)
set_option maxRecDepth 20000 in
theorem gX2_number_X2_has : GoodIn wsX2_number (wsV RX2 36 RX2 yX2_has wsX2_has) := goodIn_app (goodIn_of _ (by decide +kernel)) ggX2_number_X2_has
set_option maxRecDepth 20000 in
theorem ggX2_number_X5_at : GoodIn wsX2_number wsX5_at := goodIn_r _ [10] (by decide +kernel) (by decide +kernel)
set_option maxRecDepth 20000 in
theorem gX2_number_X5_at_n40 : GoodIn wsX2_number (wsX5_at) := ggX2_number_X5_at
theorem dX2_number_0 : decode cX2_number 0 = .ok (.aload_n 0, 1) := by decide +kernel
theorem dX2_number_1 : decode cX2_number 1 = .ok (.iload_n 1, 1) := by decide +kernel
theorem dX2_number_2 : decode cX2_number 2 = .ok (.iload_n 2, 1) := by decide +kernel
theorem dX2_number_3 : decode cX2_number 3 = .ok (.invokevirtual 36, 3) := by decide +kernel
theorem dX2_number_6 : decode cX2_number 6 = .ok (.ifCond .eq 18, 3) := by decide +kernel
theorem dX2_number_9 : decode cX2_number 9 = .ok (.aload_n 0, 1) := by decide +kernel
theorem dX2_number_10 : decode cX2_number 10 = .ok (.getfield 11, 3) := by decide +kernel
theorem dX2_number_13 : decode cX2_number 13 = .ok (.iload_n 1, 1) := by decide +kernel
theorem dX2_number_14 : decode cX2_number 14 = .ok (.iconst 4, 1) := by decide +kernel
theorem dX2_number_15 : decode cX2_number 15 = .ok (.imul, 1) := by decide +kernel
theorem dX2_number_16 : decode cX2_number 16 = .ok (.iload_n 2, 1) := by decide +kernel
theorem dX2_number_17 : decode cX2_number 17 = .ok (.iadd, 1) := by decide +kernel
theorem dX2_number_18 : decode cX2_number 18 = .ok (.invokestatic 40, 3) := by decide +kernel
theorem dX2_number_21 : decode cX2_number 21 = .ok (.goto 4, 3) := by decide +kernel
theorem dX2_number_24 : decode cX2_number 24 = .ok (.iconst (-1), 1) := by decide +kernel
theorem dX2_number_25 : decode cX2_number 25 = .ok (.ireturn, 1) := by decide +kernel
set_option maxRecDepth 20000 in
theorem ggX2_set_X2_has : GoodIn wsX2_set wsX2_has := goodIn_r _ [6, 7, 11, 12, 13] (by decide +kernel) (by decide +kernel)
set_option maxRecDepth 20000 in
theorem gX2_set_X2_has : GoodIn wsX2_set (wsV RX2 36 RX2 yX2_has wsX2_has) := goodIn_app (goodIn_of _ (by decide +kernel)) ggX2_set_X2_has
set_option maxRecDepth 20000 in
theorem ggX2_set_X5_put : GoodIn wsX2_set wsX5_put := goodIn_r _ [10] (by decide +kernel) (by decide +kernel)
set_option maxRecDepth 20000 in
theorem gX2_set_X5_put_n44 : GoodIn wsX2_set (wsX5_put) := ggX2_set_X5_put
theorem dX2_set_0 : decode cX2_set 0 = .ok (.aload_n 0, 1) := by decide +kernel
theorem dX2_set_1 : decode cX2_set 1 = .ok (.iload_n 1, 1) := by decide +kernel
theorem dX2_set_2 : decode cX2_set 2 = .ok (.iload_n 2, 1) := by decide +kernel
theorem dX2_set_3 : decode cX2_set 3 = .ok (.invokevirtual 36, 3) := by decide +kernel
theorem dX2_set_6 : decode cX2_set 6 = .ok (.ifCond .eq 16, 3) := by decide +kernel
theorem dX2_set_9 : decode cX2_set 9 = .ok (.aload_n 0, 1) := by decide +kernel
theorem dX2_set_10 : decode cX2_set 10 = .ok (.getfield 11, 3) := by decide +kernel
theorem dX2_set_13 : decode cX2_set 13 = .ok (.iload_n 1, 1) := by decide +kernel
theorem dX2_set_14 : decode cX2_set 14 = .ok (.iconst 4, 1) := by decide +kernel
theorem dX2_set_15 : decode cX2_set 15 = .ok (.imul, 1) := by decide +kernel
theorem dX2_set_16 : decode cX2_set 16 = .ok (.iload_n 2, 1) := by decide +kernel
theorem dX2_set_17 : decode cX2_set 17 = .ok (.iadd, 1) := by decide +kernel
theorem dX2_set_18 : decode cX2_set 18 = .ok (.iload_n 3, 1) := by decide +kernel
theorem dX2_set_19 : decode cX2_set 19 = .ok (.invokestatic 44, 3) := by decide +kernel
theorem dX2_set_22 : decode cX2_set 22 = .ok (.return_, 1) := by decide +kernel
theorem dX2_has_0 : decode cX2_has 0 = .ok (.iload_n 1, 1) := by decide +kernel
theorem dX2_has_1 : decode cX2_has 1 = .ok (.ifCond .lt 24, 3) := by decide +kernel
theorem dX2_has_4 : decode cX2_has 4 = .ok (.iload_n 1, 1) := by decide +kernel
theorem dX2_has_5 : decode cX2_has 5 = .ok (.aload_n 0, 1) := by decide +kernel
theorem dX2_has_6 : decode cX2_has 6 = .ok (.getfield 15, 3) := by decide +kernel
theorem dX2_has_9 : decode cX2_has 9 = .ok (.if_icmp .ge 16, 3) := by decide +kernel
theorem dX2_has_12 : decode cX2_has 12 = .ok (.iload_n 2, 1) := by decide +kernel
theorem dX2_has_13 : decode cX2_has 13 = .ok (.ifCond .lt 12, 3) := by decide +kernel
theorem dX2_has_16 : decode cX2_has 16 = .ok (.iload_n 2, 1) := by decide +kernel
theorem dX2_has_17 : decode cX2_has 17 = .ok (.iconst 4, 1) := by decide +kernel
theorem dX2_has_18 : decode cX2_has 18 = .ok (.if_icmp .ge 7, 3) := by decide +kernel
theorem dX2_has_21 : decode cX2_has 21 = .ok (.iconst 1, 1) := by decide +kernel
theorem dX2_has_22 : decode cX2_has 22 = .ok (.goto 4, 3) := by decide +kernel
theorem dX2_has_25 : decode cX2_has 25 = .ok (.iconst 0, 1) := by decide +kernel
theorem dX2_has_26 : decode cX2_has 26 = .ok (.ireturn, 1) := by decide +kernel
theorem dX2_dropLast_0 : decode cX2_dropLast 0 = .ok (.aload_n 0, 1) := by decide +kernel
theorem dX2_dropLast_1 : decode cX2_dropLast 1 = .ok (.aload_n 0, 1) := by decide +kernel
theorem dX2_dropLast_2 : decode cX2_dropLast 2 = .ok (.getfield 15, 3) := by decide +kernel
theorem dX2_dropLast_5 : decode cX2_dropLast 5 = .ok (.iconst 1, 1) := by decide +kernel
theorem dX2_dropLast_6 : decode cX2_dropLast 6 = .ok (.isub, 1) := by decide +kernel
theorem dX2_dropLast_7 : decode cX2_dropLast 7 = .ok (.iconst 0, 1) := by decide +kernel
theorem dX2_dropLast_8 : decode cX2_dropLast 8 = .ok (.invokestatic 48, 3) := by decide +kernel
theorem dX2_dropLast_11 : decode cX2_dropLast 11 = .ok (.putfield 15, 3) := by decide +kernel
theorem dX2_dropLast_14 : decode cX2_dropLast 14 = .ok (.return_, 1) := by decide +kernel
set_option maxRecDepth 20000 in
theorem ggX2_dropFirst_X5_at : GoodIn wsX2_dropFirst wsX5_at := goodIn_r _ [4] (by decide +kernel) (by decide +kernel)
set_option maxRecDepth 20000 in
theorem gX2_dropFirst_X5_at_n40 : GoodIn wsX2_dropFirst (wsX5_at) := ggX2_dropFirst_X5_at
set_option maxRecDepth 20000 in
theorem ggX2_dropFirst_X5_put : GoodIn wsX2_dropFirst wsX5_put := goodIn_r _ [6] (by decide +kernel) (by decide +kernel)
set_option maxRecDepth 20000 in
theorem gX2_dropFirst_X5_put_n44 : GoodIn wsX2_dropFirst (wsX5_put) := ggX2_dropFirst_X5_put
set_option maxRecDepth 20000 in
theorem ggX2_dropFirst_X2_dropLast : GoodIn wsX2_dropFirst wsX2_dropLast := goodIn_r _ [11, 12, 13, 14, 15, 16, 17, 18, 19] (by decide +kernel) (by decide +kernel)
set_option maxRecDepth 20000 in
theorem gX2_dropFirst_X2_dropLast : GoodIn wsX2_dropFirst (wsV RX2 51 RX2 yX2_dropLast wsX2_dropLast) := goodIn_app (goodIn_of _ (by decide +kernel)) ggX2_dropFirst_X2_dropLast
theorem dX2_dropFirst_0 : decode cX2_dropFirst 0 = .ok (.iconst 4, 1) := by decide +kernel
theorem dX2_dropFirst_1 : decode cX2_dropFirst 1 = .ok (.istore_n 1, 1) := by decide +kernel
theorem dX2_dropFirst_2 : decode cX2_dropFirst 2 = .ok (.iload_n 1, 1) := by decide +kernel
theorem dX2_dropFirst_3 : decode cX2_dropFirst 3 = .ok (.aload_n 0, 1) := by decide +kernel
theorem dX2_dropFirst_4 : decode cX2_dropFirst 4 = .ok (.getfield 11, 3) := by decide +kernel
theorem dX2_dropFirst_7 : decode cX2_dropFirst 7 = .ok (.arraylength, 1) := by decide +kernel
theorem dX2_dropFirst_8 : decode cX2_dropFirst 8 = .ok (.if_icmp .ge 27, 3) := by decide +kernel
theorem dX2_dropFirst_11 : decode cX2_dropFirst 11 = .ok (.aload_n 0, 1) := by decide +kernel
theorem dX2_dropFirst_12 : decode cX2_dropFirst 12 = .ok (.getfield 11, 3) := by decide +kernel
theorem dX2_dropFirst_15 : decode cX2_dropFirst 15 = .ok (.iload_n 1, 1) := by decide +kernel
theorem dX2_dropFirst_16 : decode cX2_dropFirst 16 = .ok (.iconst 4, 1) := by decide +kernel
theorem dX2_dropFirst_17 : decode cX2_dropFirst 17 = .ok (.isub, 1) := by decide +kernel
theorem dX2_dropFirst_18 : decode cX2_dropFirst 18 = .ok (.aload_n 0, 1) := by decide +kernel
theorem dX2_dropFirst_19 : decode cX2_dropFirst 19 = .ok (.getfield 11, 3) := by decide +kernel
theorem dX2_dropFirst_22 : decode cX2_dropFirst 22 = .ok (.iload_n 1, 1) := by decide +kernel
theorem dX2_dropFirst_23 : decode cX2_dropFirst 23 = .ok (.invokestatic 40, 3) := by decide +kernel
theorem dX2_dropFirst_26 : decode cX2_dropFirst 26 = .ok (.invokestatic 44, 3) := by decide +kernel
theorem dX2_dropFirst_29 : decode cX2_dropFirst 29 = .ok (.iinc 1 1, 3) := by decide +kernel
theorem dX2_dropFirst_32 : decode cX2_dropFirst 32 = .ok (.goto (-30), 3) := by decide +kernel
theorem dX2_dropFirst_35 : decode cX2_dropFirst 35 = .ok (.aload_n 0, 1) := by decide +kernel
theorem dX2_dropFirst_36 : decode cX2_dropFirst 36 = .ok (.invokevirtual 51, 3) := by decide +kernel
theorem dX2_dropFirst_39 : decode cX2_dropFirst 39 = .ok (.return_, 1) := by decide +kernel
set_option maxRecDepth 20000 in
theorem ggX2_countWith_X2_number : GoodIn wsX2_countWith wsX2_number := goodIn_r _ [6, 7, 8, 9, 10, 5, 11, 1, 12, 13, 14, 15, 16, 17] (by decide +kernel) (by decide +kernel)
set_option maxRecDepth 20000 in
theorem gX2_countWith_X2_number : GoodIn wsX2_countWith (wsV RX2 54 RX2 yX2_number wsX2_number) := goodIn_app (goodIn_of _ (by decide +kernel)) ggX2_countWith_X2_number
theorem dX2_countWith_0 : decode cX2_countWith 0 = .ok (.iconst 0, 1) := by decide +kernel
theorem dX2_countWith_1 : decode cX2_countWith 1 = .ok (.istore_n 3, 1) := by decide +kernel
theorem dX2_countWith_2 : decode cX2_countWith 2 = .ok (.iconst 0, 1) := by decide +kernel
theorem dX2_countWith_3 : decode cX2_countWith 3 = .ok (.istore 4, 2) := by decide +kernel
theorem dX2_countWith_5 : decode cX2_countWith 5 = .ok (.iload 4, 2) := by decide +kernel
theorem dX2_countWith_7 : decode cX2_countWith 7 = .ok (.aload_n 0, 1) := by decide +kernel
theorem dX2_countWith_8 : decode cX2_countWith 8 = .ok (.getfield 15, 3) := by decide +kernel
theorem dX2_countWith_11 : decode cX2_countWith 11 = .ok (.if_icmp .ge 23, 3) := by decide +kernel
theorem dX2_countWith_14 : decode cX2_countWith 14 = .ok (.aload_n 0, 1) := by decide +kernel
theorem dX2_countWith_15 : decode cX2_countWith 15 = .ok (.iload 4, 2) := by decide +kernel
theorem dX2_countWith_17 : decode cX2_countWith 17 = .ok (.iload_n 1, 1) := by decide +kernel
theorem dX2_countWith_18 : decode cX2_countWith 18 = .ok (.invokevirtual 54, 3) := by decide +kernel
theorem dX2_countWith_21 : decode cX2_countWith 21 = .ok (.iload_n 2, 1) := by decide +kernel
theorem dX2_countWith_22 : decode cX2_countWith 22 = .ok (.if_icmp .ne 6, 3) := by decide +kernel
theorem dX2_countWith_25 : decode cX2_countWith 25 = .ok (.iinc 3 1, 3) := by decide +kernel
theorem dX2_countWith_28 : decode cX2_countWith 28 = .ok (.iinc 4 1, 3) := by decide +kernel
theorem dX2_countWith_31 : decode cX2_countWith 31 = .ok (.goto (-26), 3) := by decide +kernel
theorem dX2_countWith_34 : decode cX2_countWith 34 = .ok (.iload_n 3, 1) := by decide +kernel
theorem dX2_countWith_35 : decode cX2_countWith 35 = .ok (.ireturn, 1) := by decide +kernel
set_option maxRecDepth 20000 in
theorem ggX2_copyFrom_X5_at : GoodIn wsX2_copyFrom wsX5_at := goodIn_r _ [10] (by decide +kernel) (by decide +kernel)
set_option maxRecDepth 20000 in
theorem gX2_copyFrom_X5_at_n40 : GoodIn wsX2_copyFrom (wsX5_at) := ggX2_copyFrom_X5_at
set_option maxRecDepth 20000 in
theorem ggX2_copyFrom_X5_put : GoodIn wsX2_copyFrom wsX5_put := goodIn_r _ [12] (by decide +kernel) (by decide +kernel)
set_option maxRecDepth 20000 in
theorem gX2_copyFrom_X5_put_n44 : GoodIn wsX2_copyFrom (wsX5_put) := ggX2_copyFrom_X5_put
theorem dX2_copyFrom_0 : decode cX2_copyFrom 0 = .ok (.aload_n 1, 1) := by decide +kernel
theorem dX2_copyFrom_1 : decode cX2_copyFrom 1 = .ok (.ifnonnull 4, 3) := by decide +kernel
theorem dX2_copyFrom_4 : decode cX2_copyFrom 4 = .ok (.return_, 1) := by decide +kernel
theorem dX2_copyFrom_5 : decode cX2_copyFrom 5 = .ok (.iconst 0, 1) := by decide +kernel
theorem dX2_copyFrom_6 : decode cX2_copyFrom 6 = .ok (.istore_n 2, 1) := by decide +kernel
theorem dX2_copyFrom_7 : decode cX2_copyFrom 7 = .ok (.iload_n 2, 1) := by decide +kernel
theorem dX2_copyFrom_8 : decode cX2_copyFrom 8 = .ok (.aload_n 0, 1) := by decide +kernel
theorem dX2_copyFrom_9 : decode cX2_copyFrom 9 = .ok (.getfield 11, 3) := by decide +kernel
theorem dX2_copyFrom_12 : decode cX2_copyFrom 12 = .ok (.arraylength, 1) := by decide +kernel
theorem dX2_copyFrom_13 : decode cX2_copyFrom 13 = .ok (.if_icmp .ge 25, 3) := by decide +kernel
theorem dX2_copyFrom_16 : decode cX2_copyFrom 16 = .ok (.aload_n 0, 1) := by decide +kernel
theorem dX2_copyFrom_17 : decode cX2_copyFrom 17 = .ok (.getfield 11, 3) := by decide +kernel
theorem dX2_copyFrom_20 : decode cX2_copyFrom 20 = .ok (.iload_n 2, 1) := by decide +kernel
theorem dX2_copyFrom_21 : decode cX2_copyFrom 21 = .ok (.aload_n 1, 1) := by decide +kernel
theorem dX2_copyFrom_22 : decode cX2_copyFrom 22 = .ok (.getfield 11, 3) := by decide +kernel
theorem dX2_copyFrom_25 : decode cX2_copyFrom 25 = .ok (.iload_n 2, 1) := by decide +kernel
theorem dX2_copyFrom_26 : decode cX2_copyFrom 26 = .ok (.invokestatic 40, 3) := by decide +kernel
theorem dX2_copyFrom_29 : decode cX2_copyFrom 29 = .ok (.invokestatic 44, 3) := by decide +kernel
theorem dX2_copyFrom_32 : decode cX2_copyFrom 32 = .ok (.iinc 2 1, 3) := by decide +kernel
theorem dX2_copyFrom_35 : decode cX2_copyFrom 35 = .ok (.goto (-28), 3) := by decide +kernel
theorem dX2_copyFrom_38 : decode cX2_copyFrom 38 = .ok (.aload_n 0, 1) := by decide +kernel
theorem dX2_copyFrom_39 : decode cX2_copyFrom 39 = .ok (.aload_n 1, 1) := by decide +kernel
theorem dX2_copyFrom_40 : decode cX2_copyFrom 40 = .ok (.getfield 15, 3) := by decide +kernel
theorem dX2_copyFrom_43 : decode cX2_copyFrom 43 = .ok (.aload_n 0, 1) := by decide +kernel
theorem dX2_copyFrom_44 : decode cX2_copyFrom 44 = .ok (.getfield 25, 3) := by decide +kernel
theorem dX2_copyFrom_47 : decode cX2_copyFrom 47 = .ok (.invokestatic 19, 3) := by decide +kernel
theorem dX2_copyFrom_50 : decode cX2_copyFrom 50 = .ok (.putfield 15, 3) := by decide +kernel
theorem dX2_copyFrom_53 : decode cX2_copyFrom 53 = .ok (.return_, 1) := by decide +kernel
theorem dX3_init_0 : decode cX3_init 0 = .ok (.aload_n 0, 1) := by decide +kernel
theorem dX3_init_1 : decode cX3_init 1 = .ok (.invokespecial 3, 3) := by decide +kernel
theorem dX3_init_4 : decode cX3_init 4 = .ok (.aload_n 0, 1) := by decide +kernel
theorem dX3_init_5 : decode cX3_init 5 = .ok (.sipush 250, 3) := by decide +kernel
theorem dX3_init_8 : decode cX3_init 8 = .ok (.newarray .int, 2) := by decide +kernel
theorem dX3_init_10 : decode cX3_init 10 = .ok (.putfield 9, 3) := by decide +kernel
theorem dX3_init_13 : decode cX3_init 13 = .ok (.aload_n 0, 1) := by decide +kernel
theorem dX3_init_14 : decode cX3_init 14 = .ok (.iconst 0, 1) := by decide +kernel
theorem dX3_init_15 : decode cX3_init 15 = .ok (.putfield 15, 3) := by decide +kernel
theorem dX3_init_18 : decode cX3_init 18 = .ok (.aload_n 0, 1) := by decide +kernel
theorem dX3_init_19 : decode cX3_init 19 = .ok (.iconst 0, 1) := by decide +kernel
theorem dX3_init_20 : decode cX3_init 20 = .ok (.putfield 19, 3) := by decide +kernel
theorem dX3_init_23 : decode cX3_init 23 = .ok (.aload_n 0, 1) := by decide +kernel
theorem dX3_init_24 : decode cX3_init 24 = .ok (.iconst 0, 1) := by decide +kernel
theorem dX3_init_25 : decode cX3_init 25 = .ok (.putfield 22, 3) := by decide +kernel
theorem dX3_init_28 : decode cX3_init 28 = .ok (.aload_n 0, 1) := by decide +kernel
theorem dX3_init_29 : decode cX3_init 29 = .ok (.bipush 6, 2) := by decide +kernel
theorem dX3_init_31 : decode cX3_init 31 = .ok (.putfield 25, 3) := by decide +kernel
theorem dX3_init_34 : decode cX3_init 34 = .ok (.aload_n 0, 1) := by decide +kernel
theorem dX3_init_35 : decode cX3_init 35 = .ok (.iconst 0, 1) := by decide +kernel
theorem dX3_init_36 : decode cX3_init 36 = .ok (.putfield 28, 3) := by decide +kernel
theorem dX3_init_39 : decode cX3_init 39 = .ok (.return_, 1) := by decide +kernel
set_option maxRecDepth 20000 in
theorem ggX3_add_X5_put : GoodIn wsX3_add wsX5_put := goodIn_r _ [5] (by decide +kernel) (by decide +kernel)
set_option maxRecDepth 20000 in
theorem gX3_add_X5_put_n31 : GoodIn wsX3_add (wsX5_put) := ggX3_add_X5_put
theorem dX3_add_0 : decode cX3_add 0 = .ok (.aload_n 0, 1) := by decide +kernel
theorem dX3_add_1 : decode cX3_add 1 = .ok (.getfield 15, 3) := by decide +kernel
theorem dX3_add_4 : decode cX3_add 4 = .ok (.iload_n 3, 1) := by decide +kernel
theorem dX3_add_5 : decode cX3_add 5 = .ok (.iadd, 1) := by decide +kernel
theorem dX3_add_6 : decode cX3_add 6 = .ok (.sipush 250, 3) := by decide +kernel
theorem dX3_add_9 : decode cX3_add 9 = .ok (.if_icmp .le 5, 3) := by decide +kernel
theorem dX3_add_12 : decode cX3_add 12 = .ok (.iconst 0, 1) := by decide +kernel
theorem dX3_add_13 : decode cX3_add 13 = .ok (.ireturn, 1) := by decide +kernel
theorem dX3_add_14 : decode cX3_add 14 = .ok (.iload_n 3, 1) := by decide +kernel
theorem dX3_add_15 : decode cX3_add 15 = .ok (.iconst 1, 1) := by decide +kernel
theorem dX3_add_16 : decode cX3_add 16 = .ok (.isub, 1) := by decide +kernel
theorem dX3_add_17 : decode cX3_add 17 = .ok (.istore 4, 2) := by decide +kernel
theorem dX3_add_19 : decode cX3_add 19 = .ok (.iload 4, 2) := by decide +kernel
theorem dX3_add_21 : decode cX3_add 21 = .ok (.ifCond .lt 42, 3) := by decide +kernel
theorem dX3_add_24 : decode cX3_add 24 = .ok (.aload_n 0, 1) := by decide +kernel
theorem dX3_add_25 : decode cX3_add 25 = .ok (.getfield 9, 3) := by decide +kernel
theorem dX3_add_28 : decode cX3_add 28 = .ok (.aload_n 0, 1) := by decide +kernel
theorem dX3_add_29 : decode cX3_add 29 = .ok (.getfield 15, 3) := by decide +kernel
theorem dX3_add_32 : decode cX3_add 32 = .ok (.lload_n 1, 1) := by decide +kernel
theorem dX3_add_33 : decode cX3_add 33 = .ok (.bipush 8, 2) := by decide +kernel
theorem dX3_add_35 : decode cX3_add 35 = .ok (.iload 4, 2) := by decide +kernel
theorem dX3_add_37 : decode cX3_add 37 = .ok (.imul, 1) := by decide +kernel
theorem dX3_add_38 : decode cX3_add 38 = .ok (.lushr, 1) := by decide +kernel
theorem dX3_add_39 : decode cX3_add 39 = .ok (.l2i, 1) := by decide +kernel
theorem dX3_add_40 : decode cX3_add 40 = .ok (.sipush 255, 3) := by decide +kernel
theorem dX3_add_43 : decode cX3_add 43 = .ok (.iand, 1) := by decide +kernel
theorem dX3_add_44 : decode cX3_add 44 = .ok (.invokestatic 31, 3) := by decide +kernel
theorem dX3_add_47 : decode cX3_add 47 = .ok (.aload_n 0, 1) := by decide +kernel
theorem dX3_add_48 : decode cX3_add 48 = .ok (.dup, 1) := by decide +kernel
theorem dX3_add_49 : decode cX3_add 49 = .ok (.getfield 15, 3) := by decide +kernel
theorem dX3_add_52 : decode cX3_add 52 = .ok (.iconst 1, 1) := by decide +kernel
theorem dX3_add_53 : decode cX3_add 53 = .ok (.iadd, 1) := by decide +kernel
theorem dX3_add_54 : decode cX3_add 54 = .ok (.putfield 15, 3) := by decide +kernel
theorem dX3_add_57 : decode cX3_add 57 = .ok (.iinc 4 (-1), 3) := by decide +kernel
theorem dX3_add_60 : decode cX3_add 60 = .ok (.goto (-41), 3) := by decide +kernel
theorem dX3_add_63 : decode cX3_add 63 = .ok (.iconst 1, 1) := by decide +kernel
theorem dX3_add_64 : decode cX3_add 64 = .ok (.ireturn, 1) := by decide +kernel
theorem dX3_empty_0 : decode cX3_empty 0 = .ok (.aload_n 0, 1) := by decide +kernel
theorem dX3_empty_1 : decode cX3_empty 1 = .ok (.iconst 0, 1) := by decide +kernel
theorem dX3_empty_2 : decode cX3_empty 2 = .ok (.putfield 15, 3) := by decide +kernel
theorem dX3_empty_5 : decode cX3_empty 5 = .ok (.return_, 1) := by decide +kernel
theorem dX3_rewind_0 : decode cX3_rewind 0 = .ok (.aload_n 0, 1) := by decide +kernel
theorem dX3_rewind_1 : decode cX3_rewind 1 = .ok (.iconst 0, 1) := by decide +kernel
theorem dX3_rewind_2 : decode cX3_rewind 2 = .ok (.putfield 19, 3) := by decide +kernel
theorem dX3_rewind_5 : decode cX3_rewind 5 = .ok (.return_, 1) := by decide +kernel
set_option maxRecDepth 20000 in
theorem ggX3_readToken_X5_at : GoodIn wsX3_readToken wsX5_at := goodIn_r _ [8] (by decide +kernel) (by decide +kernel)
set_option maxRecDepth 20000 in
theorem gX3_readToken_X5_at_n35 : GoodIn wsX3_readToken (wsX5_at) := ggX3_readToken_X5_at
set_option maxRecDepth 20000 in
theorem ggX3_readToken_X3_isDigit : GoodIn wsX3_readToken wsX3_isDigit := goodIn_r _ [13, 2, 3, 6, 7, 8, 84, 85, 86, 87, 88, 89] (by decide +kernel) (by decide +kernel)
set_option maxRecDepth 20000 in
theorem gX3_readToken_X3_isDigit : GoodIn wsX3_readToken (wsV RX3 39 RX3 yX3_isDigit wsX3_isDigit) := goodIn_app (goodIn_of _ (by decide +kernel)) ggX3_readToken_X3_isDigit
set_option maxRecDepth 20000 in
theorem ggX3_readToken_X3_readNumber : GoodIn wsX3_readToken wsX3_readNumber := goodIn_r _ [17, 18, 1, 2, 3, 19, 20, 21, 22, 4, 5, 9, 10, 11, 12, 13, 6, 7, 8, 84, 85, 86, 87, 88, 89] (by decide +kernel) (by decide +kernel)
set_option maxRecDepth 20000 in
theorem gX3_readToken_X3_readNumber : GoodIn wsX3_readToken (wsV RX3 43 RX3 yX3_readNumber wsX3_readNumber) := goodIn_app (goodIn_of _ (by decide +kernel)) ggX3_readToken_X3_readNumber
set_option maxRecDepth 20000 in
theorem ggX3_readToken_X3_isLetter : GoodIn wsX3_readToken wsX3_isLetter := goodIn_r _ [26, 2, 3, 6, 7, 8, 84, 85, 86, 87, 88, 89] (by decide +kernel) (by decide +kernel)
set_option maxRecDepth 20000 in
theorem gX3_readToken_X3_isLetter : GoodIn wsX3_readToken (wsV RX3 46 RX3 yX3_isLetter wsX3_isLetter) := goodIn_app (goodIn_of _ (by decide +kernel)) ggX3_readToken_X3_isLetter
set_option maxRecDepth 20000 in
theorem ggX3_readToken_X3_readWord : GoodIn wsX3_readToken wsX3_readWord := goodIn_r _ [30, 1, 2, 5, 23, 24, 25, 12, 26, 3, 6, 7, 8, 31, 32, 33, 34, 4, 35, 36, 37, 38, 39, 40, 41, 42, 43, 44, 45, 46, 47, 48, 49, 50, 51, 52, 53, 54, 55, 56, 57, 58, 59, 60, 61, 62, 63, 64, 65, 66, 67, 68, 69, 70, 71, 72, 73, 74, 75, 76, 77, 78, 79, 80, 81, 82, 83, 84, 85, 86, 87, 88, 89] (by decide +kernel) (by decide +kernel)
set_option maxRecDepth 20000 in
theorem gX3_readToken_X3_readWord : GoodIn wsX3_readToken (wsV RX3 49 RX3 yX3_readWord wsX3_readWord) := goodIn_app (goodIn_of _ (by decide +kernel)) ggX3_readToken_X3_readWord
theorem dX3_readToken_0 : decode cX3_readToken 0 = .ok (.aload_n 0, 1) := by decide +kernel
theorem dX3_readToken_1 : decode cX3_readToken 1 = .ok (.getfield 19, 3) := by decide +kernel
theorem dX3_readToken_4 : decode cX3_readToken 4 = .ok (.aload_n 0, 1) := by decide +kernel
theorem dX3_readToken_5 : decode cX3_readToken 5 = .ok (.getfield 15, 3) := by decide +kernel
theorem dX3_readToken_8 : decode cX3_readToken 8 = .ok (.if_icmp .ge 32, 3) := by decide +kernel
theorem dX3_readToken_11 : decode cX3_readToken 11 = .ok (.aload_n 0, 1) := by decide +kernel
theorem dX3_readToken_12 : decode cX3_readToken 12 = .ok (.getfield 9, 3) := by decide +kernel
theorem dX3_readToken_15 : decode cX3_readToken 15 = .ok (.aload_n 0, 1) := by decide +kernel
theorem dX3_readToken_16 : decode cX3_readToken 16 = .ok (.getfield 19, 3) := by decide +kernel
theorem dX3_readToken_19 : decode cX3_readToken 19 = .ok (.invokestatic 35, 3) := by decide +kernel
theorem dX3_readToken_22 : decode cX3_readToken 22 = .ok (.bipush 32, 2) := by decide +kernel
theorem dX3_readToken_24 : decode cX3_readToken 24 = .ok (.if_icmp .ne 16, 3) := by decide +kernel
theorem dX3_readToken_27 : decode cX3_readToken 27 = .ok (.aload_n 0, 1) := by decide +kernel
theorem dX3_readToken_28 : decode cX3_readToken 28 = .ok (.dup, 1) := by decide +kernel
theorem dX3_readToken_29 : decode cX3_readToken 29 = .ok (.getfield 19, 3) := by decide +kernel
theorem dX3_readToken_32 : decode cX3_readToken 32 = .ok (.iconst 1, 1) := by decide +kernel
theorem dX3_readToken_33 : decode cX3_readToken 33 = .ok (.iadd, 1) := by decide +kernel
theorem dX3_readToken_34 : decode cX3_readToken 34 = .ok (.putfield 19, 3) := by decide +kernel
theorem dX3_readToken_37 : decode cX3_readToken 37 = .ok (.goto (-37), 3) := by decide +kernel
theorem dX3_readToken_40 : decode cX3_readToken 40 = .ok (.aload_n 0, 1) := by decide +kernel
theorem dX3_readToken_41 : decode cX3_readToken 41 = .ok (.aload_n 0, 1) := by decide +kernel
theorem dX3_readToken_42 : decode cX3_readToken 42 = .ok (.getfield 19, 3) := by decide +kernel
theorem dX3_readToken_45 : decode cX3_readToken 45 = .ok (.putfield 22, 3) := by decide +kernel
theorem dX3_readToken_48 : decode cX3_readToken 48 = .ok (.aload_n 0, 1) := by decide +kernel
theorem dX3_readToken_49 : decode cX3_readToken 49 = .ok (.getfield 19, 3) := by decide +kernel
theorem dX3_readToken_52 : decode cX3_readToken 52 = .ok (.aload_n 0, 1) := by decide +kernel
theorem dX3_readToken_53 : decode cX3_readToken 53 = .ok (.getfield 15, 3) := by decide +kernel
theorem dX3_readToken_56 : decode cX3_readToken 56 = .ok (.if_icmp .lt 12, 3) := by decide +kernel
theorem dX3_readToken_59 : decode cX3_readToken 59 = .ok (.aload_n 0, 1) := by decide +kernel
theorem dX3_readToken_60 : decode cX3_readToken 60 = .ok (.bipush 6, 2) := by decide +kernel
theorem dX3_readToken_62 : decode cX3_readToken 62 = .ok (.putfield 25, 3) := by decide +kernel
theorem dX3_readToken_65 : decode cX3_readToken 65 = .ok (.goto 75, 3) := by decide +kernel
theorem dX3_readToken_68 : decode cX3_readToken 68 = .ok (.aload_n 0, 1) := by decide +kernel
theorem dX3_readToken_69 : decode cX3_readToken 69 = .ok (.aload_n 0, 1) := by decide +kernel
theorem dX3_readToken_70 : decode cX3_readToken 70 = .ok (.getfield 19, 3) := by decide +kernel
theorem dX3_readToken_73 : decode cX3_readToken 73 = .ok (.invokevirtual 39, 3) := by decide +kernel
theorem dX3_readToken_76 : decode cX3_readToken 76 = .ok (.ifCond .eq 10, 3) := by decide +kernel
theorem dX3_readToken_79 : decode cX3_readToken 79 = .ok (.aload_n 0, 1) := by decide +kernel
theorem dX3_readToken_80 : decode cX3_readToken 80 = .ok (.invokevirtual 43, 3) := by decide +kernel
theorem dX3_readToken_83 : decode cX3_readToken 83 = .ok (.goto 57, 3) := by decide +kernel
theorem dX3_readToken_86 : decode cX3_readToken 86 = .ok (.aload_n 0, 1) := by decide +kernel
theorem dX3_readToken_87 : decode cX3_readToken 87 = .ok (.aload_n 0, 1) := by decide +kernel
theorem dX3_readToken_88 : decode cX3_readToken 88 = .ok (.getfield 19, 3) := by decide +kernel
theorem dX3_readToken_91 : decode cX3_readToken 91 = .ok (.invokevirtual 46, 3) := by decide +kernel
theorem dX3_readToken_94 : decode cX3_readToken 94 = .ok (.ifCond .eq 10, 3) := by decide +kernel
theorem dX3_readToken_97 : decode cX3_readToken 97 = .ok (.aload_n 0, 1) := by decide +kernel
theorem dX3_readToken_98 : decode cX3_readToken 98 = .ok (.invokevirtual 49, 3) := by decide +kernel
theorem dX3_readToken_101 : decode cX3_readToken 101 = .ok (.goto 39, 3) := by decide +kernel
theorem dX3_readToken_104 : decode cX3_readToken 104 = .ok (.aload_n 0, 1) := by decide +kernel
theorem dX3_readToken_105 : decode cX3_readToken 105 = .ok (.aload_n 0, 1) := by decide +kernel
theorem dX3_readToken_106 : decode cX3_readToken 106 = .ok (.getfield 9, 3) := by decide +kernel
theorem dX3_readToken_109 : decode cX3_readToken 109 = .ok (.aload_n 0, 1) := by decide +kernel
theorem dX3_readToken_110 : decode cX3_readToken 110 = .ok (.getfield 19, 3) := by decide +kernel
theorem dX3_readToken_113 : decode cX3_readToken 113 = .ok (.invokestatic 35, 3) := by decide +kernel
theorem dX3_readToken_116 : decode cX3_readToken 116 = .ok (.bipush 59, 2) := by decide +kernel
theorem dX3_readToken_118 : decode cX3_readToken 118 = .ok (.if_icmp .ne 7, 3) := by decide +kernel
theorem dX3_readToken_121 : decode cX3_readToken 121 = .ok (.iconst 5, 1) := by decide +kernel
theorem dX3_readToken_122 : decode cX3_readToken 122 = .ok (.goto 5, 3) := by decide +kernel
theorem dX3_readToken_125 : decode cX3_readToken 125 = .ok (.bipush 7, 2) := by decide +kernel
theorem dX3_readToken_127 : decode cX3_readToken 127 = .ok (.putfield 25, 3) := by decide +kernel
theorem dX3_readToken_130 : decode cX3_readToken 130 = .ok (.aload_n 0, 1) := by decide +kernel
theorem dX3_readToken_131 : decode cX3_readToken 131 = .ok (.dup, 1) := by decide +kernel
theorem dX3_readToken_132 : decode cX3_readToken 132 = .ok (.getfield 19, 3) := by decide +kernel
theorem dX3_readToken_135 : decode cX3_readToken 135 = .ok (.iconst 1, 1) := by decide +kernel
theorem dX3_readToken_136 : decode cX3_readToken 136 = .ok (.iadd, 1) := by decide +kernel
theorem dX3_readToken_137 : decode cX3_readToken 137 = .ok (.putfield 19, 3) := by decide +kernel
theorem dX3_readToken_140 : decode cX3_readToken 140 = .ok (.return_, 1) := by decide +kernel
set_option maxRecDepth 20000 in
theorem ggX3_isDigit_X5_at : GoodIn wsX3_isDigit wsX5_at := goodIn_r _ [5] (by decide +kernel) (by decide +kernel)
set_option maxRecDepth 20000 in
theorem gX3_isDigit_X5_at_n35 : GoodIn wsX3_isDigit (wsX5_at) := ggX3_isDigit_X5_at
theorem dX3_isDigit_0 : decode cX3_isDigit 0 = .ok (.iload_n 1, 1) := by decide +kernel
theorem dX3_isDigit_1 : decode cX3_isDigit 1 = .ok (.aload_n 0, 1) := by decide +kernel
theorem dX3_isDigit_2 : decode cX3_isDigit 2 = .ok (.getfield 15, 3) := by decide +kernel
theorem dX3_isDigit_5 : decode cX3_isDigit 5 = .ok (.if_icmp .ge 33, 3) := by decide +kernel
theorem dX3_isDigit_8 : decode cX3_isDigit 8 = .ok (.aload_n 0, 1) := by decide +kernel
theorem dX3_isDigit_9 : decode cX3_isDigit 9 = .ok (.getfield 9, 3) := by decide +kernel
theorem dX3_isDigit_12 : decode cX3_isDigit 12 = .ok (.iload_n 1, 1) := by decide +kernel
theorem dX3_isDigit_13 : decode cX3_isDigit 13 = .ok (.invokestatic 35, 3) := by decide +kernel
theorem dX3_isDigit_16 : decode cX3_isDigit 16 = .ok (.bipush 48, 2) := by decide +kernel
theorem dX3_isDigit_18 : decode cX3_isDigit 18 = .ok (.if_icmp .lt 20, 3) := by decide +kernel
theorem dX3_isDigit_21 : decode cX3_isDigit 21 = .ok (.aload_n 0, 1) := by decide +kernel
theorem dX3_isDigit_22 : decode cX3_isDigit 22 = .ok (.getfield 9, 3) := by decide +kernel
theorem dX3_isDigit_25 : decode cX3_isDigit 25 = .ok (.iload_n 1, 1) := by decide +kernel
theorem dX3_isDigit_26 : decode cX3_isDigit 26 = .ok (.invokestatic 35, 3) := by decide +kernel
theorem dX3_isDigit_29 : decode cX3_isDigit 29 = .ok (.bipush 57, 2) := by decide +kernel
theorem dX3_isDigit_31 : decode cX3_isDigit 31 = .ok (.if_icmp .gt 7, 3) := by decide +kernel
theorem dX3_isDigit_34 : decode cX3_isDigit 34 = .ok (.iconst 1, 1) := by decide +kernel
theorem dX3_isDigit_35 : decode cX3_isDigit 35 = .ok (.goto 4, 3) := by decide +kernel
theorem dX3_isDigit_38 : decode cX3_isDigit 38 = .ok (.iconst 0, 1) := by decide +kernel
theorem dX3_isDigit_39 : decode cX3_isDigit 39 = .ok (.ireturn, 1) := by decide +kernel
set_option maxRecDepth 20000 in
theorem ggX3_isLetter_X5_at : GoodIn wsX3_isLetter wsX5_at := goodIn_r _ [5] (by decide +kernel) (by decide +kernel)
set_option maxRecDepth 20000 in
theorem gX3_isLetter_X5_at_n35 : GoodIn wsX3_isLetter (wsX5_at) := ggX3_isLetter_X5_at
theorem dX3_isLetter_0 : decode cX3_isLetter 0 = .ok (.iload_n 1, 1) := by decide +kernel
theorem dX3_isLetter_1 : decode cX3_isLetter 1 = .ok (.aload_n 0, 1) := by decide +kernel
theorem dX3_isLetter_2 : decode cX3_isLetter 2 = .ok (.getfield 15, 3) := by decide +kernel
theorem dX3_isLetter_5 : decode cX3_isLetter 5 = .ok (.if_icmp .ge 33, 3) := by decide +kernel
theorem dX3_isLetter_8 : decode cX3_isLetter 8 = .ok (.aload_n 0, 1) := by decide +kernel
theorem dX3_isLetter_9 : decode cX3_isLetter 9 = .ok (.getfield 9, 3) := by decide +kernel
theorem dX3_isLetter_12 : decode cX3_isLetter 12 = .ok (.iload_n 1, 1) := by decide +kernel
theorem dX3_isLetter_13 : decode cX3_isLetter 13 = .ok (.invokestatic 35, 3) := by decide +kernel
theorem dX3_isLetter_16 : decode cX3_isLetter 16 = .ok (.bipush 97, 2) := by decide +kernel
theorem dX3_isLetter_18 : decode cX3_isLetter 18 = .ok (.if_icmp .lt 20, 3) := by decide +kernel
theorem dX3_isLetter_21 : decode cX3_isLetter 21 = .ok (.aload_n 0, 1) := by decide +kernel
theorem dX3_isLetter_22 : decode cX3_isLetter 22 = .ok (.getfield 9, 3) := by decide +kernel
theorem dX3_isLetter_25 : decode cX3_isLetter 25 = .ok (.iload_n 1, 1) := by decide +kernel
theorem dX3_isLetter_26 : decode cX3_isLetter 26 = .ok (.invokestatic 35, 3) := by decide +kernel
theorem dX3_isLetter_29 : decode cX3_isLetter 29 = .ok (.bipush 122, 2) := by decide +kernel
theorem dX3_isLetter_31 : decode cX3_isLetter 31 = .ok (.if_icmp .gt 7, 3) := by decide +kernel
theorem dX3_isLetter_34 : decode cX3_isLetter 34 = .ok (.iconst 1, 1) := by decide +kernel
theorem dX3_isLetter_35 : decode cX3_isLetter 35 = .ok (.goto 4, 3) := by decide +kernel
theorem dX3_isLetter_38 : decode cX3_isLetter 38 = .ok (.iconst 0, 1) := by decide +kernel
theorem dX3_isLetter_39 : decode cX3_isLetter 39 = .ok (.ireturn, 1) := by decide +kernel
set_option maxRecDepth 20000 in
theorem ggX3_readNumber_X3_isDigit : GoodIn wsX3_readNumber wsX3_isDigit := goodIn_r _ [15, 3, 4, 16, 17, 18, 19, 20, 21, 22, 23, 24] (by decide +kernel) (by decide +kernel)
set_option maxRecDepth 20000 in
theorem gX3_readNumber_X3_isDigit : GoodIn wsX3_readNumber (wsV RX3 39 RX3 yX3_isDigit wsX3_isDigit) := goodIn_app (goodIn_of _ (by decide +kernel)) ggX3_readNumber_X3_isDigit
set_option maxRecDepth 20000 in
theorem ggX3_readNumber_X5_at : GoodIn wsX3_readNumber wsX5_at := goodIn_r _ [18] (by decide +kernel) (by decide +kernel)
set_option maxRecDepth 20000 in
theorem gX3_readNumber_X5_at_n35 : GoodIn wsX3_readNumber (wsX5_at) := ggX3_readNumber_X5_at
theorem dX3_readNumber_0 : decode cX3_readNumber 0 = .ok (.aload_n 0, 1) := by decide +kernel
theorem dX3_readNumber_1 : decode cX3_readNumber 1 = .ok (.iconst 0, 1) := by decide +kernel
theorem dX3_readNumber_2 : decode cX3_readNumber 2 = .ok (.putfield 28, 3) := by decide +kernel
theorem dX3_readNumber_5 : decode cX3_readNumber 5 = .ok (.aload_n 0, 1) := by decide +kernel
theorem dX3_readNumber_6 : decode cX3_readNumber 6 = .ok (.getfield 19, 3) := by decide +kernel
theorem dX3_readNumber_9 : decode cX3_readNumber 9 = .ok (.aload_n 0, 1) := by decide +kernel
theorem dX3_readNumber_10 : decode cX3_readNumber 10 = .ok (.getfield 15, 3) := by decide +kernel
theorem dX3_readNumber_13 : decode cX3_readNumber 13 = .ok (.if_icmp .ge 58, 3) := by decide +kernel
theorem dX3_readNumber_16 : decode cX3_readNumber 16 = .ok (.aload_n 0, 1) := by decide +kernel
theorem dX3_readNumber_17 : decode cX3_readNumber 17 = .ok (.aload_n 0, 1) := by decide +kernel
theorem dX3_readNumber_18 : decode cX3_readNumber 18 = .ok (.getfield 19, 3) := by decide +kernel
theorem dX3_readNumber_21 : decode cX3_readNumber 21 = .ok (.invokevirtual 39, 3) := by decide +kernel
theorem dX3_readNumber_24 : decode cX3_readNumber 24 = .ok (.ifCond .eq 47, 3) := by decide +kernel
theorem dX3_readNumber_27 : decode cX3_readNumber 27 = .ok (.aload_n 0, 1) := by decide +kernel
theorem dX3_readNumber_28 : decode cX3_readNumber 28 = .ok (.aload_n 0, 1) := by decide +kernel
theorem dX3_readNumber_29 : decode cX3_readNumber 29 = .ok (.getfield 28, 3) := by decide +kernel
theorem dX3_readNumber_32 : decode cX3_readNumber 32 = .ok (.bipush 10, 2) := by decide +kernel
theorem dX3_readNumber_34 : decode cX3_readNumber 34 = .ok (.imul, 1) := by decide +kernel
theorem dX3_readNumber_35 : decode cX3_readNumber 35 = .ok (.aload_n 0, 1) := by decide +kernel
theorem dX3_readNumber_36 : decode cX3_readNumber 36 = .ok (.getfield 9, 3) := by decide +kernel
theorem dX3_readNumber_39 : decode cX3_readNumber 39 = .ok (.aload_n 0, 1) := by decide +kernel
theorem dX3_readNumber_40 : decode cX3_readNumber 40 = .ok (.getfield 19, 3) := by decide +kernel
theorem dX3_readNumber_43 : decode cX3_readNumber 43 = .ok (.invokestatic 35, 3) := by decide +kernel
theorem dX3_readNumber_46 : decode cX3_readNumber 46 = .ok (.iadd, 1) := by decide +kernel
theorem dX3_readNumber_47 : decode cX3_readNumber 47 = .ok (.bipush 48, 2) := by decide +kernel
theorem dX3_readNumber_49 : decode cX3_readNumber 49 = .ok (.isub, 1) := by decide +kernel
theorem dX3_readNumber_50 : decode cX3_readNumber 50 = .ok (.bipush 100, 2) := by decide +kernel
theorem dX3_readNumber_52 : decode cX3_readNumber 52 = .ok (.invokestatic 52, 3) := by decide +kernel
theorem dX3_readNumber_55 : decode cX3_readNumber 55 = .ok (.putfield 28, 3) := by decide +kernel
theorem dX3_readNumber_58 : decode cX3_readNumber 58 = .ok (.aload_n 0, 1) := by decide +kernel
theorem dX3_readNumber_59 : decode cX3_readNumber 59 = .ok (.dup, 1) := by decide +kernel
theorem dX3_readNumber_60 : decode cX3_readNumber 60 = .ok (.getfield 19, 3) := by decide +kernel
theorem dX3_readNumber_63 : decode cX3_readNumber 63 = .ok (.iconst 1, 1) := by decide +kernel
theorem dX3_readNumber_64 : decode cX3_readNumber 64 = .ok (.iadd, 1) := by decide +kernel
theorem dX3_readNumber_65 : decode cX3_readNumber 65 = .ok (.putfield 19, 3) := by decide +kernel
theorem dX3_readNumber_68 : decode cX3_readNumber 68 = .ok (.goto (-63), 3) := by decide +kernel
theorem dX3_readNumber_71 : decode cX3_readNumber 71 = .ok (.aload_n 0, 1) := by decide +kernel
theorem dX3_readNumber_72 : decode cX3_readNumber 72 = .ok (.getfield 9, 3) := by decide +kernel
theorem dX3_readNumber_75 : decode cX3_readNumber 75 = .ok (.aload_n 0, 1) := by decide +kernel
theorem dX3_readNumber_76 : decode cX3_readNumber 76 = .ok (.getfield 22, 3) := by decide +kernel
theorem dX3_readNumber_79 : decode cX3_readNumber 79 = .ok (.invokestatic 35, 3) := by decide +kernel
theorem dX3_readNumber_82 : decode cX3_readNumber 82 = .ok (.bipush 48, 2) := by decide +kernel
theorem dX3_readNumber_84 : decode cX3_readNumber 84 = .ok (.if_icmp .ne 20, 3) := by decide +kernel
theorem dX3_readNumber_87 : decode cX3_readNumber 87 = .ok (.aload_n 0, 1) := by decide +kernel
theorem dX3_readNumber_88 : decode cX3_readNumber 88 = .ok (.getfield 19, 3) := by decide +kernel
theorem dX3_readNumber_91 : decode cX3_readNumber 91 = .ok (.aload_n 0, 1) := by decide +kernel
theorem dX3_readNumber_92 : decode cX3_readNumber 92 = .ok (.getfield 22, 3) := by decide +kernel
theorem dX3_readNumber_95 : decode cX3_readNumber 95 = .ok (.isub, 1) := by decide +kernel
theorem dX3_readNumber_96 : decode cX3_readNumber 96 = .ok (.iconst 1, 1) := by decide +kernel
theorem dX3_readNumber_97 : decode cX3_readNumber 97 = .ok (.if_icmp .le 7, 3) := by decide +kernel
theorem dX3_readNumber_100 : decode cX3_readNumber 100 = .ok (.iconst 1, 1) := by decide +kernel
theorem dX3_readNumber_101 : decode cX3_readNumber 101 = .ok (.goto 4, 3) := by decide +kernel
theorem dX3_readNumber_104 : decode cX3_readNumber 104 = .ok (.iconst 0, 1) := by decide +kernel
theorem dX3_readNumber_105 : decode cX3_readNumber 105 = .ok (.istore_n 1, 1) := by decide +kernel
theorem dX3_readNumber_106 : decode cX3_readNumber 106 = .ok (.aload_n 0, 1) := by decide +kernel
theorem dX3_readNumber_107 : decode cX3_readNumber 107 = .ok (.aload_n 0, 1) := by decide +kernel
theorem dX3_readNumber_108 : decode cX3_readNumber 108 = .ok (.getfield 28, 3) := by decide +kernel
theorem dX3_readNumber_111 : decode cX3_readNumber 111 = .ok (.bipush 99, 2) := by decide +kernel
theorem dX3_readNumber_113 : decode cX3_readNumber 113 = .ok (.if_icmp .gt 7, 3) := by decide +kernel
theorem dX3_readNumber_116 : decode cX3_readNumber 116 = .ok (.iload_n 1, 1) := by decide +kernel
theorem dX3_readNumber_117 : decode cX3_readNumber 117 = .ok (.ifCond .eq 8, 3) := by decide +kernel
theorem dX3_readNumber_120 : decode cX3_readNumber 120 = .ok (.bipush 7, 2) := by decide +kernel
theorem dX3_readNumber_122 : decode cX3_readNumber 122 = .ok (.goto 4, 3) := by decide +kernel
theorem dX3_readNumber_125 : decode cX3_readNumber 125 = .ok (.iconst 4, 1) := by decide +kernel
theorem dX3_readNumber_126 : decode cX3_readNumber 126 = .ok (.putfield 25, 3) := by decide +kernel
theorem dX3_readNumber_129 : decode cX3_readNumber 129 = .ok (.return_, 1) := by decide +kernel
set_option maxRecDepth 20000 in
theorem ggX3_readWord_X3_isLetter : GoodIn wsX3_readWord wsX3_isLetter := goodIn_r _ [8, 2, 9, 10, 11, 12, 67, 68, 69, 70, 71, 72] (by decide +kernel) (by decide +kernel)
set_option maxRecDepth 20000 in
theorem gX3_readWord_X3_isLetter : GoodIn wsX3_readWord (wsV RX3 46 RX3 yX3_isLetter wsX3_isLetter) := goodIn_app (goodIn_of _ (by decide +kernel)) ggX3_readWord_X3_isLetter
set_option maxRecDepth 20000 in
theorem ggX3_readWord_X3_spells : GoodIn wsX3_readWord wsX3_spells := goodIn_r _ [16, 1, 17, 9, 18, 19, 20, 21, 22, 23, 24, 25, 26, 27, 28, 29, 10, 11, 12, 30, 31, 32, 33, 34, 35, 36, 37, 38, 39, 40, 41, 42, 43, 44, 45, 46, 47, 48, 49, 50, 51, 52, 53, 54, 55, 56, 57, 58, 59, 60, 61, 62, 63, 64, 65, 66, 67, 68, 69, 70, 71, 72] (by decide +kernel) (by decide +kernel)
set_option maxRecDepth 20000 in
theorem gX3_readWord_X3_spells : GoodIn wsX3_readWord (wsV RX3 60 RX3 yX3_spells wsX3_spells) := goodIn_app (goodIn_of _ (by decide +kernel)) ggX3_readWord_X3_spells
theorem dX3_readWord_0 : decode cX3_readWord 0 = .ok (.aload_n 0, 1) := by decide +kernel
theorem dX3_readWord_1 : decode cX3_readWord 1 = .ok (.getfield 19, 3) := by decide +kernel
theorem dX3_readWord_4 : decode cX3_readWord 4 = .ok (.aload_n 0, 1) := by decide +kernel
theorem dX3_readWord_5 : decode cX3_readWord 5 = .ok (.getfield 15, 3) := by decide +kernel
theorem dX3_readWord_8 : decode cX3_readWord 8 = .ok (.if_icmp .ge 27, 3) := by decide +kernel
theorem dX3_readWord_11 : decode cX3_readWord 11 = .ok (.aload_n 0, 1) := by decide +kernel
theorem dX3_readWord_12 : decode cX3_readWord 12 = .ok (.aload_n 0, 1) := by decide +kernel
theorem dX3_readWord_13 : decode cX3_readWord 13 = .ok (.getfield 19, 3) := by decide +kernel
theorem dX3_readWord_16 : decode cX3_readWord 16 = .ok (.invokevirtual 46, 3) := by decide +kernel
theorem dX3_readWord_19 : decode cX3_readWord 19 = .ok (.ifCond .eq 16, 3) := by decide +kernel
theorem dX3_readWord_22 : decode cX3_readWord 22 = .ok (.aload_n 0, 1) := by decide +kernel
theorem dX3_readWord_23 : decode cX3_readWord 23 = .ok (.dup, 1) := by decide +kernel
theorem dX3_readWord_24 : decode cX3_readWord 24 = .ok (.getfield 19, 3) := by decide +kernel
theorem dX3_readWord_27 : decode cX3_readWord 27 = .ok (.iconst 1, 1) := by decide +kernel
theorem dX3_readWord_28 : decode cX3_readWord 28 = .ok (.iadd, 1) := by decide +kernel
theorem dX3_readWord_29 : decode cX3_readWord 29 = .ok (.putfield 19, 3) := by decide +kernel
theorem dX3_readWord_32 : decode cX3_readWord 32 = .ok (.goto (-32), 3) := by decide +kernel
theorem dX3_readWord_35 : decode cX3_readWord 35 = .ok (.aload_n 0, 1) := by decide +kernel
theorem dX3_readWord_36 : decode cX3_readWord 36 = .ok (.ldc 58, 2) := by decide +kernel
theorem dX3_readWord_38 : decode cX3_readWord 38 = .ok (.invokevirtual 60, 3) := by decide +kernel
theorem dX3_readWord_41 : decode cX3_readWord 41 = .ok (.ifCond .eq 11, 3) := by decide +kernel
theorem dX3_readWord_44 : decode cX3_readWord 44 = .ok (.aload_n 0, 1) := by decide +kernel
theorem dX3_readWord_45 : decode cX3_readWord 45 = .ok (.iconst 0, 1) := by decide +kernel
theorem dX3_readWord_46 : decode cX3_readWord 46 = .ok (.putfield 25, 3) := by decide +kernel
theorem dX3_readWord_49 : decode cX3_readWord 49 = .ok (.goto 60, 3) := by decide +kernel
theorem dX3_readWord_52 : decode cX3_readWord 52 = .ok (.aload_n 0, 1) := by decide +kernel
theorem dX3_readWord_53 : decode cX3_readWord 53 = .ok (.ldc 64, 2) := by decide +kernel
theorem dX3_readWord_55 : decode cX3_readWord 55 = .ok (.invokevirtual 60, 3) := by decide +kernel
theorem dX3_readWord_58 : decode cX3_readWord 58 = .ok (.ifCond .eq 11, 3) := by decide +kernel
theorem dX3_readWord_61 : decode cX3_readWord 61 = .ok (.aload_n 0, 1) := by decide +kernel
theorem dX3_readWord_62 : decode cX3_readWord 62 = .ok (.iconst 1, 1) := by decide +kernel
theorem dX3_readWord_63 : decode cX3_readWord 63 = .ok (.putfield 25, 3) := by decide +kernel
theorem dX3_readWord_66 : decode cX3_readWord 66 = .ok (.goto 43, 3) := by decide +kernel
theorem dX3_readWord_69 : decode cX3_readWord 69 = .ok (.aload_n 0, 1) := by decide +kernel
theorem dX3_readWord_70 : decode cX3_readWord 70 = .ok (.ldc 66, 2) := by decide +kernel
theorem dX3_readWord_72 : decode cX3_readWord 72 = .ok (.invokevirtual 60, 3) := by decide +kernel
theorem dX3_readWord_75 : decode cX3_readWord 75 = .ok (.ifCond .eq 11, 3) := by decide +kernel
theorem dX3_readWord_78 : decode cX3_readWord 78 = .ok (.aload_n 0, 1) := by decide +kernel
theorem dX3_readWord_79 : decode cX3_readWord 79 = .ok (.iconst 2, 1) := by decide +kernel
theorem dX3_readWord_80 : decode cX3_readWord 80 = .ok (.putfield 25, 3) := by decide +kernel
theorem dX3_readWord_83 : decode cX3_readWord 83 = .ok (.goto 26, 3) := by decide +kernel
theorem dX3_readWord_86 : decode cX3_readWord 86 = .ok (.aload_n 0, 1) := by decide +kernel
theorem dX3_readWord_87 : decode cX3_readWord 87 = .ok (.ldc 68, 2) := by decide +kernel
theorem dX3_readWord_89 : decode cX3_readWord 89 = .ok (.invokevirtual 60, 3) := by decide +kernel
theorem dX3_readWord_92 : decode cX3_readWord 92 = .ok (.ifCond .eq 11, 3) := by decide +kernel
theorem dX3_readWord_95 : decode cX3_readWord 95 = .ok (.aload_n 0, 1) := by decide +kernel
theorem dX3_readWord_96 : decode cX3_readWord 96 = .ok (.iconst 3, 1) := by decide +kernel
theorem dX3_readWord_97 : decode cX3_readWord 97 = .ok (.putfield 25, 3) := by decide +kernel
theorem dX3_readWord_100 : decode cX3_readWord 100 = .ok (.goto 9, 3) := by decide +kernel
theorem dX3_readWord_103 : decode cX3_readWord 103 = .ok (.aload_n 0, 1) := by decide +kernel
theorem dX3_readWord_104 : decode cX3_readWord 104 = .ok (.bipush 7, 2) := by decide +kernel
theorem dX3_readWord_106 : decode cX3_readWord 106 = .ok (.putfield 25, 3) := by decide +kernel
theorem dX3_readWord_109 : decode cX3_readWord 109 = .ok (.return_, 1) := by decide +kernel
set_option maxRecDepth 20000 in
theorem ggX3_spells_J0_length_8abf5 : GoodIn wsX3_spells wsJ0_length_8abf5 := goodIn_r _ [8, 9, 10, 11, 12, 7, 13, 14, 15] (by decide +kernel) (by decide +kernel)
set_option maxRecDepth 20000 in
theorem gX3_spells_J0_length_8abf5 : GoodIn wsX3_spells (wsV RX3 70 RJ0 yJ0_length_8abf5 wsJ0_length_8abf5) := goodIn_app (goodIn_of _ (by decide +kernel)) ggX3_spells_J0_length_8abf5
set_option maxRecDepth 20000 in
theorem ggX3_spells_X5_at : GoodIn wsX3_spells wsX5_at := goodIn_r _ [18] (by decide +kernel) (by decide +kernel)
set_option maxRecDepth 20000 in
theorem gX3_spells_X5_at_n35 : GoodIn wsX3_spells (wsX5_at) := ggX3_spells_X5_at
set_option maxRecDepth 20000 in
theorem ggX3_spells_J0_charAt_5068e : GoodIn wsX3_spells wsJ0_charAt_5068e := goodIn_r _ [22, 9, 23, 24, 25, 7, 26, 14, 15, 27, 28, 29, 30, 31, 32, 33, 34, 35, 36, 37, 38, 39, 40, 41, 42, 43, 44, 45, 46, 47, 48, 49, 50, 51, 52, 53, 54, 55] (by decide +kernel) (by decide +kernel)
set_option maxRecDepth 20000 in
theorem gX3_spells_J0_charAt_5068e : GoodIn wsX3_spells (wsV RX3 75 RJ0 yJ0_charAt_5068e wsJ0_charAt_5068e) := goodIn_app (goodIn_of _ (by decide +kernel)) ggX3_spells_J0_charAt_5068e
theorem dX3_spells_0 : decode cX3_spells 0 = .ok (.aload_n 1, 1) := by decide +kernel
theorem dX3_spells_1 : decode cX3_spells 1 = .ok (.ifnull 19, 3) := by decide +kernel
theorem dX3_spells_4 : decode cX3_spells 4 = .ok (.aload_n 0, 1) := by decide +kernel
theorem dX3_spells_5 : decode cX3_spells 5 = .ok (.getfield 19, 3) := by decide +kernel
theorem dX3_spells_8 : decode cX3_spells 8 = .ok (.aload_n 0, 1) := by decide +kernel
theorem dX3_spells_9 : decode cX3_spells 9 = .ok (.getfield 22, 3) := by decide +kernel
theorem dX3_spells_12 : decode cX3_spells 12 = .ok (.isub, 1) := by decide +kernel
theorem dX3_spells_13 : decode cX3_spells 13 = .ok (.aload_n 1, 1) := by decide +kernel
theorem dX3_spells_14 : decode cX3_spells 14 = .ok (.invokevirtual 70, 3) := by decide +kernel
theorem dX3_spells_17 : decode cX3_spells 17 = .ok (.if_icmp .eq 5, 3) := by decide +kernel
theorem dX3_spells_20 : decode cX3_spells 20 = .ok (.iconst 0, 1) := by decide +kernel
theorem dX3_spells_21 : decode cX3_spells 21 = .ok (.ireturn, 1) := by decide +kernel
theorem dX3_spells_22 : decode cX3_spells 22 = .ok (.iconst 0, 1) := by decide +kernel
theorem dX3_spells_23 : decode cX3_spells 23 = .ok (.istore_n 2, 1) := by decide +kernel
theorem dX3_spells_24 : decode cX3_spells 24 = .ok (.iload_n 2, 1) := by decide +kernel
theorem dX3_spells_25 : decode cX3_spells 25 = .ok (.aload_n 1, 1) := by decide +kernel
theorem dX3_spells_26 : decode cX3_spells 26 = .ok (.invokevirtual 70, 3) := by decide +kernel
theorem dX3_spells_29 : decode cX3_spells 29 = .ok (.if_icmp .ge 32, 3) := by decide +kernel
theorem dX3_spells_32 : decode cX3_spells 32 = .ok (.aload_n 0, 1) := by decide +kernel
theorem dX3_spells_33 : decode cX3_spells 33 = .ok (.getfield 9, 3) := by decide +kernel
theorem dX3_spells_36 : decode cX3_spells 36 = .ok (.aload_n 0, 1) := by decide +kernel
theorem dX3_spells_37 : decode cX3_spells 37 = .ok (.getfield 22, 3) := by decide +kernel
theorem dX3_spells_40 : decode cX3_spells 40 = .ok (.iload_n 2, 1) := by decide +kernel
theorem dX3_spells_41 : decode cX3_spells 41 = .ok (.iadd, 1) := by decide +kernel
theorem dX3_spells_42 : decode cX3_spells 42 = .ok (.invokestatic 35, 3) := by decide +kernel
theorem dX3_spells_45 : decode cX3_spells 45 = .ok (.aload_n 1, 1) := by decide +kernel
theorem dX3_spells_46 : decode cX3_spells 46 = .ok (.iload_n 2, 1) := by decide +kernel
theorem dX3_spells_47 : decode cX3_spells 47 = .ok (.invokevirtual 75, 3) := by decide +kernel
theorem dX3_spells_50 : decode cX3_spells 50 = .ok (.if_icmp .eq 5, 3) := by decide +kernel
theorem dX3_spells_53 : decode cX3_spells 53 = .ok (.iconst 0, 1) := by decide +kernel
theorem dX3_spells_54 : decode cX3_spells 54 = .ok (.ireturn, 1) := by decide +kernel
theorem dX3_spells_55 : decode cX3_spells 55 = .ok (.iinc 2 1, 3) := by decide +kernel
theorem dX3_spells_58 : decode cX3_spells 58 = .ok (.goto (-34), 3) := by decide +kernel
theorem dX3_spells_61 : decode cX3_spells 61 = .ok (.iconst 1, 1) := by decide +kernel
theorem dX3_spells_62 : decode cX3_spells 62 = .ok (.ireturn, 1) := by decide +kernel
set_option maxRecDepth 20000 in
theorem ggX4_init_X2_init : GoodIn wsX4_init wsX2_init := goodIn_r _ [13, 14, 2, 3, 15, 16, 17, 18, 19, 20, 21, 22, 23, 24, 25] (by decide +kernel) (by decide +kernel)
set_option maxRecDepth 20000 in
theorem gX4_init_X2_init : GoodIn wsX4_init (wsX2_init) := ggX4_init_X2_init
theorem dX4_init_0 : decode cX4_init 0 = .ok (.aload_n 0, 1) := by decide +kernel
theorem dX4_init_1 : decode cX4_init 1 = .ok (.invokespecial 3, 3) := by decide +kernel
theorem dX4_init_4 : decode cX4_init 4 = .ok (.aload_n 0, 1) := by decide +kernel
theorem dX4_init_5 : decode cX4_init 5 = .ok (.new 9, 3) := by decide +kernel
theorem dX4_init_8 : decode cX4_init 8 = .ok (.dup, 1) := by decide +kernel
theorem dX4_init_9 : decode cX4_init 9 = .ok (.iconst 5, 1) := by decide +kernel
theorem dX4_init_10 : decode cX4_init 10 = .ok (.invokespecial 11, 3) := by decide +kernel
theorem dX4_init_13 : decode cX4_init 13 = .ok (.putfield 14, 3) := by decide +kernel
theorem dX4_init_16 : decode cX4_init 16 = .ok (.aload_n 0, 1) := by decide +kernel
theorem dX4_init_17 : decode cX4_init 17 = .ok (.new 9, 3) := by decide +kernel
theorem dX4_init_20 : decode cX4_init 20 = .ok (.dup, 1) := by decide +kernel
theorem dX4_init_21 : decode cX4_init 21 = .ok (.iconst 5, 1) := by decide +kernel
theorem dX4_init_22 : decode cX4_init 22 = .ok (.invokespecial 11, 3) := by decide +kernel
theorem dX4_init_25 : decode cX4_init 25 = .ok (.putfield 20, 3) := by decide +kernel
theorem dX4_init_28 : decode cX4_init 28 = .ok (.aload_n 0, 1) := by decide +kernel
theorem dX4_init_29 : decode cX4_init 29 = .ok (.new 9, 3) := by decide +kernel
theorem dX4_init_32 : decode cX4_init 32 = .ok (.dup, 1) := by decide +kernel
theorem dX4_init_33 : decode cX4_init 33 = .ok (.iconst 3, 1) := by decide +kernel
theorem dX4_init_34 : decode cX4_init 34 = .ok (.invokespecial 11, 3) := by decide +kernel
theorem dX4_init_37 : decode cX4_init 37 = .ok (.putfield 23, 3) := by decide +kernel
theorem dX4_init_40 : decode cX4_init 40 = .ok (.aload_n 0, 1) := by decide +kernel
theorem dX4_init_41 : decode cX4_init 41 = .ok (.new 9, 3) := by decide +kernel
theorem dX4_init_44 : decode cX4_init 44 = .ok (.dup, 1) := by decide +kernel
theorem dX4_init_45 : decode cX4_init 45 = .ok (.iconst 5, 1) := by decide +kernel
theorem dX4_init_46 : decode cX4_init 46 = .ok (.invokespecial 11, 3) := by decide +kernel
theorem dX4_init_49 : decode cX4_init 49 = .ok (.putfield 26, 3) := by decide +kernel
theorem dX4_init_52 : decode cX4_init 52 = .ok (.return_, 1) := by decide +kernel
set_option maxRecDepth 20000 in
theorem ggX4_empty_X2_empty : GoodIn wsX4_empty wsX2_empty := goodIn_r _ [9, 10, 15, 16, 17] (by decide +kernel) (by decide +kernel)
set_option maxRecDepth 20000 in
theorem gX4_empty_X2_empty : GoodIn wsX4_empty (wsV RX4 29 RX2 yX2_empty wsX2_empty) := goodIn_app (goodIn_of _ (by decide +kernel)) ggX4_empty_X2_empty
theorem dX4_empty_0 : decode cX4_empty 0 = .ok (.aload_n 0, 1) := by decide +kernel
theorem dX4_empty_1 : decode cX4_empty 1 = .ok (.getfield 14, 3) := by decide +kernel
theorem dX4_empty_4 : decode cX4_empty 4 = .ok (.invokevirtual 29, 3) := by decide +kernel
theorem dX4_empty_7 : decode cX4_empty 7 = .ok (.aload_n 0, 1) := by decide +kernel
theorem dX4_empty_8 : decode cX4_empty 8 = .ok (.getfield 20, 3) := by decide +kernel
theorem dX4_empty_11 : decode cX4_empty 11 = .ok (.invokevirtual 29, 3) := by decide +kernel
theorem dX4_empty_14 : decode cX4_empty 14 = .ok (.aload_n 0, 1) := by decide +kernel
theorem dX4_empty_15 : decode cX4_empty 15 = .ok (.getfield 23, 3) := by decide +kernel
theorem dX4_empty_18 : decode cX4_empty 18 = .ok (.invokevirtual 29, 3) := by decide +kernel
theorem dX4_empty_21 : decode cX4_empty 21 = .ok (.aload_n 0, 1) := by decide +kernel
theorem dX4_empty_22 : decode cX4_empty 22 = .ok (.getfield 26, 3) := by decide +kernel
theorem dX4_empty_25 : decode cX4_empty 25 = .ok (.invokevirtual 29, 3) := by decide +kernel
theorem dX4_empty_28 : decode cX4_empty 28 = .ok (.return_, 1) := by decide +kernel
set_option maxRecDepth 20000 in
theorem ggX4_copyFrom_X2_copyFrom : GoodIn wsX4_copyFrom wsX2_copyFrom := goodIn_r _ [9, 10, 11, 12, 13, 14, 15, 16, 17, 18, 19, 20, 21, 26, 27, 28] (by decide +kernel) (by decide +kernel)
set_option maxRecDepth 20000 in
theorem gX4_copyFrom_X2_copyFrom : GoodIn wsX4_copyFrom (wsV RX4 32 RX2 yX2_copyFrom wsX2_copyFrom) := goodIn_app (goodIn_of _ (by decide +kernel)) ggX4_copyFrom_X2_copyFrom
theorem dX4_copyFrom_0 : decode cX4_copyFrom 0 = .ok (.aload_n 1, 1) := by decide +kernel
theorem dX4_copyFrom_1 : decode cX4_copyFrom 1 = .ok (.ifnonnull 4, 3) := by decide +kernel
theorem dX4_copyFrom_4 : decode cX4_copyFrom 4 = .ok (.return_, 1) := by decide +kernel
theorem dX4_copyFrom_5 : decode cX4_copyFrom 5 = .ok (.aload_n 0, 1) := by decide +kernel
theorem dX4_copyFrom_6 : decode cX4_copyFrom 6 = .ok (.getfield 14, 3) := by decide +kernel
theorem dX4_copyFrom_9 : decode cX4_copyFrom 9 = .ok (.aload_n 1, 1) := by decide +kernel
theorem dX4_copyFrom_10 : decode cX4_copyFrom 10 = .ok (.getfield 14, 3) := by decide +kernel
theorem dX4_copyFrom_13 : decode cX4_copyFrom 13 = .ok (.invokevirtual 32, 3) := by decide +kernel
theorem dX4_copyFrom_16 : decode cX4_copyFrom 16 = .ok (.aload_n 0, 1) := by decide +kernel
theorem dX4_copyFrom_17 : decode cX4_copyFrom 17 = .ok (.getfield 20, 3) := by decide +kernel
theorem dX4_copyFrom_20 : decode cX4_copyFrom 20 = .ok (.aload_n 1, 1) := by decide +kernel
theorem dX4_copyFrom_21 : decode cX4_copyFrom 21 = .ok (.getfield 20, 3) := by decide +kernel
theorem dX4_copyFrom_24 : decode cX4_copyFrom 24 = .ok (.invokevirtual 32, 3) := by decide +kernel
theorem dX4_copyFrom_27 : decode cX4_copyFrom 27 = .ok (.aload_n 0, 1) := by decide +kernel
theorem dX4_copyFrom_28 : decode cX4_copyFrom 28 = .ok (.getfield 23, 3) := by decide +kernel
theorem dX4_copyFrom_31 : decode cX4_copyFrom 31 = .ok (.aload_n 1, 1) := by decide +kernel
theorem dX4_copyFrom_32 : decode cX4_copyFrom 32 = .ok (.getfield 23, 3) := by decide +kernel
theorem dX4_copyFrom_35 : decode cX4_copyFrom 35 = .ok (.invokevirtual 32, 3) := by decide +kernel
theorem dX4_copyFrom_38 : decode cX4_copyFrom 38 = .ok (.aload_n 0, 1) := by decide +kernel
theorem dX4_copyFrom_39 : decode cX4_copyFrom 39 = .ok (.getfield 26, 3) := by decide +kernel
theorem dX4_copyFrom_42 : decode cX4_copyFrom 42 = .ok (.aload_n 1, 1) := by decide +kernel
theorem dX4_copyFrom_43 : decode cX4_copyFrom 43 = .ok (.getfield 26, 3) := by decide +kernel
theorem dX4_copyFrom_46 : decode cX4_copyFrom 46 = .ok (.invokevirtual 32, 3) := by decide +kernel
theorem dX4_copyFrom_49 : decode cX4_copyFrom 49 = .ok (.return_, 1) := by decide +kernel
theorem dX4_rowsOf_0 : decode cX4_rowsOf 0 = .ok (.iload_n 1, 1) := by decide +kernel
theorem dX4_rowsOf_1 : decode cX4_rowsOf 1 = .ok (.tableswitch 42 0 2 #[27, 32, 37], 27) := by decide +kernel
theorem dX4_rowsOf_28 : decode cX4_rowsOf 28 = .ok (.aload_n 0, 1) := by decide +kernel
theorem dX4_rowsOf_29 : decode cX4_rowsOf 29 = .ok (.getfield 14, 3) := by decide +kernel
theorem dX4_rowsOf_32 : decode cX4_rowsOf 32 = .ok (.areturn, 1) := by decide +kernel
theorem dX4_rowsOf_33 : decode cX4_rowsOf 33 = .ok (.aload_n 0, 1) := by decide +kernel
theorem dX4_rowsOf_34 : decode cX4_rowsOf 34 = .ok (.getfield 20, 3) := by decide +kernel
theorem dX4_rowsOf_37 : decode cX4_rowsOf 37 = .ok (.areturn, 1) := by decide +kernel
theorem dX4_rowsOf_38 : decode cX4_rowsOf 38 = .ok (.aload_n 0, 1) := by decide +kernel
theorem dX4_rowsOf_39 : decode cX4_rowsOf 39 = .ok (.getfield 23, 3) := by decide +kernel
theorem dX4_rowsOf_42 : decode cX4_rowsOf 42 = .ok (.areturn, 1) := by decide +kernel
theorem dX4_rowsOf_43 : decode cX4_rowsOf 43 = .ok (.aload_n 0, 1) := by decide +kernel
theorem dX4_rowsOf_44 : decode cX4_rowsOf 44 = .ok (.getfield 26, 3) := by decide +kernel
theorem dX4_rowsOf_47 : decode cX4_rowsOf 47 = .ok (.areturn, 1) := by decide +kernel
set_option maxRecDepth 20000 in
theorem ggX4_notesSpoken_X2_number : GoodIn wsX4_notesSpoken wsX2_number := goodIn_r _ [7, 8, 9, 10, 11, 6, 12, 13, 14, 15, 16, 21, 22, 23] (by decide +kernel) (by decide +kernel)
set_option maxRecDepth 20000 in
theorem gX4_notesSpoken_X2_number : GoodIn wsX4_notesSpoken (wsV RX4 40 RX2 yX2_number wsX2_number) := goodIn_app (goodIn_of _ (by decide +kernel)) ggX4_notesSpoken_X2_number
theorem dX4_notesSpoken_0 : decode cX4_notesSpoken 0 = .ok (.iconst 0, 1) := by decide +kernel
theorem dX4_notesSpoken_1 : decode cX4_notesSpoken 1 = .ok (.istore_n 3, 1) := by decide +kernel
theorem dX4_notesSpoken_2 : decode cX4_notesSpoken 2 = .ok (.iconst 0, 1) := by decide +kernel
theorem dX4_notesSpoken_3 : decode cX4_notesSpoken 3 = .ok (.istore 4, 2) := by decide +kernel
theorem dX4_notesSpoken_5 : decode cX4_notesSpoken 5 = .ok (.iload 4, 2) := by decide +kernel
theorem dX4_notesSpoken_7 : decode cX4_notesSpoken 7 = .ok (.aload_n 0, 1) := by decide +kernel
theorem dX4_notesSpoken_8 : decode cX4_notesSpoken 8 = .ok (.getfield 20, 3) := by decide +kernel
theorem dX4_notesSpoken_11 : decode cX4_notesSpoken 11 = .ok (.getfield 36, 3) := by decide +kernel
theorem dX4_notesSpoken_14 : decode cX4_notesSpoken 14 = .ok (.if_icmp .ge 78, 3) := by decide +kernel
theorem dX4_notesSpoken_17 : decode cX4_notesSpoken 17 = .ok (.aload_n 0, 1) := by decide +kernel
theorem dX4_notesSpoken_18 : decode cX4_notesSpoken 18 = .ok (.getfield 20, 3) := by decide +kernel
theorem dX4_notesSpoken_21 : decode cX4_notesSpoken 21 = .ok (.iload 4, 2) := by decide +kernel
theorem dX4_notesSpoken_23 : decode cX4_notesSpoken 23 = .ok (.iconst 2, 1) := by decide +kernel
theorem dX4_notesSpoken_24 : decode cX4_notesSpoken 24 = .ok (.invokevirtual 40, 3) := by decide +kernel
theorem dX4_notesSpoken_27 : decode cX4_notesSpoken 27 = .ok (.iload_n 2, 1) := by decide +kernel
theorem dX4_notesSpoken_28 : decode cX4_notesSpoken 28 = .ok (.if_icmp .gt 21, 3) := by decide +kernel
theorem dX4_notesSpoken_31 : decode cX4_notesSpoken 31 = .ok (.iload_n 2, 1) := by decide +kernel
theorem dX4_notesSpoken_32 : decode cX4_notesSpoken 32 = .ok (.aload_n 0, 1) := by decide +kernel
theorem dX4_notesSpoken_33 : decode cX4_notesSpoken 33 = .ok (.getfield 20, 3) := by decide +kernel
theorem dX4_notesSpoken_36 : decode cX4_notesSpoken 36 = .ok (.iload 4, 2) := by decide +kernel
theorem dX4_notesSpoken_38 : decode cX4_notesSpoken 38 = .ok (.iconst 3, 1) := by decide +kernel
theorem dX4_notesSpoken_39 : decode cX4_notesSpoken 39 = .ok (.invokevirtual 40, 3) := by decide +kernel
theorem dX4_notesSpoken_42 : decode cX4_notesSpoken 42 = .ok (.if_icmp .gt 7, 3) := by decide +kernel
theorem dX4_notesSpoken_45 : decode cX4_notesSpoken 45 = .ok (.iconst 1, 1) := by decide +kernel
theorem dX4_notesSpoken_46 : decode cX4_notesSpoken 46 = .ok (.goto 4, 3) := by decide +kernel
theorem dX4_notesSpoken_49 : decode cX4_notesSpoken 49 = .ok (.iconst 0, 1) := by decide +kernel
theorem dX4_notesSpoken_50 : decode cX4_notesSpoken 50 = .ok (.istore 5, 2) := by decide +kernel
theorem dX4_notesSpoken_52 : decode cX4_notesSpoken 52 = .ok (.iload 5, 2) := by decide +kernel
theorem dX4_notesSpoken_54 : decode cX4_notesSpoken 54 = .ok (.ifCond .eq 32, 3) := by decide +kernel
theorem dX4_notesSpoken_57 : decode cX4_notesSpoken 57 = .ok (.aload_n 0, 1) := by decide +kernel
theorem dX4_notesSpoken_58 : decode cX4_notesSpoken 58 = .ok (.getfield 20, 3) := by decide +kernel
theorem dX4_notesSpoken_61 : decode cX4_notesSpoken 61 = .ok (.iload 4, 2) := by decide +kernel
theorem dX4_notesSpoken_63 : decode cX4_notesSpoken 63 = .ok (.iconst 0, 1) := by decide +kernel
theorem dX4_notesSpoken_64 : decode cX4_notesSpoken 64 = .ok (.invokevirtual 40, 3) := by decide +kernel
theorem dX4_notesSpoken_67 : decode cX4_notesSpoken 67 = .ok (.iload_n 1, 1) := by decide +kernel
theorem dX4_notesSpoken_68 : decode cX4_notesSpoken 68 = .ok (.if_icmp .ne 18, 3) := by decide +kernel
theorem dX4_notesSpoken_71 : decode cX4_notesSpoken 71 = .ok (.iload_n 3, 1) := by decide +kernel
theorem dX4_notesSpoken_72 : decode cX4_notesSpoken 72 = .ok (.iconst 1, 1) := by decide +kernel
theorem dX4_notesSpoken_73 : decode cX4_notesSpoken 73 = .ok (.aload_n 0, 1) := by decide +kernel
theorem dX4_notesSpoken_74 : decode cX4_notesSpoken 74 = .ok (.getfield 20, 3) := by decide +kernel
theorem dX4_notesSpoken_77 : decode cX4_notesSpoken 77 = .ok (.iload 4, 2) := by decide +kernel
theorem dX4_notesSpoken_79 : decode cX4_notesSpoken 79 = .ok (.iconst 1, 1) := by decide +kernel
theorem dX4_notesSpoken_80 : decode cX4_notesSpoken 80 = .ok (.invokevirtual 40, 3) := by decide +kernel
theorem dX4_notesSpoken_83 : decode cX4_notesSpoken 83 = .ok (.ishl, 1) := by decide +kernel
theorem dX4_notesSpoken_84 : decode cX4_notesSpoken 84 = .ok (.ior, 1) := by decide +kernel
theorem dX4_notesSpoken_85 : decode cX4_notesSpoken 85 = .ok (.istore_n 3, 1) := by decide +kernel
theorem dX4_notesSpoken_86 : decode cX4_notesSpoken 86 = .ok (.iinc 4 1, 3) := by decide +kernel
theorem dX4_notesSpoken_89 : decode cX4_notesSpoken 89 = .ok (.goto (-84), 3) := by decide +kernel
theorem dX4_notesSpoken_92 : decode cX4_notesSpoken 92 = .ok (.iload_n 3, 1) := by decide +kernel
theorem dX4_notesSpoken_93 : decode cX4_notesSpoken 93 = .ok (.ireturn, 1) := by decide +kernel
set_option maxRecDepth 20000 in
theorem ggX4_notesOfNoises_X2_number : GoodIn wsX4_notesOfNoises wsX2_number := goodIn_r _ [7, 8, 9, 10, 11, 6, 12, 13, 14, 15, 16, 25, 26, 27] (by decide +kernel) (by decide +kernel)
set_option maxRecDepth 20000 in
theorem gX4_notesOfNoises_X2_number : GoodIn wsX4_notesOfNoises (wsV RX4 40 RX2 yX2_number wsX2_number) := goodIn_app (goodIn_of _ (by decide +kernel)) ggX4_notesOfNoises_X2_number
set_option maxRecDepth 20000 in
theorem ggX4_notesOfNoises_X4_isLawful : GoodIn wsX4_notesOfNoises wsX4_isLawful := goodIn_r _ [20] (by decide +kernel) (by decide +kernel)
set_option maxRecDepth 20000 in
theorem gX4_notesOfNoises_X4_isLawful : GoodIn wsX4_notesOfNoises (va_wsS RX4 44 yX4_isLawful wsX4_isLawful) := goodIn_app (goodIn_of _ (by decide +kernel)) ggX4_notesOfNoises_X4_isLawful
theorem dX4_notesOfNoises_0 : decode cX4_notesOfNoises 0 = .ok (.iconst 0, 1) := by decide +kernel
theorem dX4_notesOfNoises_1 : decode cX4_notesOfNoises 1 = .ok (.istore_n 2, 1) := by decide +kernel
theorem dX4_notesOfNoises_2 : decode cX4_notesOfNoises 2 = .ok (.iconst 0, 1) := by decide +kernel
theorem dX4_notesOfNoises_3 : decode cX4_notesOfNoises 3 = .ok (.istore_n 3, 1) := by decide +kernel
theorem dX4_notesOfNoises_4 : decode cX4_notesOfNoises 4 = .ok (.iload_n 3, 1) := by decide +kernel
theorem dX4_notesOfNoises_5 : decode cX4_notesOfNoises 5 = .ok (.aload_n 0, 1) := by decide +kernel
theorem dX4_notesOfNoises_6 : decode cX4_notesOfNoises 6 = .ok (.getfield 23, 3) := by decide +kernel
theorem dX4_notesOfNoises_9 : decode cX4_notesOfNoises 9 = .ok (.getfield 36, 3) := by decide +kernel
theorem dX4_notesOfNoises_12 : decode cX4_notesOfNoises 12 = .ok (.if_icmp .ge 48, 3) := by decide +kernel
theorem dX4_notesOfNoises_15 : decode cX4_notesOfNoises 15 = .ok (.iload_n 1, 1) := by decide +kernel
theorem dX4_notesOfNoises_16 : decode cX4_notesOfNoises 16 = .ok (.aload_n 0, 1) := by decide +kernel
theorem dX4_notesOfNoises_17 : decode cX4_notesOfNoises 17 = .ok (.getfield 23, 3) := by decide +kernel
theorem dX4_notesOfNoises_20 : decode cX4_notesOfNoises 20 = .ok (.iload_n 3, 1) := by decide +kernel
theorem dX4_notesOfNoises_21 : decode cX4_notesOfNoises 21 = .ok (.iconst 1, 1) := by decide +kernel
theorem dX4_notesOfNoises_22 : decode cX4_notesOfNoises 22 = .ok (.invokevirtual 40, 3) := by decide +kernel
theorem dX4_notesOfNoises_25 : decode cX4_notesOfNoises 25 = .ok (.aload_n 0, 1) := by decide +kernel
theorem dX4_notesOfNoises_26 : decode cX4_notesOfNoises 26 = .ok (.getfield 23, 3) := by decide +kernel
theorem dX4_notesOfNoises_29 : decode cX4_notesOfNoises 29 = .ok (.iload_n 3, 1) := by decide +kernel
theorem dX4_notesOfNoises_30 : decode cX4_notesOfNoises 30 = .ok (.iconst 2, 1) := by decide +kernel
theorem dX4_notesOfNoises_31 : decode cX4_notesOfNoises 31 = .ok (.invokevirtual 40, 3) := by decide +kernel
theorem dX4_notesOfNoises_34 : decode cX4_notesOfNoises 34 = .ok (.invokestatic 44, 3) := by decide +kernel
theorem dX4_notesOfNoises_37 : decode cX4_notesOfNoises 37 = .ok (.ifCond .eq 17, 3) := by decide +kernel
theorem dX4_notesOfNoises_40 : decode cX4_notesOfNoises 40 = .ok (.iload_n 2, 1) := by decide +kernel
theorem dX4_notesOfNoises_41 : decode cX4_notesOfNoises 41 = .ok (.iconst 1, 1) := by decide +kernel
theorem dX4_notesOfNoises_42 : decode cX4_notesOfNoises 42 = .ok (.aload_n 0, 1) := by decide +kernel
theorem dX4_notesOfNoises_43 : decode cX4_notesOfNoises 43 = .ok (.getfield 23, 3) := by decide +kernel
theorem dX4_notesOfNoises_46 : decode cX4_notesOfNoises 46 = .ok (.iload_n 3, 1) := by decide +kernel
theorem dX4_notesOfNoises_47 : decode cX4_notesOfNoises 47 = .ok (.iconst 0, 1) := by decide +kernel
theorem dX4_notesOfNoises_48 : decode cX4_notesOfNoises 48 = .ok (.invokevirtual 40, 3) := by decide +kernel
theorem dX4_notesOfNoises_51 : decode cX4_notesOfNoises 51 = .ok (.ishl, 1) := by decide +kernel
theorem dX4_notesOfNoises_52 : decode cX4_notesOfNoises 52 = .ok (.ior, 1) := by decide +kernel
theorem dX4_notesOfNoises_53 : decode cX4_notesOfNoises 53 = .ok (.istore_n 2, 1) := by decide +kernel
theorem dX4_notesOfNoises_54 : decode cX4_notesOfNoises 54 = .ok (.iinc 3 1, 3) := by decide +kernel
theorem dX4_notesOfNoises_57 : decode cX4_notesOfNoises 57 = .ok (.goto (-53), 3) := by decide +kernel
theorem dX4_notesOfNoises_60 : decode cX4_notesOfNoises 60 = .ok (.iload_n 2, 1) := by decide +kernel
theorem dX4_notesOfNoises_61 : decode cX4_notesOfNoises 61 = .ok (.ireturn, 1) := by decide +kernel
theorem dX4_isLawful_0 : decode cX4_isLawful 0 = .ok (.iload_n 1, 1) := by decide +kernel
theorem dX4_isLawful_1 : decode cX4_isLawful 1 = .ok (.ifCond .le 14, 3) := by decide +kernel
theorem dX4_isLawful_4 : decode cX4_isLawful 4 = .ok (.iload_n 0, 1) := by decide +kernel
theorem dX4_isLawful_5 : decode cX4_isLawful 5 = .ok (.iload_n 1, 1) := by decide +kernel
theorem dX4_isLawful_6 : decode cX4_isLawful 6 = .ok (.irem, 1) := by decide +kernel
theorem dX4_isLawful_7 : decode cX4_isLawful 7 = .ok (.iload_n 2, 1) := by decide +kernel
theorem dX4_isLawful_8 : decode cX4_isLawful 8 = .ok (.if_icmp .ne 7, 3) := by decide +kernel
theorem dX4_isLawful_11 : decode cX4_isLawful 11 = .ok (.iconst 1, 1) := by decide +kernel
theorem dX4_isLawful_12 : decode cX4_isLawful 12 = .ok (.goto 4, 3) := by decide +kernel
theorem dX4_isLawful_15 : decode cX4_isLawful 15 = .ok (.iconst 0, 1) := by decide +kernel
theorem dX4_isLawful_16 : decode cX4_isLawful 16 = .ok (.ireturn, 1) := by decide +kernel
set_option maxRecDepth 20000 in
theorem ggX5_init_X3_init : GoodIn wsX5_init wsX3_init := goodIn_r _ [30, 31, 2, 3, 23, 32, 33, 34, 35, 36, 37, 75, 76, 77, 78, 79, 80] (by decide +kernel) (by decide +kernel)
set_option maxRecDepth 20000 in
theorem gX5_init_X3_init : GoodIn wsX5_init (wsX3_init) := ggX5_init_X3_init
set_option maxRecDepth 20000 in
theorem ggX5_init_X1_init : GoodIn wsX5_init wsX1_init := goodIn_r _ [40, 41, 2, 3, 23, 42, 92] (by decide +kernel) (by decide +kernel)
set_option maxRecDepth 20000 in
theorem gX5_init_X1_init : GoodIn wsX5_init (wsX1_init) := ggX5_init_X1_init
set_option maxRecDepth 20000 in
theorem ggX5_init_X4_init : GoodIn wsX5_init wsX4_init := goodIn_r _ [45, 46, 2, 3, 47, 48, 49, 50, 51, 52, 53, 54, 55, 56, 57, 23, 58, 59, 60, 61, 62, 63, 64, 101, 102, 103, 93, 94, 95, 96] (by decide +kernel) (by decide +kernel)
set_option maxRecDepth 20000 in
theorem gX5_init_X4_init : GoodIn wsX5_init (wsX4_init) := ggX5_init_X4_init
set_option maxRecDepth 20000 in
theorem ggX5_init_X0_init : GoodIn wsX5_init wsX0_init := goodIn_r _ [67, 68, 2, 3, 69, 48, 49, 70, 71, 72, 73, 74, 55, 56, 57, 23, 58, 59, 60, 61, 62, 63, 64, 101, 102, 103, 97, 98, 99, 100] (by decide +kernel) (by decide +kernel)
set_option maxRecDepth 20000 in
theorem gX5_init_X0_init : GoodIn wsX5_init (wsX0_init) := ggX5_init_X0_init
theorem dX5_init_0 : decode cX5_init 0 = .ok (.aload_n 0, 1) := by decide +kernel

theorem dX5_lentInVain_52 : decode cX5_lentInVain 52 = .ok (.getfield 26, 3) := by decide +kernel
theorem dX5_lentInVain_55 : decode cX5_lentInVain 55 = .ok (.getfield 106, 3) := by decide +kernel
theorem dX5_lentInVain_58 : decode cX5_lentInVain 58 = .ok (.aload_n 0, 1) := by decide +kernel
theorem dX5_lentInVain_59 : decode cX5_lentInVain 59 = .ok (.getfield 36, 3) := by decide +kernel
theorem dX5_lentInVain_62 : decode cX5_lentInVain 62 = .ok (.getfield 126, 3) := by decide +kernel
theorem dX5_lentInVain_65 : decode cX5_lentInVain 65 = .ok (.iload_n 2, 1) := by decide +kernel
theorem dX5_lentInVain_66 : decode cX5_lentInVain 66 = .ok (.iconst 2, 1) := by decide +kernel
theorem dX5_lentInVain_67 : decode cX5_lentInVain 67 = .ok (.invokevirtual 110, 3) := by decide +kernel
theorem dX5_lentInVain_70 : decode cX5_lentInVain 70 = .ok (.iconst 0, 1) := by decide +kernel
theorem dX5_lentInVain_71 : decode cX5_lentInVain 71 = .ok (.invokevirtual 110, 3) := by decide +kernel
theorem dX5_lentInVain_74 : decode cX5_lentInVain 74 = .ok (.if_icmp .eq 6, 3) := by decide +kernel
theorem dX5_lentInVain_77 : decode cX5_lentInVain 77 = .ok (.iinc 1 1, 3) := by decide +kernel
theorem dX5_lentInVain_80 : decode cX5_lentInVain 80 = .ok (.iinc 2 1, 3) := by decide +kernel
theorem dX5_lentInVain_83 : decode cX5_lentInVain 83 = .ok (.goto (-79), 3) := by decide +kernel
theorem dX5_lentInVain_86 : decode cX5_lentInVain 86 = .ok (.iload_n 1, 1) := by decide +kernel
theorem dX5_lentInVain_87 : decode cX5_lentInVain 87 = .ok (.ireturn, 1) := by decide +kernel
set_option maxRecDepth 20000 in
theorem ggX5_sureOf_X5_hasBit : GoodIn wsX5_sureOf wsX5_hasBit := goodIn_r _ [7] (by decide +kernel) (by decide +kernel)
set_option maxRecDepth 20000 in
theorem gX5_sureOf_X5_hasBit : GoodIn wsX5_sureOf (va_wsS RX5 165 yX5_hasBit wsX5_hasBit) := goodIn_app (goodIn_of _ (by decide +kernel)) ggX5_sureOf_X5_hasBit
set_option maxRecDepth 20000 in
theorem ggX5_sureOf_X2_number : GoodIn wsX5_sureOf wsX2_number := goodIn_r _ [12, 13, 14, 15, 16, 11, 17, 18, 19, 6, 20, 36, 37, 38] (by decide +kernel) (by decide +kernel)
set_option maxRecDepth 20000 in
theorem gX5_sureOf_X2_number : GoodIn wsX5_sureOf (wsV RX5 110 RX2 yX2_number wsX2_number) := goodIn_app (goodIn_of _ (by decide +kernel)) ggX5_sureOf_X2_number
theorem dX5_sureOf_0 : decode cX5_sureOf 0 = .ok (.iconst 0, 1) := by decide +kernel
theorem dX5_sureOf_1 : decode cX5_sureOf 1 = .ok (.istore_n 2, 1) := by decide +kernel
theorem dX5_sureOf_2 : decode cX5_sureOf 2 = .ok (.iconst 0, 1) := by decide +kernel
theorem dX5_sureOf_3 : decode cX5_sureOf 3 = .ok (.istore_n 3, 1) := by decide +kernel
theorem dX5_sureOf_4 : decode cX5_sureOf 4 = .ok (.iload_n 3, 1) := by decide +kernel
theorem dX5_sureOf_5 : decode cX5_sureOf 5 = .ok (.aload_n 0, 1) := by decide +kernel
theorem dX5_sureOf_6 : decode cX5_sureOf 6 = .ok (.getfield 26, 3) := by decide +kernel
theorem dX5_sureOf_9 : decode cX5_sureOf 9 = .ok (.getfield 106, 3) := by decide +kernel
theorem dX5_sureOf_12 : decode cX5_sureOf 12 = .ok (.getfield 136, 3) := by decide +kernel
theorem dX5_sureOf_15 : decode cX5_sureOf 15 = .ok (.if_icmp .ge 32, 3) := by decide +kernel
theorem dX5_sureOf_18 : decode cX5_sureOf 18 = .ok (.iload_n 1, 1) := by decide +kernel
theorem dX5_sureOf_19 : decode cX5_sureOf 19 = .ok (.iload_n 3, 1) := by decide +kernel
theorem dX5_sureOf_20 : decode cX5_sureOf 20 = .ok (.invokestatic 165, 3) := by decide +kernel
theorem dX5_sureOf_23 : decode cX5_sureOf 23 = .ok (.ifCond .eq 18, 3) := by decide +kernel
theorem dX5_sureOf_26 : decode cX5_sureOf 26 = .ok (.iload_n 2, 1) := by decide +kernel
theorem dX5_sureOf_27 : decode cX5_sureOf 27 = .ok (.aload_n 0, 1) := by decide +kernel
theorem dX5_sureOf_28 : decode cX5_sureOf 28 = .ok (.getfield 26, 3) := by decide +kernel
theorem dX5_sureOf_31 : decode cX5_sureOf 31 = .ok (.getfield 106, 3) := by decide +kernel
theorem dX5_sureOf_34 : decode cX5_sureOf 34 = .ok (.iload_n 3, 1) := by decide +kernel
theorem dX5_sureOf_35 : decode cX5_sureOf 35 = .ok (.iconst 1, 1) := by decide +kernel
theorem dX5_sureOf_36 : decode cX5_sureOf 36 = .ok (.invokevirtual 110, 3) := by decide +kernel
theorem dX5_sureOf_39 : decode cX5_sureOf 39 = .ok (.iadd, 1) := by decide +kernel
theorem dX5_sureOf_40 : decode cX5_sureOf 40 = .ok (.istore_n 2, 1) := by decide +kernel
theorem dX5_sureOf_41 : decode cX5_sureOf 41 = .ok (.iinc 3 1, 3) := by decide +kernel
theorem dX5_sureOf_44 : decode cX5_sureOf 44 = .ok (.goto (-40), 3) := by decide +kernel
theorem dX5_sureOf_47 : decode cX5_sureOf 47 = .ok (.iload_n 2, 1) := by decide +kernel
theorem dX5_sureOf_48 : decode cX5_sureOf 48 = .ok (.ireturn, 1) := by decide +kernel
set_option maxRecDepth 20000 in
theorem ggX5_bestAskers_X5_countSlots : GoodIn wsX5_bestAskers wsX5_countSlots := goodIn_r _ [8, 9, 10, 11, 3, 12, 13, 7, 14, 15, 16, 17, 18, 19, 20, 21, 22, 23, 24, 25, 26, 27, 28, 29, 30, 31, 32, 33, 34, 35, 36, 37, 38, 51, 52, 53, 54, 55, 56, 57, 58, 59, 60, 61, 69, 70, 71, 72, 66, 67, 68] (by decide +kernel) (by decide +kernel)
set_option maxRecDepth 20000 in
theorem gX5_bestAskers_X5_countSlots : GoodIn wsX5_bestAskers (wsV RX5 241 RX5 yX5_countSlots wsX5_countSlots) := goodIn_app (goodIn_of _ (by decide +kernel)) ggX5_bestAskers_X5_countSlots
set_option maxRecDepth 20000 in
theorem ggX5_bestAskers_X5_sureOf : GoodIn wsX5_bestAskers wsX5_sureOf := goodIn_r _ [42, 1, 2, 3, 43, 44, 7, 45, 46, 22, 23, 24, 25, 26, 27, 28, 29, 30, 31, 32, 33, 51, 52, 53, 54, 55, 56, 57, 58, 59, 60, 61, 62, 63, 64, 65, 66, 67, 68] (by decide +kernel) (by decide +kernel)
set_option maxRecDepth 20000 in
theorem gX5_bestAskers_X5_sureOf : GoodIn wsX5_bestAskers (wsV RX5 159 RX5 yX5_sureOf wsX5_sureOf) := goodIn_app (goodIn_of _ (by decide +kernel)) ggX5_bestAskers_X5_sureOf
set_option maxRecDepth 20000 in
theorem ggX5_bestAskers_X5_haveSlots : GoodIn wsX5_bestAskers wsX5_haveSlots := goodIn_r _ [50, 1, 2, 3, 9, 43, 44, 7, 45, 46, 22, 23, 24, 25, 26, 27, 28, 29, 30, 31, 32, 33, 38, 51, 52, 53, 54, 55, 56, 57, 58, 59, 60, 61, 62, 63, 64, 65, 66, 67, 68] (by decide +kernel) (by decide +kernel)
set_option maxRecDepth 20000 in
theorem gX5_bestAskers_X5_haveSlots : GoodIn wsX5_bestAskers (wsV RX5 244 RX5 yX5_haveSlots wsX5_haveSlots) := goodIn_app (goodIn_of _ (by decide +kernel)) ggX5_bestAskers_X5_haveSlots
theorem dX5_bestAskers_0 : decode cX5_bestAskers 0 = .ok (.aload_n 0, 1) := by decide +kernel
theorem dX5_bestAskers_1 : decode cX5_bestAskers 1 = .ok (.iload_n 1, 1) := by decide +kernel
theorem dX5_bestAskers_2 : decode cX5_bestAskers 2 = .ok (.iload_n 2, 1) := by decide +kernel
theorem dX5_bestAskers_3 : decode cX5_bestAskers 3 = .ok (.invokevirtual 241, 3) := by decide +kernel
theorem dX5_bestAskers_6 : decode cX5_bestAskers 6 = .ok (.iconst 0, 1) := by decide +kernel
theorem dX5_bestAskers_7 : decode cX5_bestAskers 7 = .ok (.istore_n 3, 1) := by decide +kernel
theorem dX5_bestAskers_8 : decode cX5_bestAskers 8 = .ok (.iconst 1, 1) := by decide +kernel
theorem dX5_bestAskers_9 : decode cX5_bestAskers 9 = .ok (.istore 4, 2) := by decide +kernel
theorem dX5_bestAskers_11 : decode cX5_bestAskers 11 = .ok (.iload 4, 2) := by decide +kernel
theorem dX5_bestAskers_13 : decode cX5_bestAskers 13 = .ok (.iconst 1, 1) := by decide +kernel
theorem dX5_bestAskers_14 : decode cX5_bestAskers 14 = .ok (.aload_n 0, 1) := by decide +kernel
theorem dX5_bestAskers_15 : decode cX5_bestAskers 15 = .ok (.getfield 26, 3) := by decide +kernel
theorem dX5_bestAskers_18 : decode cX5_bestAskers 18 = .ok (.getfield 106, 3) := by decide +kernel
theorem dX5_bestAskers_21 : decode cX5_bestAskers 21 = .ok (.getfield 136, 3) := by decide +kernel
theorem dX5_bestAskers_24 : decode cX5_bestAskers 24 = .ok (.ishl, 1) := by decide +kernel
theorem dX5_bestAskers_25 : decode cX5_bestAskers 25 = .ok (.if_icmp .ge 35, 3) := by decide +kernel
theorem dX5_bestAskers_28 : decode cX5_bestAskers 28 = .ok (.aload_n 0, 1) := by decide +kernel
theorem dX5_bestAskers_29 : decode cX5_bestAskers 29 = .ok (.iload 4, 2) := by decide +kernel
theorem dX5_bestAskers_31 : decode cX5_bestAskers 31 = .ok (.invokevirtual 159, 3) := by decide +kernel
theorem dX5_bestAskers_34 : decode cX5_bestAskers 34 = .ok (.aload_n 0, 1) := by decide +kernel
theorem dX5_bestAskers_35 : decode cX5_bestAskers 35 = .ok (.iload_n 3, 1) := by decide +kernel
theorem dX5_bestAskers_36 : decode cX5_bestAskers 36 = .ok (.invokevirtual 159, 3) := by decide +kernel
theorem dX5_bestAskers_39 : decode cX5_bestAskers 39 = .ok (.if_icmp .le 15, 3) := by decide +kernel
theorem dX5_bestAskers_42 : decode cX5_bestAskers 42 = .ok (.aload_n 0, 1) := by decide +kernel
theorem dX5_bestAskers_43 : decode cX5_bestAskers 43 = .ok (.iload 4, 2) := by decide +kernel
theorem dX5_bestAskers_45 : decode cX5_bestAskers 45 = .ok (.invokevirtual 244, 3) := by decide +kernel
theorem dX5_bestAskers_48 : decode cX5_bestAskers 48 = .ok (.ifCond .eq 6, 3) := by decide +kernel
theorem dX5_bestAskers_51 : decode cX5_bestAskers 51 = .ok (.iload 4, 2) := by decide +kernel
theorem dX5_bestAskers_53 : decode cX5_bestAskers 53 = .ok (.istore_n 3, 1) := by decide +kernel
theorem dX5_bestAskers_54 : decode cX5_bestAskers 54 = .ok (.iinc 4 1, 3) := by decide +kernel
theorem dX5_bestAskers_57 : decode cX5_bestAskers 57 = .ok (.goto (-46), 3) := by decide +kernel
theorem dX5_bestAskers_60 : decode cX5_bestAskers 60 = .ok (.iload_n 3, 1) := by decide +kernel
theorem dX5_bestAskers_61 : decode cX5_bestAskers 61 = .ok (.ireturn, 1) := by decide +kernel
set_option maxRecDepth 20000 in
theorem ggX5_countSlots_X5_put : GoodIn wsX5_countSlots wsX5_put := goodIn_r _ [8] (by decide +kernel) (by decide +kernel)
set_option maxRecDepth 20000 in
theorem gX5_countSlots_X5_put : GoodIn wsX5_countSlots (va_wsS RX5 247 yX5_put wsX5_put) := goodIn_app (goodIn_of _ (by decide +kernel)) ggX5_countSlots_X5_put
set_option maxRecDepth 20000 in
theorem ggX5_countSlots_X0_placeSeen : GoodIn wsX5_countSlots wsX0_placeSeen := goodIn_r _ [13, 14, 15, 16, 17, 18, 19, 20, 21, 22, 23, 24, 25, 26, 7, 27, 28, 29, 30, 31, 44, 45, 46, 47, 48, 49, 50] (by decide +kernel) (by decide +kernel)
set_option maxRecDepth 20000 in
theorem gX5_countSlots_X0_placeSeen : GoodIn wsX5_countSlots (wsV RX5 89 RX0 yX0_placeSeen wsX0_placeSeen) := goodIn_app (goodIn_of _ (by decide +kernel)) ggX5_countSlots_X0_placeSeen
set_option maxRecDepth 20000 in
theorem ggX5_countSlots_X5_at : GoodIn wsX5_countSlots wsX5_at := goodIn_r _ [27] (by decide +kernel) (by decide +kernel)
set_option maxRecDepth 20000 in
theorem gX5_countSlots_X5_at : GoodIn wsX5_countSlots (va_wsS RX5 251 yX5_at wsX5_at) := goodIn_app (goodIn_of _ (by decide +kernel)) ggX5_countSlots_X5_at
theorem dX5_countSlots_0 : decode cX5_countSlots 0 = .ok (.iconst 0, 1) := by decide +kernel
theorem dX5_countSlots_1 : decode cX5_countSlots 1 = .ok (.istore_n 3, 1) := by decide +kernel
theorem dX5_countSlots_2 : decode cX5_countSlots 2 = .ok (.iload_n 3, 1) := by decide +kernel
theorem dX5_countSlots_3 : decode cX5_countSlots 3 = .ok (.bipush 8, 2) := by decide +kernel
theorem dX5_countSlots_5 : decode cX5_countSlots 5 = .ok (.if_icmp .ge 18, 3) := by decide +kernel
theorem dX5_countSlots_8 : decode cX5_countSlots 8 = .ok (.aload_n 0, 1) := by decide +kernel
theorem dX5_countSlots_9 : decode cX5_countSlots 9 = .ok (.getfield 46, 3) := by decide +kernel
theorem dX5_countSlots_12 : decode cX5_countSlots 12 = .ok (.iload_n 3, 1) := by decide +kernel
theorem dX5_countSlots_13 : decode cX5_countSlots 13 = .ok (.iconst 0, 1) := by decide +kernel
theorem dX5_countSlots_14 : decode cX5_countSlots 14 = .ok (.invokestatic 247, 3) := by decide +kernel
theorem dX5_countSlots_17 : decode cX5_countSlots 17 = .ok (.iinc 3 1, 3) := by decide +kernel
theorem dX5_countSlots_20 : decode cX5_countSlots 20 = .ok (.goto (-18), 3) := by decide +kernel
theorem dX5_countSlots_23 : decode cX5_countSlots 23 = .ok (.iconst 0, 1) := by decide +kernel
theorem dX5_countSlots_24 : decode cX5_countSlots 24 = .ok (.istore_n 3, 1) := by decide +kernel
theorem dX5_countSlots_25 : decode cX5_countSlots 25 = .ok (.iload_n 3, 1) := by decide +kernel
theorem dX5_countSlots_26 : decode cX5_countSlots 26 = .ok (.aload_n 0, 1) := by decide +kernel
theorem dX5_countSlots_27 : decode cX5_countSlots 27 = .ok (.getfield 36, 3) := by decide +kernel
theorem dX5_countSlots_30 : decode cX5_countSlots 30 = .ok (.getfield 115, 3) := by decide +kernel
theorem dX5_countSlots_33 : decode cX5_countSlots 33 = .ok (.getfield 136, 3) := by decide +kernel
theorem dX5_countSlots_36 : decode cX5_countSlots 36 = .ok (.if_icmp .ge 63, 3) := by decide +kernel
theorem dX5_countSlots_39 : decode cX5_countSlots 39 = .ok (.iload_n 1, 1) := by decide +kernel
theorem dX5_countSlots_40 : decode cX5_countSlots 40 = .ok (.istore 4, 2) := by decide +kernel
theorem dX5_countSlots_42 : decode cX5_countSlots 42 = .ok (.iload 4, 2) := by decide +kernel
theorem dX5_countSlots_44 : decode cX5_countSlots 44 = .ok (.iload_n 2, 1) := by decide +kernel
theorem dX5_countSlots_45 : decode cX5_countSlots 45 = .ok (.if_icmp .gt 48, 3) := by decide +kernel
theorem dX5_countSlots_48 : decode cX5_countSlots 48 = .ok (.iload 4, 2) := by decide +kernel
theorem dX5_countSlots_50 : decode cX5_countSlots 50 = .ok (.bipush 24, 2) := by decide +kernel
theorem dX5_countSlots_52 : decode cX5_countSlots 52 = .ok (.if_icmp .ge 41, 3) := by decide +kernel
theorem dX5_countSlots_55 : decode cX5_countSlots 55 = .ok (.aload_n 0, 1) := by decide +kernel
theorem dX5_countSlots_56 : decode cX5_countSlots 56 = .ok (.getfield 36, 3) := by decide +kernel
theorem dX5_countSlots_59 : decode cX5_countSlots 59 = .ok (.iload_n 3, 1) := by decide +kernel
theorem dX5_countSlots_60 : decode cX5_countSlots 60 = .ok (.iload 4, 2) := by decide +kernel
theorem dX5_countSlots_62 : decode cX5_countSlots 62 = .ok (.invokevirtual 89, 3) := by decide +kernel
theorem dX5_countSlots_65 : decode cX5_countSlots 65 = .ok (.istore 5, 2) := by decide +kernel
theorem dX5_countSlots_67 : decode cX5_countSlots 67 = .ok (.aload_n 0, 1) := by decide +kernel
theorem dX5_countSlots_68 : decode cX5_countSlots 68 = .ok (.getfield 46, 3) := by decide +kernel
theorem dX5_countSlots_71 : decode cX5_countSlots 71 = .ok (.iload 5, 2) := by decide +kernel
theorem dX5_countSlots_73 : decode cX5_countSlots 73 = .ok (.aload_n 0, 1) := by decide +kernel
theorem dX5_countSlots_74 : decode cX5_countSlots 74 = .ok (.getfield 46, 3) := by decide +kernel
theorem dX5_countSlots_77 : decode cX5_countSlots 77 = .ok (.iload 5, 2) := by decide +kernel
theorem dX5_countSlots_79 : decode cX5_countSlots 79 = .ok (.invokestatic 251, 3) := by decide +kernel
theorem dX5_countSlots_82 : decode cX5_countSlots 82 = .ok (.iconst 1, 1) := by decide +kernel
theorem dX5_countSlots_83 : decode cX5_countSlots 83 = .ok (.iadd, 1) := by decide +kernel
theorem dX5_countSlots_84 : decode cX5_countSlots 84 = .ok (.invokestatic 247, 3) := by decide +kernel
theorem dX5_countSlots_87 : decode cX5_countSlots 87 = .ok (.iinc 4 1, 3) := by decide +kernel
theorem dX5_countSlots_90 : decode cX5_countSlots 90 = .ok (.goto (-48), 3) := by decide +kernel
theorem dX5_countSlots_93 : decode cX5_countSlots 93 = .ok (.iinc 3 1, 3) := by decide +kernel
theorem dX5_countSlots_96 : decode cX5_countSlots 96 = .ok (.goto (-71), 3) := by decide +kernel
theorem dX5_countSlots_99 : decode cX5_countSlots 99 = .ok (.return_, 1) := by decide +kernel
set_option maxRecDepth 20000 in
theorem ggX5_haveSlots_X5_hasBit : GoodIn wsX5_haveSlots wsX5_hasBit := goodIn_r _ [8] (by decide +kernel) (by decide +kernel)
set_option maxRecDepth 20000 in
theorem gX5_haveSlots_X5_hasBit : GoodIn wsX5_haveSlots (va_wsS RX5 165 yX5_hasBit wsX5_hasBit) := goodIn_app (goodIn_of _ (by decide +kernel)) ggX5_haveSlots_X5_hasBit
set_option maxRecDepth 20000 in
theorem ggX5_haveSlots_X2_number : GoodIn wsX5_haveSlots wsX2_number := goodIn_r _ [13, 14, 15, 16, 17, 12, 18, 19, 20, 7, 21, 38, 39, 40] (by decide +kernel) (by decide +kernel)
set_option maxRecDepth 20000 in
theorem gX5_haveSlots_X2_number : GoodIn wsX5_haveSlots (wsV RX5 110 RX2 yX2_number wsX2_number) := goodIn_app (goodIn_of _ (by decide +kernel)) ggX5_haveSlots_X2_number
set_option maxRecDepth 20000 in
theorem ggX5_haveSlots_X5_at : GoodIn wsX5_haveSlots wsX5_at := goodIn_r _ [21] (by decide +kernel) (by decide +kernel)
set_option maxRecDepth 20000 in
theorem gX5_haveSlots_X5_at : GoodIn wsX5_haveSlots (va_wsS RX5 251 yX5_at wsX5_at) := goodIn_app (goodIn_of _ (by decide +kernel)) ggX5_haveSlots_X5_at
theorem dX5_haveSlots_0 : decode cX5_haveSlots 0 = .ok (.iconst 0, 1) := by decide +kernel
theorem dX5_haveSlots_1 : decode cX5_haveSlots 1 = .ok (.istore_n 2, 1) := by decide +kernel
theorem dX5_haveSlots_2 : decode cX5_haveSlots 2 = .ok (.iload_n 2, 1) := by decide +kernel
theorem dX5_haveSlots_3 : decode cX5_haveSlots 3 = .ok (.bipush 8, 2) := by decide +kernel
theorem dX5_haveSlots_5 : decode cX5_haveSlots 5 = .ok (.if_icmp .ge 78, 3) := by decide +kernel
theorem dX5_haveSlots_8 : decode cX5_haveSlots 8 = .ok (.iconst 0, 1) := by decide +kernel
theorem dX5_haveSlots_9 : decode cX5_haveSlots 9 = .ok (.istore_n 3, 1) := by decide +kernel
theorem dX5_haveSlots_10 : decode cX5_haveSlots 10 = .ok (.iconst 0, 1) := by decide +kernel
theorem dX5_haveSlots_11 : decode cX5_haveSlots 11 = .ok (.istore 4, 2) := by decide +kernel
theorem dX5_haveSlots_13 : decode cX5_haveSlots 13 = .ok (.iload 4, 2) := by decide +kernel
theorem dX5_haveSlots_15 : decode cX5_haveSlots 15 = .ok (.aload_n 0, 1) := by decide +kernel
theorem dX5_haveSlots_16 : decode cX5_haveSlots 16 = .ok (.getfield 26, 3) := by decide +kernel
theorem dX5_haveSlots_19 : decode cX5_haveSlots 19 = .ok (.getfield 106, 3) := by decide +kernel
theorem dX5_haveSlots_22 : decode cX5_haveSlots 22 = .ok (.getfield 136, 3) := by decide +kernel
theorem dX5_haveSlots_25 : decode cX5_haveSlots 25 = .ok (.if_icmp .ge 38, 3) := by decide +kernel
theorem dX5_haveSlots_28 : decode cX5_haveSlots 28 = .ok (.iload_n 1, 1) := by decide +kernel
theorem dX5_haveSlots_29 : decode cX5_haveSlots 29 = .ok (.iload 4, 2) := by decide +kernel
theorem dX5_haveSlots_31 : decode cX5_haveSlots 31 = .ok (.invokestatic 165, 3) := by decide +kernel
theorem dX5_haveSlots_34 : decode cX5_haveSlots 34 = .ok (.ifCond .eq 23, 3) := by decide +kernel
theorem dX5_haveSlots_37 : decode cX5_haveSlots 37 = .ok (.aload_n 0, 1) := by decide +kernel
theorem dX5_haveSlots_38 : decode cX5_haveSlots 38 = .ok (.getfield 26, 3) := by decide +kernel
theorem dX5_haveSlots_41 : decode cX5_haveSlots 41 = .ok (.getfield 106, 3) := by decide +kernel
theorem dX5_haveSlots_44 : decode cX5_haveSlots 44 = .ok (.iload 4, 2) := by decide +kernel
theorem dX5_haveSlots_46 : decode cX5_haveSlots 46 = .ok (.iconst 0, 1) := by decide +kernel
theorem dX5_haveSlots_47 : decode cX5_haveSlots 47 = .ok (.invokevirtual 110, 3) := by decide +kernel
theorem dX5_haveSlots_50 : decode cX5_haveSlots 50 = .ok (.iload_n 2, 1) := by decide +kernel
theorem dX5_haveSlots_51 : decode cX5_haveSlots 51 = .ok (.if_icmp .ne 6, 3) := by decide +kernel
theorem dX5_haveSlots_54 : decode cX5_haveSlots 54 = .ok (.iinc 3 1, 3) := by decide +kernel
theorem dX5_haveSlots_57 : decode cX5_haveSlots 57 = .ok (.iinc 4 1, 3) := by decide +kernel
theorem dX5_haveSlots_60 : decode cX5_haveSlots 60 = .ok (.goto (-47), 3) := by decide +kernel
theorem dX5_haveSlots_63 : decode cX5_haveSlots 63 = .ok (.iload_n 3, 1) := by decide +kernel
theorem dX5_haveSlots_64 : decode cX5_haveSlots 64 = .ok (.aload_n 0, 1) := by decide +kernel
theorem dX5_haveSlots_65 : decode cX5_haveSlots 65 = .ok (.getfield 46, 3) := by decide +kernel
theorem dX5_haveSlots_68 : decode cX5_haveSlots 68 = .ok (.iload_n 2, 1) := by decide +kernel
theorem dX5_haveSlots_69 : decode cX5_haveSlots 69 = .ok (.invokestatic 251, 3) := by decide +kernel
theorem dX5_haveSlots_72 : decode cX5_haveSlots 72 = .ok (.if_icmp .le 5, 3) := by decide +kernel
theorem dX5_haveSlots_75 : decode cX5_haveSlots 75 = .ok (.iconst 0, 1) := by decide +kernel
theorem dX5_haveSlots_76 : decode cX5_haveSlots 76 = .ok (.ireturn, 1) := by decide +kernel
theorem dX5_haveSlots_77 : decode cX5_haveSlots 77 = .ok (.iinc 2 1, 3) := by decide +kernel
theorem dX5_haveSlots_80 : decode cX5_haveSlots 80 = .ok (.goto (-78), 3) := by decide +kernel
theorem dX5_haveSlots_83 : decode cX5_haveSlots 83 = .ok (.iconst 1, 1) := by decide +kernel
theorem dX5_haveSlots_84 : decode cX5_haveSlots 84 = .ok (.ireturn, 1) := by decide +kernel
set_option maxRecDepth 20000 in
theorem ggX5_placesSeenByAny_X0_placesSeen : GoodIn wsX5_placesSeenByAny wsX0_placesSeen := goodIn_r _ [8, 9, 10, 11, 7, 12, 13, 14, 15, 16, 17, 18, 19, 20, 21, 22, 23, 24, 25, 26, 27, 28, 29, 30, 31, 43, 44, 45, 46, 47, 48, 49] (by decide +kernel) (by decide +kernel)
set_option maxRecDepth 20000 in
theorem gX5_placesSeenByAny_X0_placesSeen : GoodIn wsX5_placesSeenByAny (wsV RX5 203 RX0 yX0_placesSeen wsX0_placesSeen) := goodIn_app (goodIn_of _ (by decide +kernel)) ggX5_placesSeenByAny_X0_placesSeen
theorem dX5_placesSeenByAny_0 : decode cX5_placesSeenByAny 0 = .ok (.iconst 0, 1) := by decide +kernel
theorem dX5_placesSeenByAny_1 : decode cX5_placesSeenByAny 1 = .ok (.istore_n 3, 1) := by decide +kernel
theorem dX5_placesSeenByAny_2 : decode cX5_placesSeenByAny 2 = .ok (.iconst 0, 1) := by decide +kernel
theorem dX5_placesSeenByAny_3 : decode cX5_placesSeenByAny 3 = .ok (.istore 4, 2) := by decide +kernel
theorem dX5_placesSeenByAny_5 : decode cX5_placesSeenByAny 5 = .ok (.iload 4, 2) := by decide +kernel
theorem dX5_placesSeenByAny_7 : decode cX5_placesSeenByAny 7 = .ok (.aload_n 0, 1) := by decide +kernel
theorem dX5_placesSeenByAny_8 : decode cX5_placesSeenByAny 8 = .ok (.getfield 36, 3) := by decide +kernel
theorem dX5_placesSeenByAny_11 : decode cX5_placesSeenByAny 11 = .ok (.getfield 115, 3) := by decide +kernel
theorem dX5_placesSeenByAny_14 : decode cX5_placesSeenByAny 14 = .ok (.getfield 136, 3) := by decide +kernel
theorem dX5_placesSeenByAny_17 : decode cX5_placesSeenByAny 17 = .ok (.if_icmp .ge 23, 3) := by decide +kernel
theorem dX5_placesSeenByAny_20 : decode cX5_placesSeenByAny 20 = .ok (.iload_n 3, 1) := by decide +kernel
theorem dX5_placesSeenByAny_21 : decode cX5_placesSeenByAny 21 = .ok (.aload_n 0, 1) := by decide +kernel
theorem dX5_placesSeenByAny_22 : decode cX5_placesSeenByAny 22 = .ok (.getfield 36, 3) := by decide +kernel
theorem dX5_placesSeenByAny_25 : decode cX5_placesSeenByAny 25 = .ok (.iload 4, 2) := by decide +kernel
theorem dX5_placesSeenByAny_27 : decode cX5_placesSeenByAny 27 = .ok (.iload_n 1, 1) := by decide +kernel
theorem dX5_placesSeenByAny_28 : decode cX5_placesSeenByAny 28 = .ok (.iload_n 2, 1) := by decide +kernel
theorem dX5_placesSeenByAny_29 : decode cX5_placesSeenByAny 29 = .ok (.invokevirtual 203, 3) := by decide +kernel
theorem dX5_placesSeenByAny_32 : decode cX5_placesSeenByAny 32 = .ok (.ior, 1) := by decide +kernel
theorem dX5_placesSeenByAny_33 : decode cX5_placesSeenByAny 33 = .ok (.istore_n 3, 1) := by decide +kernel
theorem dX5_placesSeenByAny_34 : decode cX5_placesSeenByAny 34 = .ok (.iinc 4 1, 3) := by decide +kernel
theorem dX5_placesSeenByAny_37 : decode cX5_placesSeenByAny 37 = .ok (.goto (-32), 3) := by decide +kernel
theorem dX5_placesSeenByAny_40 : decode cX5_placesSeenByAny 40 = .ok (.iload_n 3, 1) := by decide +kernel
theorem dX5_placesSeenByAny_41 : decode cX5_placesSeenByAny 41 = .ok (.ireturn, 1) := by decide +kernel
set_option maxRecDepth 20000 in
theorem ggX5_inLeastTerms_X5_commonDivisor : GoodIn wsX5_inLeastTerms wsX5_commonDivisor := goodIn_r _ [4] (by decide +kernel) (by decide +kernel)
set_option maxRecDepth 20000 in
theorem gX5_inLeastTerms_X5_commonDivisor : GoodIn wsX5_inLeastTerms (va_wsS RX5 255 yX5_commonDivisor wsX5_commonDivisor) := goodIn_app (goodIn_of _ (by decide +kernel)) ggX5_inLeastTerms_X5_commonDivisor
theorem dX5_inLeastTerms_0 : decode cX5_inLeastTerms 0 = .ok (.iload_n 0, 1) := by decide +kernel
theorem dX5_inLeastTerms_1 : decode cX5_inLeastTerms 1 = .ok (.iload_n 1, 1) := by decide +kernel
theorem dX5_inLeastTerms_2 : decode cX5_inLeastTerms 2 = .ok (.invokestatic 255, 3) := by decide +kernel
theorem dX5_inLeastTerms_5 : decode cX5_inLeastTerms 5 = .ok (.istore_n 3, 1) := by decide +kernel
theorem dX5_inLeastTerms_6 : decode cX5_inLeastTerms 6 = .ok (.iload_n 2, 1) := by decide +kernel
theorem dX5_inLeastTerms_7 : decode cX5_inLeastTerms 7 = .ok (.ifCond .ne 7, 3) := by decide +kernel
theorem dX5_inLeastTerms_10 : decode cX5_inLeastTerms 10 = .ok (.iload_n 0, 1) := by decide +kernel
theorem dX5_inLeastTerms_11 : decode cX5_inLeastTerms 11 = .ok (.goto 4, 3) := by decide +kernel
theorem dX5_inLeastTerms_14 : decode cX5_inLeastTerms 14 = .ok (.iload_n 1, 1) := by decide +kernel
theorem dX5_inLeastTerms_15 : decode cX5_inLeastTerms 15 = .ok (.istore 4, 2) := by decide +kernel
theorem dX5_inLeastTerms_17 : decode cX5_inLeastTerms 17 = .ok (.iload_n 3, 1) := by decide +kernel
theorem dX5_inLeastTerms_18 : decode cX5_inLeastTerms 18 = .ok (.ifCond .le 10, 3) := by decide +kernel
theorem dX5_inLeastTerms_21 : decode cX5_inLeastTerms 21 = .ok (.iload 4, 2) := by decide +kernel
theorem dX5_inLeastTerms_23 : decode cX5_inLeastTerms 23 = .ok (.iload_n 3, 1) := by decide +kernel
theorem dX5_inLeastTerms_24 : decode cX5_inLeastTerms 24 = .ok (.idiv, 1) := by decide +kernel
theorem dX5_inLeastTerms_25 : decode cX5_inLeastTerms 25 = .ok (.goto 5, 3) := by decide +kernel
theorem dX5_inLeastTerms_28 : decode cX5_inLeastTerms 28 = .ok (.iload 4, 2) := by decide +kernel
theorem dX5_inLeastTerms_30 : decode cX5_inLeastTerms 30 = .ok (.ireturn, 1) := by decide +kernel
theorem dX5_commonDivisor_0 : decode cX5_commonDivisor 0 = .ok (.iload_n 0, 1) := by decide +kernel
theorem dX5_commonDivisor_1 : decode cX5_commonDivisor 1 = .ok (.istore_n 2, 1) := by decide +kernel
theorem dX5_commonDivisor_2 : decode cX5_commonDivisor 2 = .ok (.iload_n 1, 1) := by decide +kernel
theorem dX5_commonDivisor_3 : decode cX5_commonDivisor 3 = .ok (.istore_n 3, 1) := by decide +kernel
theorem dX5_commonDivisor_4 : decode cX5_commonDivisor 4 = .ok (.iconst 0, 1) := by decide +kernel
theorem dX5_commonDivisor_5 : decode cX5_commonDivisor 5 = .ok (.istore 4, 2) := by decide +kernel
theorem dX5_commonDivisor_7 : decode cX5_commonDivisor 7 = .ok (.iload 4, 2) := by decide +kernel
theorem dX5_commonDivisor_9 : decode cX5_commonDivisor 9 = .ok (.bipush 100, 2) := by decide +kernel
theorem dX5_commonDivisor_11 : decode cX5_commonDivisor 11 = .ok (.if_icmp .ge 23, 3) := by decide +kernel
theorem dX5_commonDivisor_14 : decode cX5_commonDivisor 14 = .ok (.iload_n 3, 1) := by decide +kernel
theorem dX5_commonDivisor_15 : decode cX5_commonDivisor 15 = .ok (.ifCond .eq 19, 3) := by decide +kernel
theorem dX5_commonDivisor_18 : decode cX5_commonDivisor 18 = .ok (.iload_n 2, 1) := by decide +kernel
theorem dX5_commonDivisor_19 : decode cX5_commonDivisor 19 = .ok (.iload_n 3, 1) := by decide +kernel
theorem dX5_commonDivisor_20 : decode cX5_commonDivisor 20 = .ok (.irem, 1) := by decide +kernel
theorem dX5_commonDivisor_21 : decode cX5_commonDivisor 21 = .ok (.istore 5, 2) := by decide +kernel
theorem dX5_commonDivisor_23 : decode cX5_commonDivisor 23 = .ok (.iload_n 3, 1) := by decide +kernel
theorem dX5_commonDivisor_24 : decode cX5_commonDivisor 24 = .ok (.istore_n 2, 1) := by decide +kernel
theorem dX5_commonDivisor_25 : decode cX5_commonDivisor 25 = .ok (.iload 5, 2) := by decide +kernel
theorem dX5_commonDivisor_27 : decode cX5_commonDivisor 27 = .ok (.istore_n 3, 1) := by decide +kernel
theorem dX5_commonDivisor_28 : decode cX5_commonDivisor 28 = .ok (.iinc 4 1, 3) := by decide +kernel
theorem dX5_commonDivisor_31 : decode cX5_commonDivisor 31 = .ok (.goto (-24), 3) := by decide +kernel
theorem dX5_commonDivisor_34 : decode cX5_commonDivisor 34 = .ok (.iload_n 2, 1) := by decide +kernel
theorem dX5_commonDivisor_35 : decode cX5_commonDivisor 35 = .ok (.ireturn, 1) := by decide +kernel
set_option maxRecDepth 20000 in
theorem ggX5_fewestApart_X0_placesSeen : GoodIn wsX5_fewestApart wsX0_placesSeen := goodIn_r _ [9, 10, 11, 12, 8, 13, 14, 15, 16, 17, 18, 19, 20, 21, 22, 23, 24, 25, 26, 27, 28, 29, 30, 31, 32, 62, 63, 64, 65, 66, 67, 68] (by decide +kernel) (by decide +kernel)
set_option maxRecDepth 20000 in
theorem gX5_fewestApart_X0_placesSeen : GoodIn wsX5_fewestApart (wsV RX5 203 RX0 yX0_placesSeen wsX0_placesSeen) := goodIn_app (goodIn_of _ (by decide +kernel)) ggX5_fewestApart_X0_placesSeen
set_option maxRecDepth 20000 in
theorem ggX5_fewestApart_X5_put : GoodIn wsX5_fewestApart wsX5_put := goodIn_r _ [35] (by decide +kernel) (by decide +kernel)
set_option maxRecDepth 20000 in
theorem gX5_fewestApart_X5_put : GoodIn wsX5_fewestApart (va_wsS RX5 247 yX5_put wsX5_put) := goodIn_app (goodIn_of _ (by decide +kernel)) ggX5_fewestApart_X5_put
set_option maxRecDepth 20000 in
theorem ggX5_fewestApart_J6_bitCount_0f7a4 : GoodIn wsX5_fewestApart wsJ6_bitCount_0f7a4 := goodIn_r _ [39, 40, 41, 42] (by decide +kernel) (by decide +kernel)
set_option maxRecDepth 20000 in
theorem gX5_fewestApart_J6_bitCount_0f7a4 : GoodIn wsX5_fewestApart (va_wsS RX5 175 yJ6_bitCount_0f7a4 wsJ6_bitCount_0f7a4) := goodIn_app (goodIn_of _ (by decide +kernel)) ggX5_fewestApart_J6_bitCount_0f7a4
set_option maxRecDepth 20000 in
theorem ggX5_fewestApart_X5_tellsApart : GoodIn wsX5_fewestApart wsX5_tellsApart := goodIn_r _ [46, 1, 2, 3, 4, 47, 48, 27, 49, 50, 26, 28, 36, 37, 38, 39, 40, 41, 42, 51, 52, 53, 54, 55, 56, 57, 58, 59, 60, 61, 62, 63, 64, 65, 66, 67, 68] (by decide +kernel) (by decide +kernel)
set_option maxRecDepth 20000 in
theorem gX5_fewestApart_X5_tellsApart : GoodIn wsX5_fewestApart (wsV RX5 258 RX5 yX5_tellsApart wsX5_tellsApart) := goodIn_app (goodIn_of _ (by decide +kernel)) ggX5_fewestApart_X5_tellsApart
theorem dX5_fewestApart_0 : decode cX5_fewestApart 0 = .ok (.iconst 0, 1) := by decide +kernel
theorem dX5_fewestApart_1 : decode cX5_fewestApart 1 = .ok (.istore_n 3, 1) := by decide +kernel
theorem dX5_fewestApart_2 : decode cX5_fewestApart 2 = .ok (.iload_n 3, 1) := by decide +kernel
theorem dX5_fewestApart_3 : decode cX5_fewestApart 3 = .ok (.aload_n 0, 1) := by decide +kernel
theorem dX5_fewestApart_4 : decode cX5_fewestApart 4 = .ok (.getfield 36, 3) := by decide +kernel
theorem dX5_fewestApart_7 : decode cX5_fewestApart 7 = .ok (.getfield 115, 3) := by decide +kernel
theorem dX5_fewestApart_10 : decode cX5_fewestApart 10 = .ok (.getfield 136, 3) := by decide +kernel
theorem dX5_fewestApart_13 : decode cX5_fewestApart 13 = .ok (.if_icmp .ge 27, 3) := by decide +kernel
theorem dX5_fewestApart_16 : decode cX5_fewestApart 16 = .ok (.aload_n 0, 1) := by decide +kernel
theorem dX5_fewestApart_17 : decode cX5_fewestApart 17 = .ok (.getfield 50, 3) := by decide +kernel
theorem dX5_fewestApart_20 : decode cX5_fewestApart 20 = .ok (.iload_n 3, 1) := by decide +kernel
theorem dX5_fewestApart_21 : decode cX5_fewestApart 21 = .ok (.aload_n 0, 1) := by decide +kernel
theorem dX5_fewestApart_22 : decode cX5_fewestApart 22 = .ok (.getfield 36, 3) := by decide +kernel
theorem dX5_fewestApart_25 : decode cX5_fewestApart 25 = .ok (.iload_n 3, 1) := by decide +kernel
theorem dX5_fewestApart_26 : decode cX5_fewestApart 26 = .ok (.iload_n 1, 1) := by decide +kernel
theorem dX5_fewestApart_27 : decode cX5_fewestApart 27 = .ok (.iload_n 2, 1) := by decide +kernel
theorem dX5_fewestApart_28 : decode cX5_fewestApart 28 = .ok (.invokevirtual 203, 3) := by decide +kernel
theorem dX5_fewestApart_31 : decode cX5_fewestApart 31 = .ok (.invokestatic 247, 3) := by decide +kernel
theorem dX5_fewestApart_34 : decode cX5_fewestApart 34 = .ok (.iinc 3 1, 3) := by decide +kernel
theorem dX5_fewestApart_37 : decode cX5_fewestApart 37 = .ok (.goto (-35), 3) := by decide +kernel
theorem dX5_fewestApart_40 : decode cX5_fewestApart 40 = .ok (.bipush (-9), 2) := by decide +kernel
theorem dX5_fewestApart_42 : decode cX5_fewestApart 42 = .ok (.istore_n 3, 1) := by decide +kernel
theorem dX5_fewestApart_43 : decode cX5_fewestApart 43 = .ok (.iconst 0, 1) := by decide +kernel
theorem dX5_fewestApart_44 : decode cX5_fewestApart 44 = .ok (.istore 4, 2) := by decide +kernel
theorem dX5_fewestApart_46 : decode cX5_fewestApart 46 = .ok (.iload 4, 2) := by decide +kernel
theorem dX5_fewestApart_48 : decode cX5_fewestApart 48 = .ok (.iconst 1, 1) := by decide +kernel
theorem dX5_fewestApart_49 : decode cX5_fewestApart 49 = .ok (.aload_n 0, 1) := by decide +kernel
theorem dX5_fewestApart_50 : decode cX5_fewestApart 50 = .ok (.getfield 36, 3) := by decide +kernel
theorem dX5_fewestApart_53 : decode cX5_fewestApart 53 = .ok (.getfield 115, 3) := by decide +kernel
theorem dX5_fewestApart_56 : decode cX5_fewestApart 56 = .ok (.getfield 136, 3) := by decide +kernel
theorem dX5_fewestApart_59 : decode cX5_fewestApart 59 = .ok (.ishl, 1) := by decide +kernel
theorem dX5_fewestApart_60 : decode cX5_fewestApart 60 = .ok (.if_icmp .ge 51, 3) := by decide +kernel
theorem dX5_fewestApart_63 : decode cX5_fewestApart 63 = .ok (.iload_n 3, 1) := by decide +kernel
theorem dX5_fewestApart_64 : decode cX5_fewestApart 64 = .ok (.bipush (-9), 2) := by decide +kernel
theorem dX5_fewestApart_66 : decode cX5_fewestApart 66 = .ok (.if_icmp .eq 15, 3) := by decide +kernel
theorem dX5_fewestApart_69 : decode cX5_fewestApart 69 = .ok (.iload 4, 2) := by decide +kernel
theorem dX5_fewestApart_71 : decode cX5_fewestApart 71 = .ok (.invokestatic 175, 3) := by decide +kernel
theorem dX5_fewestApart_74 : decode cX5_fewestApart 74 = .ok (.iload_n 3, 1) := by decide +kernel
theorem dX5_fewestApart_75 : decode cX5_fewestApart 75 = .ok (.invokestatic 175, 3) := by decide +kernel
theorem dX5_fewestApart_78 : decode cX5_fewestApart 78 = .ok (.if_icmp .ge 7, 3) := by decide +kernel
theorem dX5_fewestApart_81 : decode cX5_fewestApart 81 = .ok (.iconst 1, 1) := by decide +kernel
theorem dX5_fewestApart_82 : decode cX5_fewestApart 82 = .ok (.goto 4, 3) := by decide +kernel
theorem dX5_fewestApart_85 : decode cX5_fewestApart 85 = .ok (.iconst 0, 1) := by decide +kernel
theorem dX5_fewestApart_86 : decode cX5_fewestApart 86 = .ok (.istore 5, 2) := by decide +kernel
theorem dX5_fewestApart_88 : decode cX5_fewestApart 88 = .ok (.iload 5, 2) := by decide +kernel
theorem dX5_fewestApart_90 : decode cX5_fewestApart 90 = .ok (.ifCond .eq 15, 3) := by decide +kernel
theorem dX5_fewestApart_93 : decode cX5_fewestApart 93 = .ok (.aload_n 0, 1) := by decide +kernel
theorem dX5_fewestApart_94 : decode cX5_fewestApart 94 = .ok (.iload 4, 2) := by decide +kernel
theorem dX5_fewestApart_96 : decode cX5_fewestApart 96 = .ok (.invokevirtual 258, 3) := by decide +kernel
theorem dX5_fewestApart_99 : decode cX5_fewestApart 99 = .ok (.ifCond .eq 6, 3) := by decide +kernel
theorem dX5_fewestApart_102 : decode cX5_fewestApart 102 = .ok (.iload 4, 2) := by decide +kernel
theorem dX5_fewestApart_104 : decode cX5_fewestApart 104 = .ok (.istore_n 3, 1) := by decide +kernel
theorem dX5_fewestApart_105 : decode cX5_fewestApart 105 = .ok (.iinc 4 1, 3) := by decide +kernel
theorem dX5_fewestApart_108 : decode cX5_fewestApart 108 = .ok (.goto (-62), 3) := by decide +kernel
theorem dX5_fewestApart_111 : decode cX5_fewestApart 111 = .ok (.iload_n 3, 1) := by decide +kernel
theorem dX5_fewestApart_112 : decode cX5_fewestApart 112 = .ok (.ireturn, 1) := by decide +kernel
set_option maxRecDepth 20000 in
theorem ggX5_tellsApart_X5_hasBit : GoodIn wsX5_tellsApart wsX5_hasBit := goodIn_r _ [8] (by decide +kernel) (by decide +kernel)
set_option maxRecDepth 20000 in
theorem gX5_tellsApart_X5_hasBit : GoodIn wsX5_tellsApart (va_wsS RX5 165 yX5_hasBit wsX5_hasBit) := goodIn_app (goodIn_of _ (by decide +kernel)) ggX5_tellsApart_X5_hasBit
set_option maxRecDepth 20000 in
theorem ggX5_tellsApart_X5_at : GoodIn wsX5_tellsApart wsX5_at := goodIn_r _ [11] (by decide +kernel) (by decide +kernel)
set_option maxRecDepth 20000 in
theorem gX5_tellsApart_X5_at : GoodIn wsX5_tellsApart (va_wsS RX5 251 yX5_at wsX5_at) := goodIn_app (goodIn_of _ (by decide +kernel)) ggX5_tellsApart_X5_at
set_option maxRecDepth 20000 in
theorem ggX5_tellsApart_J6_bitCount_0f7a4 : GoodIn wsX5_tellsApart wsJ6_bitCount_0f7a4 := goodIn_r _ [15, 16, 17, 18] (by decide +kernel) (by decide +kernel)
set_option maxRecDepth 20000 in
theorem gX5_tellsApart_J6_bitCount_0f7a4 : GoodIn wsX5_tellsApart (va_wsS RX5 175 yJ6_bitCount_0f7a4 wsJ6_bitCount_0f7a4) := goodIn_app (goodIn_of _ (by decide +kernel)) ggX5_tellsApart_J6_bitCount_0f7a4
theorem dX5_tellsApart_0 : decode cX5_tellsApart 0 = .ok (.iconst 0, 1) := by decide +kernel
theorem dX5_tellsApart_1 : decode cX5_tellsApart 1 = .ok (.istore_n 2, 1) := by decide +kernel
theorem dX5_tellsApart_2 : decode cX5_tellsApart 2 = .ok (.iconst 0, 1) := by decide +kernel
theorem dX5_tellsApart_3 : decode cX5_tellsApart 3 = .ok (.istore_n 3, 1) := by decide +kernel
theorem dX5_tellsApart_4 : decode cX5_tellsApart 4 = .ok (.iload_n 3, 1) := by decide +kernel
theorem dX5_tellsApart_5 : decode cX5_tellsApart 5 = .ok (.aload_n 0, 1) := by decide +kernel
theorem dX5_tellsApart_6 : decode cX5_tellsApart 6 = .ok (.getfield 36, 3) := by decide +kernel
theorem dX5_tellsApart_9 : decode cX5_tellsApart 9 = .ok (.getfield 115, 3) := by decide +kernel
theorem dX5_tellsApart_12 : decode cX5_tellsApart 12 = .ok (.getfield 136, 3) := by decide +kernel
theorem dX5_tellsApart_15 : decode cX5_tellsApart 15 = .ok (.if_icmp .ge 28, 3) := by decide +kernel
theorem dX5_tellsApart_18 : decode cX5_tellsApart 18 = .ok (.iload_n 1, 1) := by decide +kernel
theorem dX5_tellsApart_19 : decode cX5_tellsApart 19 = .ok (.iload_n 3, 1) := by decide +kernel
theorem dX5_tellsApart_20 : decode cX5_tellsApart 20 = .ok (.invokestatic 165, 3) := by decide +kernel
theorem dX5_tellsApart_23 : decode cX5_tellsApart 23 = .ok (.ifCond .eq 14, 3) := by decide +kernel
theorem dX5_tellsApart_26 : decode cX5_tellsApart 26 = .ok (.iload_n 2, 1) := by decide +kernel
theorem dX5_tellsApart_27 : decode cX5_tellsApart 27 = .ok (.aload_n 0, 1) := by decide +kernel
theorem dX5_tellsApart_28 : decode cX5_tellsApart 28 = .ok (.getfield 50, 3) := by decide +kernel
theorem dX5_tellsApart_31 : decode cX5_tellsApart 31 = .ok (.iload_n 3, 1) := by decide +kernel
theorem dX5_tellsApart_32 : decode cX5_tellsApart 32 = .ok (.invokestatic 251, 3) := by decide +kernel
theorem dX5_tellsApart_35 : decode cX5_tellsApart 35 = .ok (.ior, 1) := by decide +kernel
theorem dX5_tellsApart_36 : decode cX5_tellsApart 36 = .ok (.istore_n 2, 1) := by decide +kernel
theorem dX5_tellsApart_37 : decode cX5_tellsApart 37 = .ok (.iinc 3 1, 3) := by decide +kernel
theorem dX5_tellsApart_40 : decode cX5_tellsApart 40 = .ok (.goto (-36), 3) := by decide +kernel
theorem dX5_tellsApart_43 : decode cX5_tellsApart 43 = .ok (.iload_n 2, 1) := by decide +kernel
theorem dX5_tellsApart_44 : decode cX5_tellsApart 44 = .ok (.invokestatic 175, 3) := by decide +kernel
theorem dX5_tellsApart_47 : decode cX5_tellsApart 47 = .ok (.bipush 7, 2) := by decide +kernel
theorem dX5_tellsApart_49 : decode cX5_tellsApart 49 = .ok (.if_icmp .lt 7, 3) := by decide +kernel
theorem dX5_tellsApart_52 : decode cX5_tellsApart 52 = .ok (.iconst 1, 1) := by decide +kernel
theorem dX5_tellsApart_53 : decode cX5_tellsApart 53 = .ok (.goto 4, 3) := by decide +kernel
theorem dX5_tellsApart_56 : decode cX5_tellsApart 56 = .ok (.iconst 0, 1) := by decide +kernel
theorem dX5_tellsApart_57 : decode cX5_tellsApart 57 = .ok (.ireturn, 1) := by decide +kernel
set_option maxRecDepth 20000 in
theorem ggX5_speakersThatFit_X0_spansThatFit : GoodIn wsX5_speakersThatFit wsX0_spansThatFit := goodIn_r _ [6, 7, 8, 9, 5, 10, 11, 12, 13, 14, 15, 16, 17, 18, 19, 20, 21, 22, 23, 24, 25, 26, 27, 28, 29, 30, 31, 32, 33, 34, 35, 36, 37, 38, 39, 40, 41, 42, 43, 55, 56, 57, 58, 59, 60, 61] (by decide +kernel) (by decide +kernel)
set_option maxRecDepth 20000 in
theorem gX5_speakersThatFit_X0_spansThatFit : GoodIn wsX5_speakersThatFit (wsV RX5 200 RX0 yX0_spansThatFit wsX0_spansThatFit) := goodIn_app (goodIn_of _ (by decide +kernel)) ggX5_speakersThatFit_X0_spansThatFit
theorem dX5_speakersThatFit_0 : decode cX5_speakersThatFit 0 = .ok (.iconst 0, 1) := by decide +kernel
theorem dX5_speakersThatFit_1 : decode cX5_speakersThatFit 1 = .ok (.istore_n 2, 1) := by decide +kernel
theorem dX5_speakersThatFit_2 : decode cX5_speakersThatFit 2 = .ok (.iconst 0, 1) := by decide +kernel
theorem dX5_speakersThatFit_3 : decode cX5_speakersThatFit 3 = .ok (.istore_n 3, 1) := by decide +kernel
theorem dX5_speakersThatFit_4 : decode cX5_speakersThatFit 4 = .ok (.iload_n 3, 1) := by decide +kernel
theorem dX5_speakersThatFit_5 : decode cX5_speakersThatFit 5 = .ok (.bipush 8, 2) := by decide +kernel
theorem dX5_speakersThatFit_7 : decode cX5_speakersThatFit 7 = .ok (.if_icmp .ge 22, 3) := by decide +kernel
theorem dX5_speakersThatFit_10 : decode cX5_speakersThatFit 10 = .ok (.iload_n 2, 1) := by decide +kernel
theorem dX5_speakersThatFit_11 : decode cX5_speakersThatFit 11 = .ok (.aload_n 0, 1) := by decide +kernel
theorem dX5_speakersThatFit_12 : decode cX5_speakersThatFit 12 = .ok (.getfield 36, 3) := by decide +kernel
theorem dX5_speakersThatFit_15 : decode cX5_speakersThatFit 15 = .ok (.iload_n 1, 1) := by decide +kernel
theorem dX5_speakersThatFit_16 : decode cX5_speakersThatFit 16 = .ok (.iload_n 3, 1) := by decide +kernel
theorem dX5_speakersThatFit_17 : decode cX5_speakersThatFit 17 = .ok (.iconst 0, 1) := by decide +kernel
theorem dX5_speakersThatFit_18 : decode cX5_speakersThatFit 18 = .ok (.invokevirtual 200, 3) := by decide +kernel
theorem dX5_speakersThatFit_21 : decode cX5_speakersThatFit 21 = .ok (.iadd, 1) := by decide +kernel
theorem dX5_speakersThatFit_22 : decode cX5_speakersThatFit 22 = .ok (.istore_n 2, 1) := by decide +kernel
theorem dX5_speakersThatFit_23 : decode cX5_speakersThatFit 23 = .ok (.iinc 3 1, 3) := by decide +kernel
theorem dX5_speakersThatFit_26 : decode cX5_speakersThatFit 26 = .ok (.goto (-22), 3) := by decide +kernel
theorem dX5_speakersThatFit_29 : decode cX5_speakersThatFit 29 = .ok (.iload_n 2, 1) := by decide +kernel
theorem dX5_speakersThatFit_30 : decode cX5_speakersThatFit 30 = .ok (.ireturn, 1) := by decide +kernel
theorem dX5_markAsNote_0 : decode cX5_markAsNote 0 = .ok (.aload_n 0, 1) := by decide +kernel
theorem dX5_markAsNote_1 : decode cX5_markAsNote 1 = .ok (.dup, 1) := by decide +kernel
theorem dX5_markAsNote_2 : decode cX5_markAsNote 2 = .ok (.getfield 57, 3) := by decide +kernel
theorem dX5_markAsNote_5 : decode cX5_markAsNote 5 = .ok (.lconst 1, 1) := by decide +kernel
theorem dX5_markAsNote_6 : decode cX5_markAsNote 6 = .ok (.ladd, 1) := by decide +kernel
theorem dX5_markAsNote_7 : decode cX5_markAsNote 7 = .ok (.putfield 57, 3) := by decide +kernel
theorem dX5_markAsNote_10 : decode cX5_markAsNote 10 = .ok (.iload_n 1, 1) := by decide +kernel
theorem dX5_markAsNote_11 : decode cX5_markAsNote 11 = .ok (.ireturn, 1) := by decide +kernel
set_option maxRecDepth 20000 in
theorem ggX5_markAsVoice_X5_markAsNote : GoodIn wsX5_markAsVoice wsX5_markAsNote := goodIn_r _ [9, 1, 27, 28, 29, 30, 31, 32, 33, 34, 35, 36, 37] (by decide +kernel) (by decide +kernel)
set_option maxRecDepth 20000 in
theorem gX5_markAsVoice_X5_markAsNote : GoodIn wsX5_markAsVoice (wsV RX5 207 RX5 yX5_markAsNote wsX5_markAsNote) := goodIn_app (goodIn_of _ (by decide +kernel)) ggX5_markAsVoice_X5_markAsNote
set_option maxRecDepth 20000 in
theorem ggX5_markAsVoice_X2_countWith : GoodIn wsX5_markAsVoice wsX2_countWith := goodIn_r _ [14, 15, 16, 17, 18, 13, 19, 20, 21, 22, 23, 24, 25, 8, 26, 42, 43, 44] (by decide +kernel) (by decide +kernel)
set_option maxRecDepth 20000 in
theorem gX5_markAsVoice_X2_countWith : GoodIn wsX5_markAsVoice (wsV RX5 263 RX2 yX2_countWith wsX2_countWith) := goodIn_app (goodIn_of _ (by decide +kernel)) ggX5_markAsVoice_X2_countWith
theorem dX5_markAsVoice_0 : decode cX5_markAsVoice 0 = .ok (.aload_n 0, 1) := by decide +kernel
theorem dX5_markAsVoice_1 : decode cX5_markAsVoice 1 = .ok (.dup, 1) := by decide +kernel
theorem dX5_markAsVoice_2 : decode cX5_markAsVoice 2 = .ok (.getfield 57, 3) := by decide +kernel
theorem dX5_markAsVoice_5 : decode cX5_markAsVoice 5 = .ok (.ldc2_w 261, 3) := by decide +kernel
theorem dX5_markAsVoice_8 : decode cX5_markAsVoice 8 = .ok (.ladd, 1) := by decide +kernel
theorem dX5_markAsVoice_9 : decode cX5_markAsVoice 9 = .ok (.putfield 57, 3) := by decide +kernel
theorem dX5_markAsVoice_12 : decode cX5_markAsVoice 12 = .ok (.aload_n 0, 1) := by decide +kernel
theorem dX5_markAsVoice_13 : decode cX5_markAsVoice 13 = .ok (.iload_n 1, 1) := by decide +kernel
theorem dX5_markAsVoice_14 : decode cX5_markAsVoice 14 = .ok (.invokevirtual 207, 3) := by decide +kernel
theorem dX5_markAsVoice_17 : decode cX5_markAsVoice 17 = .ok (.aload_n 0, 1) := by decide +kernel
theorem dX5_markAsVoice_18 : decode cX5_markAsVoice 18 = .ok (.getfield 26, 3) := by decide +kernel
theorem dX5_markAsVoice_21 : decode cX5_markAsVoice 21 = .ok (.getfield 235, 3) := by decide +kernel
theorem dX5_markAsVoice_24 : decode cX5_markAsVoice 24 = .ok (.iconst 1, 1) := by decide +kernel
theorem dX5_markAsVoice_25 : decode cX5_markAsVoice 25 = .ok (.iload_n 1, 1) := by decide +kernel
theorem dX5_markAsVoice_26 : decode cX5_markAsVoice 26 = .ok (.invokevirtual 263, 3) := by decide +kernel
theorem dX5_markAsVoice_29 : decode cX5_markAsVoice 29 = .ok (.iadd, 1) := by decide +kernel
theorem dX5_markAsVoice_30 : decode cX5_markAsVoice 30 = .ok (.ireturn, 1) := by decide +kernel
set_option maxRecDepth 20000 in
theorem ggX5_markAsHum_X5_markAsNote : GoodIn wsX5_markAsHum wsX5_markAsNote := goodIn_r _ [9, 1, 27, 28, 29, 30, 31, 32, 33, 34, 35, 36, 37] (by decide +kernel) (by decide +kernel)
set_option maxRecDepth 20000 in
theorem gX5_markAsHum_X5_markAsNote : GoodIn wsX5_markAsHum (wsV RX5 207 RX5 yX5_markAsNote wsX5_markAsNote) := goodIn_app (goodIn_of _ (by decide +kernel)) ggX5_markAsHum_X5_markAsNote
set_option maxRecDepth 20000 in
theorem ggX5_markAsHum_X2_countWith : GoodIn wsX5_markAsHum wsX2_countWith := goodIn_r _ [14, 15, 16, 17, 18, 13, 19, 20, 21, 22, 23, 24, 25, 8, 26, 42, 43, 44] (by decide +kernel) (by decide +kernel)
set_option maxRecDepth 20000 in
theorem gX5_markAsHum_X2_countWith : GoodIn wsX5_markAsHum (wsV RX5 263 RX2 yX2_countWith wsX2_countWith) := goodIn_app (goodIn_of _ (by decide +kernel)) ggX5_markAsHum_X2_countWith
theorem dX5_markAsHum_0 : decode cX5_markAsHum 0 = .ok (.aload_n 0, 1) := by decide +kernel
theorem dX5_markAsHum_1 : decode cX5_markAsHum 1 = .ok (.dup, 1) := by decide +kernel
theorem dX5_markAsHum_2 : decode cX5_markAsHum 2 = .ok (.getfield 57, 3) := by decide +kernel
theorem dX5_markAsHum_5 : decode cX5_markAsHum 5 = .ok (.ldc2_w 266, 3) := by decide +kernel
theorem dX5_markAsHum_8 : decode cX5_markAsHum 8 = .ok (.ladd, 1) := by decide +kernel
theorem dX5_markAsHum_9 : decode cX5_markAsHum 9 = .ok (.putfield 57, 3) := by decide +kernel
theorem dX5_markAsHum_12 : decode cX5_markAsHum 12 = .ok (.aload_n 0, 1) := by decide +kernel
theorem dX5_markAsHum_13 : decode cX5_markAsHum 13 = .ok (.iload_n 1, 1) := by decide +kernel
theorem dX5_markAsHum_14 : decode cX5_markAsHum 14 = .ok (.invokevirtual 207, 3) := by decide +kernel
theorem dX5_markAsHum_17 : decode cX5_markAsHum 17 = .ok (.aload_n 0, 1) := by decide +kernel
theorem dX5_markAsHum_18 : decode cX5_markAsHum 18 = .ok (.getfield 26, 3) := by decide +kernel
theorem dX5_markAsHum_21 : decode cX5_markAsHum 21 = .ok (.getfield 238, 3) := by decide +kernel
theorem dX5_markAsHum_24 : decode cX5_markAsHum 24 = .ok (.iconst 0, 1) := by decide +kernel
theorem dX5_markAsHum_25 : decode cX5_markAsHum 25 = .ok (.iload_n 1, 1) := by decide +kernel
theorem dX5_markAsHum_26 : decode cX5_markAsHum 26 = .ok (.invokevirtual 263, 3) := by decide +kernel
theorem dX5_markAsHum_29 : decode cX5_markAsHum 29 = .ok (.isub, 1) := by decide +kernel
theorem dX5_markAsHum_30 : decode cX5_markAsHum 30 = .ok (.ireturn, 1) := by decide +kernel
set_option maxRecDepth 20000 in
theorem ggX5_markAsCall_X5_markAsVoice : GoodIn wsX5_markAsCall wsX5_markAsVoice := goodIn_r _ [7, 1, 8, 9, 10, 11, 12, 13, 6, 14, 15, 16, 17, 18, 19, 20, 21, 22, 23, 24, 25, 26, 27, 28, 29, 30, 31, 32, 33, 34, 35, 36, 37, 38, 39, 40, 41, 42, 43, 44, 45, 46, 47, 48, 49] (by decide +kernel) (by decide +kernel)
set_option maxRecDepth 20000 in
theorem gX5_markAsCall_X5_markAsVoice : GoodIn wsX5_markAsCall (wsV RX5 210 RX5 yX5_markAsVoice wsX5_markAsVoice) := goodIn_app (goodIn_of _ (by decide +kernel)) ggX5_markAsCall_X5_markAsVoice
theorem dX5_markAsCall_0 : decode cX5_markAsCall 0 = .ok (.aload_n 0, 1) := by decide +kernel
theorem dX5_markAsCall_1 : decode cX5_markAsCall 1 = .ok (.dup, 1) := by decide +kernel
theorem dX5_markAsCall_2 : decode cX5_markAsCall 2 = .ok (.getfield 57, 3) := by decide +kernel
theorem dX5_markAsCall_5 : decode cX5_markAsCall 5 = .ok (.ldc2_w 268, 3) := by decide +kernel
theorem dX5_markAsCall_8 : decode cX5_markAsCall 8 = .ok (.ladd, 1) := by decide +kernel
theorem dX5_markAsCall_9 : decode cX5_markAsCall 9 = .ok (.putfield 57, 3) := by decide +kernel
theorem dX5_markAsCall_12 : decode cX5_markAsCall 12 = .ok (.aload_n 0, 1) := by decide +kernel
theorem dX5_markAsCall_13 : decode cX5_markAsCall 13 = .ok (.iload_n 1, 1) := by decide +kernel
theorem dX5_markAsCall_14 : decode cX5_markAsCall 14 = .ok (.invokevirtual 210, 3) := by decide +kernel
theorem dX5_markAsCall_17 : decode cX5_markAsCall 17 = .ok (.iconst 2, 1) := by decide +kernel
theorem dX5_markAsCall_18 : decode cX5_markAsCall 18 = .ok (.imul, 1) := by decide +kernel
theorem dX5_markAsCall_19 : decode cX5_markAsCall 19 = .ok (.ireturn, 1) := by decide +kernel
set_option maxRecDepth 20000 in
theorem ggX5_markAsKettle_X5_markAsHum : GoodIn wsX5_markAsKettle wsX5_markAsHum := goodIn_r _ [8, 1, 9, 10, 11, 12, 13, 14, 7, 15, 16, 17, 18, 19, 20, 21, 22, 23, 24, 25, 26, 27, 28, 29, 30, 31, 32, 45, 46, 47, 48, 49, 50, 51, 52, 53, 54, 55, 56, 57, 58, 59, 60, 61, 62] (by decide +kernel) (by decide +kernel)
set_option maxRecDepth 20000 in
theorem gX5_markAsKettle_X5_markAsHum : GoodIn wsX5_markAsKettle (wsV RX5 213 RX5 yX5_markAsHum wsX5_markAsHum) := goodIn_app (goodIn_of _ (by decide +kernel)) ggX5_markAsKettle_X5_markAsHum
set_option maxRecDepth 20000 in
theorem ggX5_markAsKettle_X0_timesHeard : GoodIn wsX5_markAsKettle wsX0_timesHeard := goodIn_r _ [37, 38, 39, 40, 41, 42, 36, 43, 44, 23, 24, 19, 25, 26, 27, 28, 29, 30, 21, 31, 7, 32, 63, 64, 65, 66, 60, 61, 62] (by decide +kernel) (by decide +kernel)
set_option maxRecDepth 20000 in
theorem gX5_markAsKettle_X0_timesHeard : GoodIn wsX5_markAsKettle (wsV RX5 272 RX0 yX0_timesHeard wsX0_timesHeard) := goodIn_app (goodIn_of _ (by decide +kernel)) ggX5_markAsKettle_X0_timesHeard
theorem dX5_markAsKettle_0 : decode cX5_markAsKettle 0 = .ok (.aload_n 0, 1) := by decide +kernel
theorem dX5_markAsKettle_1 : decode cX5_markAsKettle 1 = .ok (.dup, 1) := by decide +kernel
theorem dX5_markAsKettle_2 : decode cX5_markAsKettle 2 = .ok (.getfield 57, 3) := by decide +kernel
theorem dX5_markAsKettle_5 : decode cX5_markAsKettle 5 = .ok (.ldc2_w 270, 3) := by decide +kernel
theorem dX5_markAsKettle_8 : decode cX5_markAsKettle 8 = .ok (.ladd, 1) := by decide +kernel
theorem dX5_markAsKettle_9 : decode cX5_markAsKettle 9 = .ok (.putfield 57, 3) := by decide +kernel
theorem dX5_markAsKettle_12 : decode cX5_markAsKettle 12 = .ok (.aload_n 0, 1) := by decide +kernel
theorem dX5_markAsKettle_13 : decode cX5_markAsKettle 13 = .ok (.iload_n 1, 1) := by decide +kernel
theorem dX5_markAsKettle_14 : decode cX5_markAsKettle 14 = .ok (.invokevirtual 213, 3) := by decide +kernel
theorem dX5_markAsKettle_17 : decode cX5_markAsKettle 17 = .ok (.aload_n 0, 1) := by decide +kernel
theorem dX5_markAsKettle_18 : decode cX5_markAsKettle 18 = .ok (.getfield 36, 3) := by decide +kernel
theorem dX5_markAsKettle_21 : decode cX5_markAsKettle 21 = .ok (.iload_n 1, 1) := by decide +kernel
theorem dX5_markAsKettle_22 : decode cX5_markAsKettle 22 = .ok (.invokevirtual 272, 3) := by decide +kernel
theorem dX5_markAsKettle_25 : decode cX5_markAsKettle 25 = .ok (.iadd, 1) := by decide +kernel
theorem dX5_markAsKettle_26 : decode cX5_markAsKettle 26 = .ok (.ireturn, 1) := by decide +kernel
set_option maxRecDepth 20000 in
theorem ggX5_markAsEcho_X5_markAsNote : GoodIn wsX5_markAsEcho wsX5_markAsNote := goodIn_r _ [10, 1, 11, 12, 13, 14, 15, 16, 17, 18, 19, 20, 21] (by decide +kernel) (by decide +kernel)
set_option maxRecDepth 20000 in
theorem gX5_markAsEcho_X5_markAsNote : GoodIn wsX5_markAsEcho (wsV RX5 207 RX5 yX5_markAsNote wsX5_markAsNote) := goodIn_app (goodIn_of _ (by decide +kernel)) ggX5_markAsEcho_X5_markAsNote
theorem dX5_markAsEcho_0 : decode cX5_markAsEcho 0 = .ok (.aload_n 0, 1) := by decide +kernel
theorem dX5_markAsEcho_1 : decode cX5_markAsEcho 1 = .ok (.dup, 1) := by decide +kernel
theorem dX5_markAsEcho_2 : decode cX5_markAsEcho 2 = .ok (.getfield 57, 3) := by decide +kernel
theorem dX5_markAsEcho_5 : decode cX5_markAsEcho 5 = .ok (.ldc2_w 275, 3) := by decide +kernel
theorem dX5_markAsEcho_8 : decode cX5_markAsEcho 8 = .ok (.ladd, 1) := by decide +kernel
theorem dX5_markAsEcho_9 : decode cX5_markAsEcho 9 = .ok (.putfield 57, 3) := by decide +kernel
theorem dX5_markAsEcho_12 : decode cX5_markAsEcho 12 = .ok (.aload_n 0, 1) := by decide +kernel
theorem dX5_markAsEcho_13 : decode cX5_markAsEcho 13 = .ok (.iload_n 1, 1) := by decide +kernel
theorem dX5_markAsEcho_14 : decode cX5_markAsEcho 14 = .ok (.invokevirtual 207, 3) := by decide +kernel
theorem dX5_markAsEcho_17 : decode cX5_markAsEcho 17 = .ok (.aload_n 0, 1) := by decide +kernel
theorem dX5_markAsEcho_18 : decode cX5_markAsEcho 18 = .ok (.getfield 36, 3) := by decide +kernel
theorem dX5_markAsEcho_21 : decode cX5_markAsEcho 21 = .ok (.getfield 115, 3) := by decide +kernel
theorem dX5_markAsEcho_24 : decode cX5_markAsEcho 24 = .ok (.getfield 136, 3) := by decide +kernel
theorem dX5_markAsEcho_27 : decode cX5_markAsEcho 27 = .ok (.iadd, 1) := by decide +kernel
theorem dX5_markAsEcho_28 : decode cX5_markAsEcho 28 = .ok (.ireturn, 1) := by decide +kernel
theorem dX5_imageOf_0 : decode cX5_imageOf 0 = .ok (.iload_n 1, 1) := by decide +kernel
theorem dX5_imageOf_1 : decode cX5_imageOf 1 = .ok (.ifCond .ne 10, 3) := by decide +kernel
theorem dX5_imageOf_4 : decode cX5_imageOf 4 = .ok (.aload_n 0, 1) := by decide +kernel
theorem dX5_imageOf_5 : decode cX5_imageOf 5 = .ok (.getfield 40, 3) := by decide +kernel
theorem dX5_imageOf_8 : decode cX5_imageOf 8 = .ok (.goto 7, 3) := by decide +kernel
theorem dX5_imageOf_11 : decode cX5_imageOf 11 = .ok (.aload_n 0, 1) := by decide +kernel
theorem dX5_imageOf_12 : decode cX5_imageOf 12 = .ok (.getfield 43, 3) := by decide +kernel
theorem dX5_imageOf_15 : decode cX5_imageOf 15 = .ok (.areturn, 1) := by decide +kernel
theorem dX6_init_0 : decode cX6_init 0 = .ok (.aload_n 0, 1) := by decide +kernel
theorem dX6_init_1 : decode cX6_init 1 = .ok (.invokespecial 1, 3) := by decide +kernel
theorem dX6_init_4 : decode cX6_init 4 = .ok (.aload_n 0, 1) := by decide +kernel
theorem dX6_init_5 : decode cX6_init 5 = .ok (.bipush 20, 2) := by decide +kernel
theorem dX6_init_7 : decode cX6_init 7 = .ok (.newarray .int, 2) := by decide +kernel
theorem dX6_init_9 : decode cX6_init 9 = .ok (.putfield 7, 3) := by decide +kernel
theorem dX6_init_12 : decode cX6_init 12 = .ok (.aload_n 0, 1) := by decide +kernel
theorem dX6_init_13 : decode cX6_init 13 = .ok (.bipush 9, 2) := by decide +kernel
theorem dX6_init_15 : decode cX6_init 15 = .ok (.newarray .int, 2) := by decide +kernel
theorem dX6_init_17 : decode cX6_init 17 = .ok (.putfield 13, 3) := by decide +kernel
theorem dX6_init_20 : decode cX6_init 20 = .ok (.aload_n 0, 1) := by decide +kernel
theorem dX6_init_21 : decode cX6_init 21 = .ok (.bipush 10, 2) := by decide +kernel
theorem dX6_init_23 : decode cX6_init 23 = .ok (.newarray .int, 2) := by decide +kernel
theorem dX6_init_25 : decode cX6_init 25 = .ok (.putfield 16, 3) := by decide +kernel
theorem dX6_init_28 : decode cX6_init 28 = .ok (.aload_n 0, 1) := by decide +kernel
theorem dX6_init_29 : decode cX6_init 29 = .ok (.bipush 104, 2) := by decide +kernel
theorem dX6_init_31 : decode cX6_init 31 = .ok (.newarray .int, 2) := by decide +kernel
theorem dX6_init_33 : decode cX6_init 33 = .ok (.putfield 19, 3) := by decide +kernel
theorem dX6_init_36 : decode cX6_init 36 = .ok (.aload_n 0, 1) := by decide +kernel
theorem dX6_init_37 : decode cX6_init 37 = .ok (.sipush 208, 3) := by decide +kernel
theorem dX6_init_40 : decode cX6_init 40 = .ok (.newarray .int, 2) := by decide +kernel
theorem dX6_init_42 : decode cX6_init 42 = .ok (.putfield 22, 3) := by decide +kernel
theorem dX6_init_45 : decode cX6_init 45 = .ok (.aload_n 0, 1) := by decide +kernel
theorem dX6_init_46 : decode cX6_init 46 = .ok (.iconst 2, 1) := by decide +kernel
theorem dX6_init_47 : decode cX6_init 47 = .ok (.newarray .boolean, 2) := by decide +kernel
theorem dX6_init_49 : decode cX6_init 49 = .ok (.putfield 25, 3) := by decide +kernel
theorem dX6_init_52 : decode cX6_init 52 = .ok (.aload_n 0, 1) := by decide +kernel
theorem dX6_init_53 : decode cX6_init 53 = .ok (.sipush 250, 3) := by decide +kernel
theorem dX6_init_56 : decode cX6_init 56 = .ok (.newarray .int, 2) := by decide +kernel
theorem dX6_init_58 : decode cX6_init 58 = .ok (.putfield 29, 3) := by decide +kernel
theorem dX6_init_61 : decode cX6_init 61 = .ok (.aload_n 0, 1) := by decide +kernel
theorem dX6_init_62 : decode cX6_init 62 = .ok (.iconst 5, 1) := by decide +kernel
theorem dX6_init_63 : decode cX6_init 63 = .ok (.newarray .int, 2) := by decide +kernel
theorem dX6_init_65 : decode cX6_init 65 = .ok (.putfield 32, 3) := by decide +kernel
theorem dX6_init_68 : decode cX6_init 68 = .ok (.aload_n 0, 1) := by decide +kernel
theorem dX6_init_69 : decode cX6_init 69 = .ok (.bipush 20, 2) := by decide +kernel
theorem dX6_init_71 : decode cX6_init 71 = .ok (.newarray .int, 2) := by decide +kernel
theorem dX6_init_73 : decode cX6_init 73 = .ok (.putfield 35, 3) := by decide +kernel
theorem dX6_init_76 : decode cX6_init 76 = .ok (.aload_n 0, 1) := by decide +kernel
theorem dX6_init_77 : decode cX6_init 77 = .ok (.bipush 9, 2) := by decide +kernel
theorem dX6_init_79 : decode cX6_init 79 = .ok (.newarray .int, 2) := by decide +kernel
theorem dX6_init_81 : decode cX6_init 81 = .ok (.putfield 38, 3) := by decide +kernel
theorem dX6_init_84 : decode cX6_init 84 = .ok (.aload_n 0, 1) := by decide +kernel
theorem dX6_init_85 : decode cX6_init 85 = .ok (.bipush 10, 2) := by decide +kernel
theorem dX6_init_87 : decode cX6_init 87 = .ok (.newarray .int, 2) := by decide +kernel
theorem dX6_init_89 : decode cX6_init 89 = .ok (.putfield 41, 3) := by decide +kernel
theorem dX6_init_92 : decode cX6_init 92 = .ok (.aload_n 0, 1) := by decide +kernel
theorem dX6_init_93 : decode cX6_init 93 = .ok (.bipush 8, 2) := by decide +kernel
theorem dX6_init_95 : decode cX6_init 95 = .ok (.newarray .int, 2) := by decide +kernel
theorem dX6_init_97 : decode cX6_init 97 = .ok (.putfield 44, 3) := by decide +kernel
theorem dX6_init_100 : decode cX6_init 100 = .ok (.aload_n 0, 1) := by decide +kernel
theorem dX6_init_101 : decode cX6_init 101 = .ok (.iconst 0, 1) := by decide +kernel
theorem dX6_init_102 : decode cX6_init 102 = .ok (.putfield 47, 3) := by decide +kernel
theorem dX6_init_105 : decode cX6_init 105 = .ok (.return_, 1) := by decide +kernel
theorem dX6_in_0 : decode cX6_in 0 = .ok (.iload_n 0, 1) := by decide +kernel
theorem dX6_in_1 : decode cX6_in 1 = .ok (.iload_n 1, 1) := by decide +kernel
theorem dX6_in_2 : decode cX6_in 2 = .ok (.if_icmp .lt 12, 3) := by decide +kernel
theorem dX6_in_5 : decode cX6_in 5 = .ok (.iload_n 0, 1) := by decide +kernel
theorem dX6_in_6 : decode cX6_in 6 = .ok (.iload_n 2, 1) := by decide +kernel
theorem dX6_in_7 : decode cX6_in 7 = .ok (.if_icmp .gt 7, 3) := by decide +kernel
theorem dX6_in_10 : decode cX6_in 10 = .ok (.iconst 1, 1) := by decide +kernel
theorem dX6_in_11 : decode cX6_in 11 = .ok (.goto 4, 3) := by decide +kernel
theorem dX6_in_14 : decode cX6_in 14 = .ok (.iconst 0, 1) := by decide +kernel
theorem dX6_in_15 : decode cX6_in 15 = .ok (.ireturn, 1) := by decide +kernel
theorem dX6_has_0 : decode cX6_has 0 = .ok (.iload_n 0, 1) := by decide +kernel
theorem dX6_has_1 : decode cX6_has 1 = .ok (.iload_n 1, 1) := by decide +kernel
theorem dX6_has_2 : decode cX6_has 2 = .ok (.ishr, 1) := by decide +kernel
theorem dX6_has_3 : decode cX6_has 3 = .ok (.iconst 1, 1) := by decide +kernel
theorem dX6_has_4 : decode cX6_has 4 = .ok (.iand, 1) := by decide +kernel
theorem dX6_has_5 : decode cX6_has 5 = .ok (.iconst 1, 1) := by decide +kernel
theorem dX6_has_6 : decode cX6_has 6 = .ok (.if_icmp .ne 7, 3) := by decide +kernel
theorem dX6_has_9 : decode cX6_has 9 = .ok (.iconst 1, 1) := by decide +kernel
theorem dX6_has_10 : decode cX6_has 10 = .ok (.goto 4, 3) := by decide +kernel
theorem dX6_has_13 : decode cX6_has 13 = .ok (.iconst 0, 1) := by decide +kernel
theorem dX6_has_14 : decode cX6_has 14 = .ok (.ireturn, 1) := by decide +kernel
theorem dX6_bits_0 : decode cX6_bits 0 = .ok (.iconst 0, 1) := by decide +kernel
theorem dX6_bits_1 : decode cX6_bits 1 = .ok (.istore_n 1, 1) := by decide +kernel
theorem dX6_bits_2 : decode cX6_bits 2 = .ok (.iload_n 0, 1) := by decide +kernel
theorem dX6_bits_3 : decode cX6_bits 3 = .ok (.istore_n 2, 1) := by decide +kernel
theorem dX6_bits_4 : decode cX6_bits 4 = .ok (.iload_n 2, 1) := by decide +kernel
theorem dX6_bits_5 : decode cX6_bits 5 = .ok (.ifCond .le 15, 3) := by decide +kernel
theorem dX6_bits_8 : decode cX6_bits 8 = .ok (.iinc 1 1, 3) := by decide +kernel
theorem dX6_bits_11 : decode cX6_bits 11 = .ok (.iload_n 2, 1) := by decide +kernel
theorem dX6_bits_12 : decode cX6_bits 12 = .ok (.iload_n 2, 1) := by decide +kernel
theorem dX6_bits_13 : decode cX6_bits 13 = .ok (.iconst 1, 1) := by decide +kernel
theorem dX6_bits_14 : decode cX6_bits 14 = .ok (.isub, 1) := by decide +kernel
theorem dX6_bits_15 : decode cX6_bits 15 = .ok (.iand, 1) := by decide +kernel
theorem dX6_bits_16 : decode cX6_bits 16 = .ok (.istore_n 2, 1) := by decide +kernel
theorem dX6_bits_17 : decode cX6_bits 17 = .ok (.goto (-13), 3) := by decide +kernel
theorem dX6_bits_20 : decode cX6_bits 20 = .ok (.iload_n 1, 1) := by decide +kernel
theorem dX6_bits_21 : decode cX6_bits 21 = .ok (.ireturn, 1) := by decide +kernel
set_option maxRecDepth 20000 in
theorem ggX6_isDish_X6_in : GoodIn wsX6_isDish wsX6_in := goodIn_r _ [5] (by decide +kernel) (by decide +kernel)
set_option maxRecDepth 20000 in
theorem gX6_isDish_X6_in : GoodIn wsX6_isDish (va_wsS RX6 51 yX6_in wsX6_in) := goodIn_app (goodIn_of _ (by decide +kernel)) ggX6_isDish_X6_in
theorem dX6_isDish_0 : decode cX6_isDish 0 = .ok (.iload_n 1, 1) := by decide +kernel
theorem dX6_isDish_1 : decode cX6_isDish 1 = .ok (.iconst 0, 1) := by decide +kernel
theorem dX6_isDish_2 : decode cX6_isDish 2 = .ok (.aload_n 0, 1) := by decide +kernel
theorem dX6_isDish_3 : decode cX6_isDish 3 = .ok (.getfield 47, 3) := by decide +kernel
theorem dX6_isDish_6 : decode cX6_isDish 6 = .ok (.iconst 1, 1) := by decide +kernel
theorem dX6_isDish_7 : decode cX6_isDish 7 = .ok (.isub, 1) := by decide +kernel
theorem dX6_isDish_8 : decode cX6_isDish 8 = .ok (.invokestatic 51, 3) := by decide +kernel
theorem dX6_isDish_11 : decode cX6_isDish 11 = .ok (.ireturn, 1) := by decide +kernel
set_option maxRecDepth 20000 in
theorem ggX6_isHour_X6_in : GoodIn wsX6_isHour wsX6_in := goodIn_r _ [4] (by decide +kernel) (by decide +kernel)
set_option maxRecDepth 20000 in
theorem gX6_isHour_X6_in : GoodIn wsX6_isHour (va_wsS RX6 51 yX6_in wsX6_in) := goodIn_app (goodIn_of _ (by decide +kernel)) ggX6_isHour_X6_in
theorem dX6_isHour_0 : decode cX6_isHour 0 = .ok (.iload_n 0, 1) := by decide +kernel
theorem dX6_isHour_1 : decode cX6_isHour 1 = .ok (.iconst 0, 1) := by decide +kernel
theorem dX6_isHour_2 : decode cX6_isHour 2 = .ok (.bipush 23, 2) := by decide +kernel
theorem dX6_isHour_4 : decode cX6_isHour 4 = .ok (.invokestatic 51, 3) := by decide +kernel
theorem dX6_isHour_7 : decode cX6_isHour 7 = .ok (.ireturn, 1) := by decide +kernel
set_option maxRecDepth 20000 in
theorem ggX6_isNote_X6_in : GoodIn wsX6_isNote wsX6_in := goodIn_r _ [4] (by decide +kernel) (by decide +kernel)
set_option maxRecDepth 20000 in
theorem gX6_isNote_X6_in : GoodIn wsX6_isNote (va_wsS RX6 51 yX6_in wsX6_in) := goodIn_app (goodIn_of _ (by decide +kernel)) ggX6_isNote_X6_in
theorem dX6_isNote_0 : decode cX6_isNote 0 = .ok (.iload_n 0, 1) := by decide +kernel
theorem dX6_isNote_1 : decode cX6_isNote 1 = .ok (.iconst 0, 1) := by decide +kernel
theorem dX6_isNote_2 : decode cX6_isNote 2 = .ok (.bipush 9, 2) := by decide +kernel
theorem dX6_isNote_4 : decode cX6_isNote 4 = .ok (.invokestatic 51, 3) := by decide +kernel
theorem dX6_isNote_7 : decode cX6_isNote 7 = .ok (.ireturn, 1) := by decide +kernel
set_option maxRecDepth 20000 in
theorem ggX6_isAsker_X6_in : GoodIn wsX6_isAsker wsX6_in := goodIn_r _ [5] (by decide +kernel) (by decide +kernel)
set_option maxRecDepth 20000 in
theorem gX6_isAsker_X6_in : GoodIn wsX6_isAsker (va_wsS RX6 51 yX6_in wsX6_in) := goodIn_app (goodIn_of _ (by decide +kernel)) ggX6_isAsker_X6_in
theorem dX6_isAsker_0 : decode cX6_isAsker 0 = .ok (.iload_n 1, 1) := by decide +kernel
theorem dX6_isAsker_1 : decode cX6_isAsker 1 = .ok (.iconst 0, 1) := by decide +kernel
theorem dX6_isAsker_2 : decode cX6_isAsker 2 = .ok (.aload_n 0, 1) := by decide +kernel
theorem dX6_isAsker_3 : decode cX6_isAsker 3 = .ok (.getfield 55, 3) := by decide +kernel
theorem dX6_isAsker_6 : decode cX6_isAsker 6 = .ok (.iconst 1, 1) := by decide +kernel
theorem dX6_isAsker_7 : decode cX6_isAsker 7 = .ok (.isub, 1) := by decide +kernel
theorem dX6_isAsker_8 : decode cX6_isAsker 8 = .ok (.invokestatic 51, 3) := by decide +kernel
theorem dX6_isAsker_11 : decode cX6_isAsker 11 = .ok (.ireturn, 1) := by decide +kernel
set_option maxRecDepth 20000 in
theorem ggX6_type_X6_in : GoodIn wsX6_type wsX6_in := goodIn_r _ [7] (by decide +kernel) (by decide +kernel)
set_option maxRecDepth 20000 in
theorem gX6_type_X6_in : GoodIn wsX6_type (va_wsS RX6 51 yX6_in wsX6_in) := goodIn_app (goodIn_of _ (by decide +kernel)) ggX6_type_X6_in
theorem dX6_type_0 : decode cX6_type 0 = .ok (.iload_n 3, 1) := by decide +kernel
theorem dX6_type_1 : decode cX6_type 1 = .ok (.iconst 1, 1) := by decide +kernel
theorem dX6_type_2 : decode cX6_type 2 = .ok (.bipush 8, 2) := by decide +kernel
theorem dX6_type_4 : decode cX6_type 4 = .ok (.invokestatic 51, 3) := by decide +kernel
theorem dX6_type_7 : decode cX6_type 7 = .ok (.ifCond .ne 5, 3) := by decide +kernel
theorem dX6_type_10 : decode cX6_type 10 = .ok (.iconst (-1), 1) := by decide +kernel
theorem dX6_type_11 : decode cX6_type 11 = .ok (.ireturn, 1) := by decide +kernel
theorem dX6_type_12 : decode cX6_type 12 = .ok (.aload_n 0, 1) := by decide +kernel
theorem dX6_type_13 : decode cX6_type 13 = .ok (.getfield 58, 3) := by decide +kernel
theorem dX6_type_16 : decode cX6_type 16 = .ok (.iload_n 3, 1) := by decide +kernel
theorem dX6_type_17 : decode cX6_type 17 = .ok (.iadd, 1) := by decide +kernel
theorem dX6_type_18 : decode cX6_type 18 = .ok (.sipush 250, 3) := by decide +kernel
theorem dX6_type_21 : decode cX6_type 21 = .ok (.if_icmp .le 6, 3) := by decide +kernel
theorem dX6_type_24 : decode cX6_type 24 = .ok (.bipush (-3), 2) := by decide +kernel
theorem dX6_type_26 : decode cX6_type 26 = .ok (.ireturn, 1) := by decide +kernel
theorem dX6_type_27 : decode cX6_type 27 = .ok (.iload_n 3, 1) := by decide +kernel
theorem dX6_type_28 : decode cX6_type 28 = .ok (.iconst 1, 1) := by decide +kernel
theorem dX6_type_29 : decode cX6_type 29 = .ok (.isub, 1) := by decide +kernel
theorem dX6_type_30 : decode cX6_type 30 = .ok (.istore 4, 2) := by decide +kernel
theorem dX6_type_32 : decode cX6_type 32 = .ok (.iload 4, 2) := by decide +kernel
theorem dX6_type_34 : decode cX6_type 34 = .ok (.ifCond .lt 40, 3) := by decide +kernel
theorem dX6_type_37 : decode cX6_type 37 = .ok (.aload_n 0, 1) := by decide +kernel
theorem dX6_type_38 : decode cX6_type 38 = .ok (.getfield 29, 3) := by decide +kernel
theorem dX6_type_41 : decode cX6_type 41 = .ok (.aload_n 0, 1) := by decide +kernel
theorem dX6_type_42 : decode cX6_type 42 = .ok (.getfield 58, 3) := by decide +kernel
theorem dX6_type_45 : decode cX6_type 45 = .ok (.lload_n 1, 1) := by decide +kernel
theorem dX6_type_46 : decode cX6_type 46 = .ok (.bipush 8, 2) := by decide +kernel
theorem dX6_type_48 : decode cX6_type 48 = .ok (.iload 4, 2) := by decide +kernel
theorem dX6_type_50 : decode cX6_type 50 = .ok (.imul, 1) := by decide +kernel
theorem dX6_type_51 : decode cX6_type 51 = .ok (.lshr, 1) := by decide +kernel
theorem dX6_type_52 : decode cX6_type 52 = .ok (.ldc2_w 61, 3) := by decide +kernel
theorem dX6_type_55 : decode cX6_type 55 = .ok (.land, 1) := by decide +kernel
theorem dX6_type_56 : decode cX6_type 56 = .ok (.l2i, 1) := by decide +kernel
theorem dX6_type_57 : decode cX6_type 57 = .ok (.iastore, 1) := by decide +kernel
theorem dX6_type_58 : decode cX6_type 58 = .ok (.aload_n 0, 1) := by decide +kernel
theorem dX6_type_59 : decode cX6_type 59 = .ok (.dup, 1) := by decide +kernel
theorem dX6_type_60 : decode cX6_type 60 = .ok (.getfield 58, 3) := by decide +kernel
theorem dX6_type_63 : decode cX6_type 63 = .ok (.iconst 1, 1) := by decide +kernel
theorem dX6_type_64 : decode cX6_type 64 = .ok (.iadd, 1) := by decide +kernel
theorem dX6_type_65 : decode cX6_type 65 = .ok (.putfield 58, 3) := by decide +kernel
theorem dX6_type_68 : decode cX6_type 68 = .ok (.iinc 4 (-1), 3) := by decide +kernel
theorem dX6_type_71 : decode cX6_type 71 = .ok (.goto (-39), 3) := by decide +kernel
theorem dX6_type_74 : decode cX6_type 74 = .ok (.aload_n 0, 1) := by decide +kernel
theorem dX6_type_75 : decode cX6_type 75 = .ok (.getfield 58, 3) := by decide +kernel
theorem dX6_type_78 : decode cX6_type 78 = .ok (.ireturn, 1) := by decide +kernel
theorem dX6_clear_0 : decode cX6_clear 0 = .ok (.aload_n 0, 1) := by decide +kernel
theorem dX6_clear_1 : decode cX6_clear 1 = .ok (.getfield 58, 3) := by decide +kernel
theorem dX6_clear_4 : decode cX6_clear 4 = .ok (.istore_n 1, 1) := by decide +kernel
theorem dX6_clear_5 : decode cX6_clear 5 = .ok (.aload_n 0, 1) := by decide +kernel
theorem dX6_clear_6 : decode cX6_clear 6 = .ok (.iconst 0, 1) := by decide +kernel
theorem dX6_clear_7 : decode cX6_clear 7 = .ok (.putfield 58, 3) := by decide +kernel
theorem dX6_clear_10 : decode cX6_clear 10 = .ok (.iload_n 1, 1) := by decide +kernel
theorem dX6_clear_11 : decode cX6_clear 11 = .ok (.ireturn, 1) := by decide +kernel
theorem dX6_byteAt_0 : decode cX6_byteAt 0 = .ok (.iload_n 1, 1) := by decide +kernel
theorem dX6_byteAt_1 : decode cX6_byteAt 1 = .ok (.aload_n 0, 1) := by decide +kernel
theorem dX6_byteAt_2 : decode cX6_byteAt 2 = .ok (.getfield 58, 3) := by decide +kernel
theorem dX6_byteAt_5 : decode cX6_byteAt 5 = .ok (.if_icmp .ge 12, 3) := by decide +kernel
theorem dX6_byteAt_8 : decode cX6_byteAt 8 = .ok (.aload_n 0, 1) := by decide +kernel
theorem dX6_byteAt_9 : decode cX6_byteAt 9 = .ok (.getfield 29, 3) := by decide +kernel
theorem dX6_byteAt_12 : decode cX6_byteAt 12 = .ok (.iload_n 1, 1) := by decide +kernel
theorem dX6_byteAt_13 : decode cX6_byteAt 13 = .ok (.iaload, 1) := by decide +kernel
theorem dX6_byteAt_14 : decode cX6_byteAt 14 = .ok (.goto 4, 3) := by decide +kernel
theorem dX6_byteAt_17 : decode cX6_byteAt 17 = .ok (.iconst (-1), 1) := by decide +kernel
theorem dX6_byteAt_18 : decode cX6_byteAt 18 = .ok (.ireturn, 1) := by decide +kernel
set_option maxRecDepth 20000 in
theorem ggX6_next_X6_byteAt : GoodIn wsX6_next wsX6_byteAt := goodIn_r _ [10, 11, 12, 16, 17, 18, 19, 20, 21, 22, 23, 24, 25, 26, 27, 28, 29, 30, 31, 32, 33, 34, 35, 36, 37, 38, 39, 40, 41, 42, 43, 44, 45] (by decide +kernel) (by decide +kernel)
set_option maxRecDepth 20000 in
theorem gX6_next_X6_byteAt : GoodIn wsX6_next (wsV RX6 66 RX6 yX6_byteAt wsX6_byteAt) := goodIn_app (goodIn_of _ (by decide +kernel)) ggX6_next_X6_byteAt
set_option maxRecDepth 20000 in
theorem ggX6_next_X6_in : GoodIn wsX6_next wsX6_in := goodIn_r _ [15] (by decide +kernel) (by decide +kernel)
set_option maxRecDepth 20000 in
theorem gX6_next_X6_in : GoodIn wsX6_next (va_wsS RX6 51 yX6_in wsX6_in) := goodIn_app (goodIn_of _ (by decide +kernel)) ggX6_next_X6_in
theorem dX6_next_0 : decode cX6_next 0 = .ok (.aload_n 0, 1) := by decide +kernel
theorem dX6_next_1 : decode cX6_next 1 = .ok (.aload_n 0, 1) := by decide +kernel
theorem dX6_next_2 : decode cX6_next 2 = .ok (.getfield 63, 3) := by decide +kernel
theorem dX6_next_5 : decode cX6_next 5 = .ok (.invokevirtual 66, 3) := by decide +kernel
theorem dX6_next_8 : decode cX6_next 8 = .ok (.bipush 32, 2) := by decide +kernel
theorem dX6_next_10 : decode cX6_next 10 = .ok (.if_icmp .ne 16, 3) := by decide +kernel
theorem dX6_next_13 : decode cX6_next 13 = .ok (.aload_n 0, 1) := by decide +kernel
theorem dX6_next_14 : decode cX6_next 14 = .ok (.dup, 1) := by decide +kernel
theorem dX6_next_15 : decode cX6_next 15 = .ok (.getfield 63, 3) := by decide +kernel
theorem dX6_next_18 : decode cX6_next 18 = .ok (.iconst 1, 1) := by decide +kernel
theorem dX6_next_19 : decode cX6_next 19 = .ok (.iadd, 1) := by decide +kernel
theorem dX6_next_20 : decode cX6_next 20 = .ok (.putfield 63, 3) := by decide +kernel
theorem dX6_next_23 : decode cX6_next 23 = .ok (.goto (-23), 3) := by decide +kernel
theorem dX6_next_26 : decode cX6_next 26 = .ok (.aload_n 0, 1) := by decide +kernel
theorem dX6_next_27 : decode cX6_next 27 = .ok (.aload_n 0, 1) := by decide +kernel
theorem dX6_next_28 : decode cX6_next 28 = .ok (.getfield 63, 3) := by decide +kernel
theorem dX6_next_31 : decode cX6_next 31 = .ok (.putfield 70, 3) := by decide +kernel
theorem dX6_next_34 : decode cX6_next 34 = .ok (.aload_n 0, 1) := by decide +kernel
theorem dX6_next_35 : decode cX6_next 35 = .ok (.aload_n 0, 1) := by decide +kernel
theorem dX6_next_36 : decode cX6_next 36 = .ok (.getfield 63, 3) := by decide +kernel
theorem dX6_next_39 : decode cX6_next 39 = .ok (.invokevirtual 66, 3) := by decide +kernel
theorem dX6_next_42 : decode cX6_next 42 = .ok (.istore_n 1, 1) := by decide +kernel
theorem dX6_next_43 : decode cX6_next 43 = .ok (.iload_n 1, 1) := by decide +kernel
theorem dX6_next_44 : decode cX6_next 44 = .ok (.ifCond .ge 11, 3) := by decide +kernel
theorem dX6_next_47 : decode cX6_next 47 = .ok (.aload_n 0, 1) := by decide +kernel
theorem dX6_next_48 : decode cX6_next 48 = .ok (.iconst 0, 1) := by decide +kernel
theorem dX6_next_49 : decode cX6_next 49 = .ok (.putfield 73, 3) := by decide +kernel
theorem dX6_next_52 : decode cX6_next 52 = .ok (.goto 253, 3) := by decide +kernel
theorem dX6_next_55 : decode cX6_next 55 = .ok (.iload_n 1, 1) := by decide +kernel
theorem dX6_next_56 : decode cX6_next 56 = .ok (.bipush 97, 2) := by decide +kernel
theorem dX6_next_58 : decode cX6_next 58 = .ok (.bipush 122, 2) := by decide +kernel
theorem dX6_next_60 : decode cX6_next 60 = .ok (.invokestatic 51, 3) := by decide +kernel
theorem dX6_next_63 : decode cX6_next 63 = .ok (.ifCond .eq 83, 3) := by decide +kernel
theorem dX6_next_66 : decode cX6_next 66 = .ok (.aload_n 0, 1) := by decide +kernel
theorem dX6_next_67 : decode cX6_next 67 = .ok (.iconst 1, 1) := by decide +kernel
theorem dX6_next_68 : decode cX6_next 68 = .ok (.putfield 73, 3) := by decide +kernel
theorem dX6_next_71 : decode cX6_next 71 = .ok (.aload_n 0, 1) := by decide +kernel
theorem dX6_next_72 : decode cX6_next 72 = .ok (.lconst 0, 1) := by decide +kernel
theorem dX6_next_73 : decode cX6_next 73 = .ok (.putfield 76, 3) := by decide +kernel
theorem dX6_next_76 : decode cX6_next 76 = .ok (.aload_n 0, 1) := by decide +kernel
theorem dX6_next_77 : decode cX6_next 77 = .ok (.aload_n 0, 1) := by decide +kernel
theorem dX6_next_78 : decode cX6_next 78 = .ok (.getfield 63, 3) := by decide +kernel
theorem dX6_next_81 : decode cX6_next 81 = .ok (.invokevirtual 66, 3) := by decide +kernel
theorem dX6_next_84 : decode cX6_next 84 = .ok (.bipush 97, 2) := by decide +kernel
theorem dX6_next_86 : decode cX6_next 86 = .ok (.bipush 122, 2) := by decide +kernel
theorem dX6_next_88 : decode cX6_next 88 = .ok (.invokestatic 51, 3) := by decide +kernel
theorem dX6_next_91 : decode cX6_next 91 = .ok (.ifCond .eq 214, 3) := by decide +kernel
theorem dX6_next_94 : decode cX6_next 94 = .ok (.aload_n 0, 1) := by decide +kernel
theorem dX6_next_95 : decode cX6_next 95 = .ok (.aload_n 0, 1) := by decide +kernel
theorem dX6_next_96 : decode cX6_next 96 = .ok (.getfield 63, 3) := by decide +kernel
theorem dX6_next_99 : decode cX6_next 99 = .ok (.aload_n 0, 1) := by decide +kernel
theorem dX6_next_100 : decode cX6_next 100 = .ok (.getfield 70, 3) := by decide +kernel
theorem dX6_next_103 : decode cX6_next 103 = .ok (.isub, 1) := by decide +kernel
theorem dX6_next_104 : decode cX6_next 104 = .ok (.bipush 8, 2) := by decide +kernel
theorem dX6_next_106 : decode cX6_next 106 = .ok (.if_icmp .ge 23, 3) := by decide +kernel
theorem dX6_next_109 : decode cX6_next 109 = .ok (.aload_n 0, 1) := by decide +kernel
theorem dX6_next_110 : decode cX6_next 110 = .ok (.getfield 76, 3) := by decide +kernel
theorem dX6_next_113 : decode cX6_next 113 = .ok (.bipush 8, 2) := by decide +kernel
theorem dX6_next_115 : decode cX6_next 115 = .ok (.lshl, 1) := by decide +kernel
theorem dX6_next_116 : decode cX6_next 116 = .ok (.aload_n 0, 1) := by decide +kernel
theorem dX6_next_117 : decode cX6_next 117 = .ok (.aload_n 0, 1) := by decide +kernel
theorem dX6_next_118 : decode cX6_next 118 = .ok (.getfield 63, 3) := by decide +kernel
theorem dX6_next_121 : decode cX6_next 121 = .ok (.invokevirtual 66, 3) := by decide +kernel
theorem dX6_next_124 : decode cX6_next 124 = .ok (.i2l, 1) := by decide +kernel
theorem dX6_next_125 : decode cX6_next 125 = .ok (.lor, 1) := by decide +kernel
theorem dX6_next_126 : decode cX6_next 126 = .ok (.goto 4, 3) := by decide +kernel
theorem dX6_next_129 : decode cX6_next 129 = .ok (.lconst 0, 1) := by decide +kernel
theorem dX6_next_130 : decode cX6_next 130 = .ok (.putfield 76, 3) := by decide +kernel
theorem dX6_next_133 : decode cX6_next 133 = .ok (.aload_n 0, 1) := by decide +kernel
theorem dX6_next_134 : decode cX6_next 134 = .ok (.dup, 1) := by decide +kernel
theorem dX6_next_135 : decode cX6_next 135 = .ok (.getfield 63, 3) := by decide +kernel
theorem dX6_next_138 : decode cX6_next 138 = .ok (.iconst 1, 1) := by decide +kernel
theorem dX6_next_139 : decode cX6_next 139 = .ok (.iadd, 1) := by decide +kernel
theorem dX6_next_140 : decode cX6_next 140 = .ok (.putfield 63, 3) := by decide +kernel
theorem dX6_next_143 : decode cX6_next 143 = .ok (.goto (-67), 3) := by decide +kernel
theorem dX6_next_146 : decode cX6_next 146 = .ok (.iload_n 1, 1) := by decide +kernel
theorem dX6_next_147 : decode cX6_next 147 = .ok (.bipush 48, 2) := by decide +kernel
theorem dX6_next_149 : decode cX6_next 149 = .ok (.bipush 57, 2) := by decide +kernel
theorem dX6_next_151 : decode cX6_next 151 = .ok (.invokestatic 51, 3) := by decide +kernel
theorem dX6_next_154 : decode cX6_next 154 = .ok (.ifCond .eq 126, 3) := by decide +kernel
theorem dX6_next_157 : decode cX6_next 157 = .ok (.aload_n 0, 1) := by decide +kernel
theorem dX6_next_158 : decode cX6_next 158 = .ok (.iconst 0, 1) := by decide +kernel
theorem dX6_next_159 : decode cX6_next 159 = .ok (.putfield 80, 3) := by decide +kernel
theorem dX6_next_162 : decode cX6_next 162 = .ok (.aload_n 0, 1) := by decide +kernel
theorem dX6_next_163 : decode cX6_next 163 = .ok (.aload_n 0, 1) := by decide +kernel
theorem dX6_next_164 : decode cX6_next 164 = .ok (.getfield 63, 3) := by decide +kernel
theorem dX6_next_167 : decode cX6_next 167 = .ok (.invokevirtual 66, 3) := by decide +kernel
theorem dX6_next_170 : decode cX6_next 170 = .ok (.bipush 48, 2) := by decide +kernel
theorem dX6_next_172 : decode cX6_next 172 = .ok (.bipush 57, 2) := by decide +kernel
theorem dX6_next_174 : decode cX6_next 174 = .ok (.invokestatic 51, 3) := by decide +kernel
theorem dX6_next_177 : decode cX6_next 177 = .ok (.ifCond .eq 59, 3) := by decide +kernel
theorem dX6_next_180 : decode cX6_next 180 = .ok (.aload_n 0, 1) := by decide +kernel
theorem dX6_next_181 : decode cX6_next 181 = .ok (.aload_n 0, 1) := by decide +kernel
theorem dX6_next_182 : decode cX6_next 182 = .ok (.getfield 63, 3) := by decide +kernel
theorem dX6_next_185 : decode cX6_next 185 = .ok (.aload_n 0, 1) := by decide +kernel
theorem dX6_next_186 : decode cX6_next 186 = .ok (.getfield 70, 3) := by decide +kernel
theorem dX6_next_189 : decode cX6_next 189 = .ok (.isub, 1) := by decide +kernel
theorem dX6_next_190 : decode cX6_next 190 = .ok (.iconst 3, 1) := by decide +kernel
theorem dX6_next_191 : decode cX6_next 191 = .ok (.if_icmp .ge 25, 3) := by decide +kernel
theorem dX6_next_194 : decode cX6_next 194 = .ok (.bipush 10, 2) := by decide +kernel
theorem dX6_next_196 : decode cX6_next 196 = .ok (.aload_n 0, 1) := by decide +kernel
theorem dX6_next_197 : decode cX6_next 197 = .ok (.getfield 80, 3) := by decide +kernel
theorem dX6_next_200 : decode cX6_next 200 = .ok (.imul, 1) := by decide +kernel
theorem dX6_next_201 : decode cX6_next 201 = .ok (.aload_n 0, 1) := by decide +kernel
theorem dX6_next_202 : decode cX6_next 202 = .ok (.aload_n 0, 1) := by decide +kernel
theorem dX6_next_203 : decode cX6_next 203 = .ok (.getfield 63, 3) := by decide +kernel
theorem dX6_next_206 : decode cX6_next 206 = .ok (.invokevirtual 66, 3) := by decide +kernel
theorem dX6_next_209 : decode cX6_next 209 = .ok (.iadd, 1) := by decide +kernel
theorem dX6_next_210 : decode cX6_next 210 = .ok (.bipush 48, 2) := by decide +kernel
theorem dX6_next_212 : decode cX6_next 212 = .ok (.isub, 1) := by decide +kernel
theorem dX6_next_213 : decode cX6_next 213 = .ok (.goto 7, 3) := by decide +kernel
theorem dX6_next_216 : decode cX6_next 216 = .ok (.aload_n 0, 1) := by decide +kernel
theorem dX6_next_217 : decode cX6_next 217 = .ok (.getfield 80, 3) := by decide +kernel
theorem dX6_next_220 : decode cX6_next 220 = .ok (.putfield 80, 3) := by decide +kernel
theorem dX6_next_223 : decode cX6_next 223 = .ok (.aload_n 0, 1) := by decide +kernel
theorem dX6_next_224 : decode cX6_next 224 = .ok (.dup, 1) := by decide +kernel
theorem dX6_next_225 : decode cX6_next 225 = .ok (.getfield 63, 3) := by decide +kernel
theorem dX6_next_228 : decode cX6_next 228 = .ok (.iconst 1, 1) := by decide +kernel
theorem dX6_next_229 : decode cX6_next 229 = .ok (.iadd, 1) := by decide +kernel
theorem dX6_next_230 : decode cX6_next 230 = .ok (.putfield 63, 3) := by decide +kernel
theorem dX6_next_233 : decode cX6_next 233 = .ok (.goto (-71), 3) := by decide +kernel
theorem dX6_next_236 : decode cX6_next 236 = .ok (.aload_n 0, 1) := by decide +kernel
theorem dX6_next_237 : decode cX6_next 237 = .ok (.aload_n 0, 1) := by decide +kernel
theorem dX6_next_238 : decode cX6_next 238 = .ok (.getfield 63, 3) := by decide +kernel
theorem dX6_next_241 : decode cX6_next 241 = .ok (.aload_n 0, 1) := by decide +kernel
theorem dX6_next_242 : decode cX6_next 242 = .ok (.getfield 70, 3) := by decide +kernel
theorem dX6_next_245 : decode cX6_next 245 = .ok (.isub, 1) := by decide +kernel
theorem dX6_next_246 : decode cX6_next 246 = .ok (.iconst 3, 1) := by decide +kernel
theorem dX6_next_247 : decode cX6_next 247 = .ok (.if_icmp .ge 26, 3) := by decide +kernel
theorem dX6_next_250 : decode cX6_next 250 = .ok (.iload_n 1, 1) := by decide +kernel
theorem dX6_next_251 : decode cX6_next 251 = .ok (.bipush 48, 2) := by decide +kernel
theorem dX6_next_253 : decode cX6_next 253 = .ok (.if_icmp .ne 16, 3) := by decide +kernel
theorem dX6_next_256 : decode cX6_next 256 = .ok (.aload_n 0, 1) := by decide +kernel
theorem dX6_next_257 : decode cX6_next 257 = .ok (.getfield 63, 3) := by decide +kernel
theorem dX6_next_260 : decode cX6_next 260 = .ok (.aload_n 0, 1) := by decide +kernel
theorem dX6_next_261 : decode cX6_next 261 = .ok (.getfield 70, 3) := by decide +kernel
theorem dX6_next_264 : decode cX6_next 264 = .ok (.isub, 1) := by decide +kernel
theorem dX6_next_265 : decode cX6_next 265 = .ok (.iconst 1, 1) := by decide +kernel
theorem dX6_next_266 : decode cX6_next 266 = .ok (.if_icmp .ne 7, 3) := by decide +kernel
theorem dX6_next_269 : decode cX6_next 269 = .ok (.iconst 2, 1) := by decide +kernel
theorem dX6_next_270 : decode cX6_next 270 = .ok (.goto 4, 3) := by decide +kernel
theorem dX6_next_273 : decode cX6_next 273 = .ok (.iconst 4, 1) := by decide +kernel
theorem dX6_next_274 : decode cX6_next 274 = .ok (.putfield 73, 3) := by decide +kernel
theorem dX6_next_277 : decode cX6_next 277 = .ok (.goto 28, 3) := by decide +kernel
theorem dX6_next_280 : decode cX6_next 280 = .ok (.aload_n 0, 1) := by decide +kernel
theorem dX6_next_281 : decode cX6_next 281 = .ok (.iload_n 1, 1) := by decide +kernel
theorem dX6_next_282 : decode cX6_next 282 = .ok (.bipush 59, 2) := by decide +kernel
theorem dX6_next_284 : decode cX6_next 284 = .ok (.if_icmp .ne 7, 3) := by decide +kernel
theorem dX6_next_287 : decode cX6_next 287 = .ok (.iconst 3, 1) := by decide +kernel
theorem dX6_next_288 : decode cX6_next 288 = .ok (.goto 4, 3) := by decide +kernel
theorem dX6_next_291 : decode cX6_next 291 = .ok (.iconst 4, 1) := by decide +kernel
theorem dX6_next_292 : decode cX6_next 292 = .ok (.putfield 73, 3) := by decide +kernel
theorem dX6_next_295 : decode cX6_next 295 = .ok (.aload_n 0, 1) := by decide +kernel
theorem dX6_next_296 : decode cX6_next 296 = .ok (.dup, 1) := by decide +kernel
theorem dX6_next_297 : decode cX6_next 297 = .ok (.getfield 63, 3) := by decide +kernel
theorem dX6_next_300 : decode cX6_next 300 = .ok (.iconst 1, 1) := by decide +kernel
theorem dX6_next_301 : decode cX6_next 301 = .ok (.iadd, 1) := by decide +kernel
theorem dX6_next_302 : decode cX6_next 302 = .ok (.putfield 63, 3) := by decide +kernel
theorem dX6_next_305 : decode cX6_next 305 = .ok (.return_, 1) := by decide +kernel
set_option maxRecDepth 20000 in
theorem ggX6_must_X6_next : GoodIn wsX6_must wsX6_next := goodIn_r _ [6, 7, 8, 9, 10, 11, 12, 13, 14, 5, 15, 16, 17, 18, 19, 20, 21, 22, 23, 24, 25, 26, 27, 28, 29, 30, 31, 32, 33, 34, 35, 36, 37, 38, 39, 40, 41, 42, 43, 44, 45, 46, 47, 48, 49, 50] (by decide +kernel) (by decide +kernel)
set_option maxRecDepth 20000 in
theorem gX6_must_X6_next : GoodIn wsX6_must (wsV RX6 87 RX6 yX6_next wsX6_next) := goodIn_app (goodIn_of _ (by decide +kernel)) ggX6_must_X6_next
theorem dX6_must_0 : decode cX6_must 0 = .ok (.aload_n 0, 1) := by decide +kernel
theorem dX6_must_1 : decode cX6_must 1 = .ok (.aload_n 0, 1) := by decide +kernel
theorem dX6_must_2 : decode cX6_must 2 = .ok (.getfield 83, 3) := by decide +kernel
theorem dX6_must_5 : decode cX6_must 5 = .ok (.ifCond .ne 7, 3) := by decide +kernel
theorem dX6_must_8 : decode cX6_must 8 = .ok (.iload_n 1, 1) := by decide +kernel
theorem dX6_must_9 : decode cX6_must 9 = .ok (.ifCond .ne 7, 3) := by decide +kernel
theorem dX6_must_12 : decode cX6_must 12 = .ok (.iconst 1, 1) := by decide +kernel
theorem dX6_must_13 : decode cX6_must 13 = .ok (.goto 4, 3) := by decide +kernel
theorem dX6_must_16 : decode cX6_must 16 = .ok (.iconst 0, 1) := by decide +kernel
theorem dX6_must_17 : decode cX6_must 17 = .ok (.putfield 83, 3) := by decide +kernel
theorem dX6_must_20 : decode cX6_must 20 = .ok (.aload_n 0, 1) := by decide +kernel
theorem dX6_must_21 : decode cX6_must 21 = .ok (.getfield 83, 3) := by decide +kernel
theorem dX6_must_24 : decode cX6_must 24 = .ok (.ifCond .ne 7, 3) := by decide +kernel
theorem dX6_must_27 : decode cX6_must 27 = .ok (.aload_n 0, 1) := by decide +kernel
theorem dX6_must_28 : decode cX6_must 28 = .ok (.invokevirtual 87, 3) := by decide +kernel
theorem dX6_must_31 : decode cX6_must 31 = .ok (.return_, 1) := by decide +kernel
set_option maxRecDepth 20000 in
theorem ggX6_readInto_X6_in : GoodIn wsX6_readInto wsX6_in := goodIn_r _ [7] (by decide +kernel) (by decide +kernel)
set_option maxRecDepth 20000 in
theorem gX6_readInto_X6_in : GoodIn wsX6_readInto (va_wsS RX6 51 yX6_in wsX6_in) := goodIn_app (goodIn_of _ (by decide +kernel)) ggX6_readInto_X6_in
set_option maxRecDepth 20000 in
theorem ggX6_readInto_X6_must : GoodIn wsX6_readInto wsX6_must := goodIn_r _ [11, 3, 12, 13, 14, 6, 15, 16, 17, 2, 18, 1, 19, 20, 21, 22, 23, 24, 4, 5, 7, 25, 26, 27, 28, 29, 30, 31, 32, 33, 34, 35, 36, 37, 38, 39, 40, 41, 42, 43, 44, 45, 46, 47, 48, 49, 50, 51, 52, 53, 54] (by decide +kernel) (by decide +kernel)
set_option maxRecDepth 20000 in
theorem gX6_readInto_X6_must : GoodIn wsX6_readInto (wsV RX6 90 RX6 yX6_must wsX6_must) := goodIn_app (goodIn_of _ (by decide +kernel)) ggX6_readInto_X6_must
theorem dX6_readInto_0 : decode cX6_readInto 0 = .ok (.aload_n 0, 1) := by decide +kernel
theorem dX6_readInto_1 : decode cX6_readInto 1 = .ok (.getfield 80, 3) := by decide +kernel
theorem dX6_readInto_4 : decode cX6_readInto 4 = .ok (.istore 5, 2) := by decide +kernel
theorem dX6_readInto_6 : decode cX6_readInto 6 = .ok (.aload_n 0, 1) := by decide +kernel
theorem dX6_readInto_7 : decode cX6_readInto 7 = .ok (.aload_n 0, 1) := by decide +kernel
theorem dX6_readInto_8 : decode cX6_readInto 8 = .ok (.getfield 73, 3) := by decide +kernel
theorem dX6_readInto_11 : decode cX6_readInto 11 = .ok (.iconst 2, 1) := by decide +kernel
theorem dX6_readInto_12 : decode cX6_readInto 12 = .ok (.if_icmp .ne 18, 3) := by decide +kernel
theorem dX6_readInto_15 : decode cX6_readInto 15 = .ok (.iload 5, 2) := by decide +kernel
theorem dX6_readInto_17 : decode cX6_readInto 17 = .ok (.iload_n 3, 1) := by decide +kernel
theorem dX6_readInto_18 : decode cX6_readInto 18 = .ok (.iload 4, 2) := by decide +kernel
theorem dX6_readInto_20 : decode cX6_readInto 20 = .ok (.invokestatic 51, 3) := by decide +kernel
theorem dX6_readInto_23 : decode cX6_readInto 23 = .ok (.ifCond .eq 7, 3) := by decide +kernel
theorem dX6_readInto_26 : decode cX6_readInto 26 = .ok (.iconst 1, 1) := by decide +kernel
theorem dX6_readInto_27 : decode cX6_readInto 27 = .ok (.goto 4, 3) := by decide +kernel
theorem dX6_readInto_30 : decode cX6_readInto 30 = .ok (.iconst 0, 1) := by decide +kernel
theorem dX6_readInto_31 : decode cX6_readInto 31 = .ok (.invokevirtual 90, 3) := by decide +kernel
theorem dX6_readInto_34 : decode cX6_readInto 34 = .ok (.aload_n 0, 1) := by decide +kernel
theorem dX6_readInto_35 : decode cX6_readInto 35 = .ok (.getfield 83, 3) := by decide +kernel
theorem dX6_readInto_38 : decode cX6_readInto 38 = .ok (.ifCond .ne 8, 3) := by decide +kernel
theorem dX6_readInto_41 : decode cX6_readInto 41 = .ok (.aload_n 1, 1) := by decide +kernel
theorem dX6_readInto_42 : decode cX6_readInto 42 = .ok (.iload_n 2, 1) := by decide +kernel
theorem dX6_readInto_43 : decode cX6_readInto 43 = .ok (.iload 5, 2) := by decide +kernel
theorem dX6_readInto_45 : decode cX6_readInto 45 = .ok (.iastore, 1) := by decide +kernel
theorem dX6_readInto_46 : decode cX6_readInto 46 = .ok (.iload 5, 2) := by decide +kernel
theorem dX6_readInto_48 : decode cX6_readInto 48 = .ok (.ireturn, 1) := by decide +kernel
set_option maxRecDepth 20000 in
theorem ggX6_readDish_X6_must : GoodIn wsX6_readDish wsX6_must := goodIn_r _ [9, 2, 10, 11, 12, 8, 13, 14, 15, 4, 16, 17, 18, 19, 20, 21, 22, 23, 24, 25, 26, 31, 32, 33, 34, 35, 36, 37, 38, 39, 40, 41, 42, 43, 44, 45, 46, 47, 48, 49, 50, 51, 52, 53, 54, 55, 56, 57, 58, 59, 60] (by decide +kernel) (by decide +kernel)
set_option maxRecDepth 20000 in
theorem gX6_readDish_X6_must : GoodIn wsX6_readDish (wsV RX6 90 RX6 yX6_must wsX6_must) := goodIn_app (goodIn_of _ (by decide +kernel)) ggX6_readDish_X6_must
set_option maxRecDepth 20000 in
theorem ggX6_readDish_X6_readInto : GoodIn wsX6_readDish wsX6_readInto := goodIn_r _ [30, 17, 4, 2, 24, 25, 8, 26, 5, 6, 7, 9, 10, 11, 12, 13, 14, 15, 16, 18, 19, 20, 21, 22, 23, 31, 32, 33, 34, 35, 36, 37, 38, 39, 40, 41, 42, 43, 44, 45, 46, 47, 48, 49, 50, 51, 52, 53, 54, 55, 56, 57, 58, 59, 60] (by decide +kernel) (by decide +kernel)
set_option maxRecDepth 20000 in
theorem gX6_readDish_X6_readInto : GoodIn wsX6_readDish (wsV RX6 97 RX6 yX6_readInto wsX6_readInto) := goodIn_app (goodIn_of _ (by decide +kernel)) ggX6_readDish_X6_readInto
theorem dX6_readDish_0 : decode cX6_readDish 0 = .ok (.aload_n 0, 1) := by decide +kernel
theorem dX6_readDish_1 : decode cX6_readDish 1 = .ok (.aload_n 0, 1) := by decide +kernel
theorem dX6_readDish_2 : decode cX6_readDish 2 = .ok (.getfield 94, 3) := by decide +kernel
theorem dX6_readDish_5 : decode cX6_readDish 5 = .ok (.iconst 5, 1) := by decide +kernel
theorem dX6_readDish_6 : decode cX6_readDish 6 = .ok (.if_icmp .ge 7, 3) := by decide +kernel
theorem dX6_readDish_9 : decode cX6_readDish 9 = .ok (.iconst 1, 1) := by decide +kernel
theorem dX6_readDish_10 : decode cX6_readDish 10 = .ok (.goto 4, 3) := by decide +kernel
theorem dX6_readDish_13 : decode cX6_readDish 13 = .ok (.iconst 0, 1) := by decide +kernel
theorem dX6_readDish_14 : decode cX6_readDish 14 = .ok (.invokevirtual 90, 3) := by decide +kernel
theorem dX6_readDish_17 : decode cX6_readDish 17 = .ok (.aload_n 0, 1) := by decide +kernel
theorem dX6_readDish_18 : decode cX6_readDish 18 = .ok (.getfield 83, 3) := by decide +kernel
theorem dX6_readDish_21 : decode cX6_readDish 21 = .ok (.ifCond .eq 4, 3) := by decide +kernel
theorem dX6_readDish_24 : decode cX6_readDish 24 = .ok (.return_, 1) := by decide +kernel
theorem dX6_readDish_25 : decode cX6_readDish 25 = .ok (.aload_n 0, 1) := by decide +kernel
theorem dX6_readDish_26 : decode cX6_readDish 26 = .ok (.aload_n 0, 1) := by decide +kernel
theorem dX6_readDish_27 : decode cX6_readDish 27 = .ok (.getfield 32, 3) := by decide +kernel
theorem dX6_readDish_30 : decode cX6_readDish 30 = .ok (.aload_n 0, 1) := by decide +kernel
theorem dX6_readDish_31 : decode cX6_readDish 31 = .ok (.getfield 94, 3) := by decide +kernel
theorem dX6_readDish_34 : decode cX6_readDish 34 = .ok (.iconst 0, 1) := by decide +kernel
theorem dX6_readDish_35 : decode cX6_readDish 35 = .ok (.bipush 7, 2) := by decide +kernel
theorem dX6_readDish_37 : decode cX6_readDish 37 = .ok (.invokevirtual 97, 3) := by decide +kernel
theorem dX6_readDish_40 : decode cX6_readDish 40 = .ok (.pop, 1) := by decide +kernel
theorem dX6_readDish_41 : decode cX6_readDish 41 = .ok (.aload_n 0, 1) := by decide +kernel
theorem dX6_readDish_42 : decode cX6_readDish 42 = .ok (.aload_n 0, 1) := by decide +kernel
theorem dX6_readDish_43 : decode cX6_readDish 43 = .ok (.getfield 73, 3) := by decide +kernel
theorem dX6_readDish_46 : decode cX6_readDish 46 = .ok (.iconst 3, 1) := by decide +kernel
theorem dX6_readDish_47 : decode cX6_readDish 47 = .ok (.if_icmp .ne 7, 3) := by decide +kernel
theorem dX6_readDish_50 : decode cX6_readDish 50 = .ok (.iconst 1, 1) := by decide +kernel
theorem dX6_readDish_51 : decode cX6_readDish 51 = .ok (.goto 4, 3) := by decide +kernel
theorem dX6_readDish_54 : decode cX6_readDish 54 = .ok (.iconst 0, 1) := by decide +kernel
theorem dX6_readDish_55 : decode cX6_readDish 55 = .ok (.invokevirtual 90, 3) := by decide +kernel
theorem dX6_readDish_58 : decode cX6_readDish 58 = .ok (.aload_n 0, 1) := by decide +kernel
theorem dX6_readDish_59 : decode cX6_readDish 59 = .ok (.dup, 1) := by decide +kernel
theorem dX6_readDish_60 : decode cX6_readDish 60 = .ok (.getfield 94, 3) := by decide +kernel
theorem dX6_readDish_63 : decode cX6_readDish 63 = .ok (.iconst 1, 1) := by decide +kernel
theorem dX6_readDish_64 : decode cX6_readDish 64 = .ok (.iadd, 1) := by decide +kernel
theorem dX6_readDish_65 : decode cX6_readDish 65 = .ok (.putfield 94, 3) := by decide +kernel
theorem dX6_readDish_68 : decode cX6_readDish 68 = .ok (.return_, 1) := by decide +kernel
set_option maxRecDepth 20000 in
theorem ggX6_readSpeaker_X6_must : GoodIn wsX6_readSpeaker wsX6_must := goodIn_r _ [9, 2, 10, 11, 12, 8, 13, 14, 15, 4, 16, 17, 18, 19, 20, 21, 22, 23, 24, 25, 26, 31, 32, 33, 34, 35, 36, 37, 38, 39, 40, 41, 42, 43, 44, 45, 46, 47, 48, 49, 50, 51, 52, 53, 54, 55, 56, 57, 58, 59, 60] (by decide +kernel) (by decide +kernel)
set_option maxRecDepth 20000 in
theorem gX6_readSpeaker_X6_must : GoodIn wsX6_readSpeaker (wsV RX6 90 RX6 yX6_must wsX6_must) := goodIn_app (goodIn_of _ (by decide +kernel)) ggX6_readSpeaker_X6_must
set_option maxRecDepth 20000 in
theorem ggX6_readSpeaker_X6_readInto : GoodIn wsX6_readSpeaker wsX6_readInto := goodIn_r _ [30, 17, 4, 2, 24, 25, 8, 26, 5, 6, 7, 9, 10, 11, 12, 13, 14, 15, 16, 18, 19, 20, 21, 22, 23, 31, 32, 33, 34, 35, 36, 37, 38, 39, 40, 41, 42, 43, 44, 45, 46, 47, 48, 49, 50, 51, 52, 53, 54, 55, 56, 57, 58, 59, 60] (by decide +kernel) (by decide +kernel)
set_option maxRecDepth 20000 in
theorem gX6_readSpeaker_X6_readInto : GoodIn wsX6_readSpeaker (wsV RX6 97 RX6 yX6_readInto wsX6_readInto) := goodIn_app (goodIn_of _ (by decide +kernel)) ggX6_readSpeaker_X6_readInto
theorem dX6_readSpeaker_0 : decode cX6_readSpeaker 0 = .ok (.aload_n 0, 1) := by decide +kernel
theorem dX6_readSpeaker_1 : decode cX6_readSpeaker 1 = .ok (.aload_n 0, 1) := by decide +kernel
theorem dX6_readSpeaker_2 : decode cX6_readSpeaker 2 = .ok (.getfield 101, 3) := by decide +kernel
theorem dX6_readSpeaker_5 : decode cX6_readSpeaker 5 = .ok (.iconst 5, 1) := by decide +kernel
theorem dX6_readSpeaker_6 : decode cX6_readSpeaker 6 = .ok (.if_icmp .ge 7, 3) := by decide +kernel
theorem dX6_readSpeaker_9 : decode cX6_readSpeaker 9 = .ok (.iconst 1, 1) := by decide +kernel
theorem dX6_readSpeaker_10 : decode cX6_readSpeaker 10 = .ok (.goto 4, 3) := by decide +kernel
theorem dX6_readSpeaker_13 : decode cX6_readSpeaker 13 = .ok (.iconst 0, 1) := by decide +kernel
theorem dX6_readSpeaker_14 : decode cX6_readSpeaker 14 = .ok (.invokevirtual 90, 3) := by decide +kernel
theorem dX6_readSpeaker_17 : decode cX6_readSpeaker 17 = .ok (.aload_n 0, 1) := by decide +kernel
theorem dX6_readSpeaker_18 : decode cX6_readSpeaker 18 = .ok (.getfield 83, 3) := by decide +kernel
theorem dX6_readSpeaker_21 : decode cX6_readSpeaker 21 = .ok (.ifCond .eq 4, 3) := by decide +kernel
theorem dX6_readSpeaker_24 : decode cX6_readSpeaker 24 = .ok (.return_, 1) := by decide +kernel
theorem dX6_readSpeaker_25 : decode cX6_readSpeaker 25 = .ok (.iconst 4, 1) := by decide +kernel
theorem dX6_readSpeaker_26 : decode cX6_readSpeaker 26 = .ok (.aload_n 0, 1) := by decide +kernel
theorem dX6_readSpeaker_27 : decode cX6_readSpeaker 27 = .ok (.getfield 101, 3) := by decide +kernel
theorem dX6_readSpeaker_30 : decode cX6_readSpeaker 30 = .ok (.imul, 1) := by decide +kernel
theorem dX6_readSpeaker_31 : decode cX6_readSpeaker 31 = .ok (.istore_n 1, 1) := by decide +kernel
theorem dX6_readSpeaker_32 : decode cX6_readSpeaker 32 = .ok (.aload_n 0, 1) := by decide +kernel
theorem dX6_readSpeaker_33 : decode cX6_readSpeaker 33 = .ok (.aload_n 0, 1) := by decide +kernel
theorem dX6_readSpeaker_34 : decode cX6_readSpeaker 34 = .ok (.getfield 35, 3) := by decide +kernel
theorem dX6_readSpeaker_37 : decode cX6_readSpeaker 37 = .ok (.iload_n 1, 1) := by decide +kernel
theorem dX6_readSpeaker_38 : decode cX6_readSpeaker 38 = .ok (.iconst 0, 1) := by decide +kernel
theorem dX6_readSpeaker_39 : decode cX6_readSpeaker 39 = .ok (.bipush 7, 2) := by decide +kernel
theorem dX6_readSpeaker_41 : decode cX6_readSpeaker 41 = .ok (.invokevirtual 97, 3) := by decide +kernel
theorem dX6_readSpeaker_44 : decode cX6_readSpeaker 44 = .ok (.pop, 1) := by decide +kernel
theorem dX6_readSpeaker_45 : decode cX6_readSpeaker 45 = .ok (.aload_n 0, 1) := by decide +kernel
theorem dX6_readSpeaker_46 : decode cX6_readSpeaker 46 = .ok (.aload_n 0, 1) := by decide +kernel
theorem dX6_readSpeaker_47 : decode cX6_readSpeaker 47 = .ok (.getfield 35, 3) := by decide +kernel
theorem dX6_readSpeaker_50 : decode cX6_readSpeaker 50 = .ok (.iload_n 1, 1) := by decide +kernel
theorem dX6_readSpeaker_51 : decode cX6_readSpeaker 51 = .ok (.iconst 1, 1) := by decide +kernel
theorem dX6_readSpeaker_52 : decode cX6_readSpeaker 52 = .ok (.iadd, 1) := by decide +kernel
theorem dX6_readSpeaker_53 : decode cX6_readSpeaker 53 = .ok (.iconst 0, 1) := by decide +kernel
theorem dX6_readSpeaker_54 : decode cX6_readSpeaker 54 = .ok (.bipush 9, 2) := by decide +kernel
theorem dX6_readSpeaker_56 : decode cX6_readSpeaker 56 = .ok (.invokevirtual 97, 3) := by decide +kernel
theorem dX6_readSpeaker_59 : decode cX6_readSpeaker 59 = .ok (.pop, 1) := by decide +kernel
theorem dX6_readSpeaker_60 : decode cX6_readSpeaker 60 = .ok (.aload_n 0, 1) := by decide +kernel
theorem dX6_readSpeaker_61 : decode cX6_readSpeaker 61 = .ok (.aload_n 0, 1) := by decide +kernel
theorem dX6_readSpeaker_62 : decode cX6_readSpeaker 62 = .ok (.getfield 35, 3) := by decide +kernel
theorem dX6_readSpeaker_65 : decode cX6_readSpeaker 65 = .ok (.iload_n 1, 1) := by decide +kernel
theorem dX6_readSpeaker_66 : decode cX6_readSpeaker 66 = .ok (.iconst 2, 1) := by decide +kernel
theorem dX6_readSpeaker_67 : decode cX6_readSpeaker 67 = .ok (.iadd, 1) := by decide +kernel
theorem dX6_readSpeaker_68 : decode cX6_readSpeaker 68 = .ok (.iconst 0, 1) := by decide +kernel
theorem dX6_readSpeaker_69 : decode cX6_readSpeaker 69 = .ok (.bipush 23, 2) := by decide +kernel
theorem dX6_readSpeaker_71 : decode cX6_readSpeaker 71 = .ok (.invokevirtual 97, 3) := by decide +kernel
theorem dX6_readSpeaker_74 : decode cX6_readSpeaker 74 = .ok (.istore_n 2, 1) := by decide +kernel
theorem dX6_readSpeaker_75 : decode cX6_readSpeaker 75 = .ok (.aload_n 0, 1) := by decide +kernel
theorem dX6_readSpeaker_76 : decode cX6_readSpeaker 76 = .ok (.aload_n 0, 1) := by decide +kernel
theorem dX6_readSpeaker_77 : decode cX6_readSpeaker 77 = .ok (.getfield 35, 3) := by decide +kernel
theorem dX6_readSpeaker_80 : decode cX6_readSpeaker 80 = .ok (.iload_n 1, 1) := by decide +kernel
theorem dX6_readSpeaker_81 : decode cX6_readSpeaker 81 = .ok (.iconst 3, 1) := by decide +kernel
theorem dX6_readSpeaker_82 : decode cX6_readSpeaker 82 = .ok (.iadd, 1) := by decide +kernel
theorem dX6_readSpeaker_83 : decode cX6_readSpeaker 83 = .ok (.iload_n 2, 1) := by decide +kernel
theorem dX6_readSpeaker_84 : decode cX6_readSpeaker 84 = .ok (.bipush 23, 2) := by decide +kernel
theorem dX6_readSpeaker_86 : decode cX6_readSpeaker 86 = .ok (.invokevirtual 97, 3) := by decide +kernel
theorem dX6_readSpeaker_89 : decode cX6_readSpeaker 89 = .ok (.pop, 1) := by decide +kernel
theorem dX6_readSpeaker_90 : decode cX6_readSpeaker 90 = .ok (.aload_n 0, 1) := by decide +kernel
theorem dX6_readSpeaker_91 : decode cX6_readSpeaker 91 = .ok (.aload_n 0, 1) := by decide +kernel
theorem dX6_readSpeaker_92 : decode cX6_readSpeaker 92 = .ok (.getfield 73, 3) := by decide +kernel
theorem dX6_readSpeaker_95 : decode cX6_readSpeaker 95 = .ok (.iconst 3, 1) := by decide +kernel
theorem dX6_readSpeaker_96 : decode cX6_readSpeaker 96 = .ok (.if_icmp .ne 7, 3) := by decide +kernel
theorem dX6_readSpeaker_99 : decode cX6_readSpeaker 99 = .ok (.iconst 1, 1) := by decide +kernel
theorem dX6_readSpeaker_100 : decode cX6_readSpeaker 100 = .ok (.goto 4, 3) := by decide +kernel
theorem dX6_readSpeaker_103 : decode cX6_readSpeaker 103 = .ok (.iconst 0, 1) := by decide +kernel
theorem dX6_readSpeaker_104 : decode cX6_readSpeaker 104 = .ok (.invokevirtual 90, 3) := by decide +kernel
theorem dX6_readSpeaker_107 : decode cX6_readSpeaker 107 = .ok (.aload_n 0, 1) := by decide +kernel
theorem dX6_readSpeaker_108 : decode cX6_readSpeaker 108 = .ok (.dup, 1) := by decide +kernel
theorem dX6_readSpeaker_109 : decode cX6_readSpeaker 109 = .ok (.getfield 101, 3) := by decide +kernel
theorem dX6_readSpeaker_112 : decode cX6_readSpeaker 112 = .ok (.iconst 1, 1) := by decide +kernel
theorem dX6_readSpeaker_113 : decode cX6_readSpeaker 113 = .ok (.iadd, 1) := by decide +kernel
theorem dX6_readSpeaker_114 : decode cX6_readSpeaker 114 = .ok (.putfield 101, 3) := by decide +kernel
theorem dX6_readSpeaker_117 : decode cX6_readSpeaker 117 = .ok (.return_, 1) := by decide +kernel
set_option maxRecDepth 20000 in
theorem ggX6_readNoise_X6_must : GoodIn wsX6_readNoise wsX6_must := goodIn_r _ [9, 2, 10, 11, 12, 8, 13, 14, 15, 4, 16, 17, 18, 19, 20, 21, 22, 23, 24, 25, 26, 31, 32, 33, 34, 35, 36, 37, 38, 39, 40, 41, 42, 43, 44, 45, 46, 47, 48, 49, 50, 51, 52, 53, 54, 55, 56, 57, 58, 59, 60] (by decide +kernel) (by decide +kernel)
set_option maxRecDepth 20000 in
theorem gX6_readNoise_X6_must : GoodIn wsX6_readNoise (wsV RX6 90 RX6 yX6_must wsX6_must) := goodIn_app (goodIn_of _ (by decide +kernel)) ggX6_readNoise_X6_must
set_option maxRecDepth 20000 in
theorem ggX6_readNoise_X6_readInto : GoodIn wsX6_readNoise wsX6_readInto := goodIn_r _ [30, 17, 4, 2, 24, 25, 8, 26, 5, 6, 7, 9, 10, 11, 12, 13, 14, 15, 16, 18, 19, 20, 21, 22, 23, 31, 32, 33, 34, 35, 36, 37, 38, 39, 40, 41, 42, 43, 44, 45, 46, 47, 48, 49, 50, 51, 52, 53, 54, 55, 56, 57, 58, 59, 60] (by decide +kernel) (by decide +kernel)
set_option maxRecDepth 20000 in
theorem gX6_readNoise_X6_readInto : GoodIn wsX6_readNoise (wsV RX6 97 RX6 yX6_readInto wsX6_readInto) := goodIn_app (goodIn_of _ (by decide +kernel)) ggX6_readNoise_X6_readInto
theorem dX6_readNoise_0 : decode cX6_readNoise 0 = .ok (.aload_n 0, 1) := by decide +kernel
theorem dX6_readNoise_1 : decode cX6_readNoise 1 = .ok (.aload_n 0, 1) := by decide +kernel
theorem dX6_readNoise_2 : decode cX6_readNoise 2 = .ok (.getfield 104, 3) := by decide +kernel
theorem dX6_readNoise_5 : decode cX6_readNoise 5 = .ok (.iconst 3, 1) := by decide +kernel
theorem dX6_readNoise_6 : decode cX6_readNoise 6 = .ok (.if_icmp .ge 7, 3) := by decide +kernel
theorem dX6_readNoise_9 : decode cX6_readNoise 9 = .ok (.iconst 1, 1) := by decide +kernel
theorem dX6_readNoise_10 : decode cX6_readNoise 10 = .ok (.goto 4, 3) := by decide +kernel
theorem dX6_readNoise_13 : decode cX6_readNoise 13 = .ok (.iconst 0, 1) := by decide +kernel
theorem dX6_readNoise_14 : decode cX6_readNoise 14 = .ok (.invokevirtual 90, 3) := by decide +kernel
theorem dX6_readNoise_17 : decode cX6_readNoise 17 = .ok (.aload_n 0, 1) := by decide +kernel
theorem dX6_readNoise_18 : decode cX6_readNoise 18 = .ok (.getfield 83, 3) := by decide +kernel
theorem dX6_readNoise_21 : decode cX6_readNoise 21 = .ok (.ifCond .eq 4, 3) := by decide +kernel
theorem dX6_readNoise_24 : decode cX6_readNoise 24 = .ok (.return_, 1) := by decide +kernel
theorem dX6_readNoise_25 : decode cX6_readNoise 25 = .ok (.iconst 3, 1) := by decide +kernel
theorem dX6_readNoise_26 : decode cX6_readNoise 26 = .ok (.aload_n 0, 1) := by decide +kernel
theorem dX6_readNoise_27 : decode cX6_readNoise 27 = .ok (.getfield 104, 3) := by decide +kernel
theorem dX6_readNoise_30 : decode cX6_readNoise 30 = .ok (.imul, 1) := by decide +kernel
theorem dX6_readNoise_31 : decode cX6_readNoise 31 = .ok (.istore_n 1, 1) := by decide +kernel
theorem dX6_readNoise_32 : decode cX6_readNoise 32 = .ok (.aload_n 0, 1) := by decide +kernel
theorem dX6_readNoise_33 : decode cX6_readNoise 33 = .ok (.aload_n 0, 1) := by decide +kernel
theorem dX6_readNoise_34 : decode cX6_readNoise 34 = .ok (.getfield 38, 3) := by decide +kernel
theorem dX6_readNoise_37 : decode cX6_readNoise 37 = .ok (.iload_n 1, 1) := by decide +kernel
theorem dX6_readNoise_38 : decode cX6_readNoise 38 = .ok (.iconst 0, 1) := by decide +kernel
theorem dX6_readNoise_39 : decode cX6_readNoise 39 = .ok (.bipush 9, 2) := by decide +kernel
theorem dX6_readNoise_41 : decode cX6_readNoise 41 = .ok (.invokevirtual 97, 3) := by decide +kernel
theorem dX6_readNoise_44 : decode cX6_readNoise 44 = .ok (.pop, 1) := by decide +kernel
theorem dX6_readNoise_45 : decode cX6_readNoise 45 = .ok (.aload_n 0, 1) := by decide +kernel
theorem dX6_readNoise_46 : decode cX6_readNoise 46 = .ok (.aload_n 0, 1) := by decide +kernel
theorem dX6_readNoise_47 : decode cX6_readNoise 47 = .ok (.getfield 38, 3) := by decide +kernel
theorem dX6_readNoise_50 : decode cX6_readNoise 50 = .ok (.iload_n 1, 1) := by decide +kernel
theorem dX6_readNoise_51 : decode cX6_readNoise 51 = .ok (.iconst 1, 1) := by decide +kernel
theorem dX6_readNoise_52 : decode cX6_readNoise 52 = .ok (.iadd, 1) := by decide +kernel
theorem dX6_readNoise_53 : decode cX6_readNoise 53 = .ok (.iconst 1, 1) := by decide +kernel
theorem dX6_readNoise_54 : decode cX6_readNoise 54 = .ok (.bipush 12, 2) := by decide +kernel
theorem dX6_readNoise_56 : decode cX6_readNoise 56 = .ok (.invokevirtual 97, 3) := by decide +kernel
theorem dX6_readNoise_59 : decode cX6_readNoise 59 = .ok (.istore_n 2, 1) := by decide +kernel
theorem dX6_readNoise_60 : decode cX6_readNoise 60 = .ok (.aload_n 0, 1) := by decide +kernel
theorem dX6_readNoise_61 : decode cX6_readNoise 61 = .ok (.aload_n 0, 1) := by decide +kernel
theorem dX6_readNoise_62 : decode cX6_readNoise 62 = .ok (.getfield 38, 3) := by decide +kernel
theorem dX6_readNoise_65 : decode cX6_readNoise 65 = .ok (.iload_n 1, 1) := by decide +kernel
theorem dX6_readNoise_66 : decode cX6_readNoise 66 = .ok (.iconst 2, 1) := by decide +kernel
theorem dX6_readNoise_67 : decode cX6_readNoise 67 = .ok (.iadd, 1) := by decide +kernel
theorem dX6_readNoise_68 : decode cX6_readNoise 68 = .ok (.iconst 0, 1) := by decide +kernel
theorem dX6_readNoise_69 : decode cX6_readNoise 69 = .ok (.iload_n 2, 1) := by decide +kernel
theorem dX6_readNoise_70 : decode cX6_readNoise 70 = .ok (.iconst 1, 1) := by decide +kernel
theorem dX6_readNoise_71 : decode cX6_readNoise 71 = .ok (.isub, 1) := by decide +kernel
theorem dX6_readNoise_72 : decode cX6_readNoise 72 = .ok (.invokevirtual 97, 3) := by decide +kernel
theorem dX6_readNoise_75 : decode cX6_readNoise 75 = .ok (.pop, 1) := by decide +kernel
theorem dX6_readNoise_76 : decode cX6_readNoise 76 = .ok (.aload_n 0, 1) := by decide +kernel
theorem dX6_readNoise_77 : decode cX6_readNoise 77 = .ok (.aload_n 0, 1) := by decide +kernel
theorem dX6_readNoise_78 : decode cX6_readNoise 78 = .ok (.getfield 73, 3) := by decide +kernel
theorem dX6_readNoise_81 : decode cX6_readNoise 81 = .ok (.iconst 3, 1) := by decide +kernel
theorem dX6_readNoise_82 : decode cX6_readNoise 82 = .ok (.if_icmp .ne 7, 3) := by decide +kernel
theorem dX6_readNoise_85 : decode cX6_readNoise 85 = .ok (.iconst 1, 1) := by decide +kernel
theorem dX6_readNoise_86 : decode cX6_readNoise 86 = .ok (.goto 4, 3) := by decide +kernel
theorem dX6_readNoise_89 : decode cX6_readNoise 89 = .ok (.iconst 0, 1) := by decide +kernel
theorem dX6_readNoise_90 : decode cX6_readNoise 90 = .ok (.invokevirtual 90, 3) := by decide +kernel
theorem dX6_readNoise_93 : decode cX6_readNoise 93 = .ok (.aload_n 0, 1) := by decide +kernel
theorem dX6_readNoise_94 : decode cX6_readNoise 94 = .ok (.dup, 1) := by decide +kernel
theorem dX6_readNoise_95 : decode cX6_readNoise 95 = .ok (.getfield 104, 3) := by decide +kernel
theorem dX6_readNoise_98 : decode cX6_readNoise 98 = .ok (.iconst 1, 1) := by decide +kernel
theorem dX6_readNoise_99 : decode cX6_readNoise 99 = .ok (.iadd, 1) := by decide +kernel
theorem dX6_readNoise_100 : decode cX6_readNoise 100 = .ok (.putfield 104, 3) := by decide +kernel
theorem dX6_readNoise_103 : decode cX6_readNoise 103 = .ok (.return_, 1) := by decide +kernel
set_option maxRecDepth 20000 in
theorem ggX6_readAsker_X6_must : GoodIn wsX6_readAsker wsX6_must := goodIn_r _ [9, 2, 10, 11, 12, 8, 13, 14, 15, 4, 16, 17, 18, 19, 20, 21, 22, 23, 24, 25, 26, 31, 32, 33, 34, 35, 36, 37, 38, 39, 40, 41, 42, 43, 44, 45, 46, 47, 48, 49, 50, 51, 52, 53, 54, 55, 56, 57, 58, 59, 60] (by decide +kernel) (by decide +kernel)
set_option maxRecDepth 20000 in
theorem gX6_readAsker_X6_must : GoodIn wsX6_readAsker (wsV RX6 90 RX6 yX6_must wsX6_must) := goodIn_app (goodIn_of _ (by decide +kernel)) ggX6_readAsker_X6_must
set_option maxRecDepth 20000 in
theorem ggX6_readAsker_X6_readInto : GoodIn wsX6_readAsker wsX6_readInto := goodIn_r _ [30, 17, 4, 2, 24, 25, 8, 26, 5, 6, 7, 9, 10, 11, 12, 13, 14, 15, 16, 18, 19, 20, 21, 22, 23, 31, 32, 33, 34, 35, 36, 37, 38, 39, 40, 41, 42, 43, 44, 45, 46, 47, 48, 49, 50, 51, 52, 53, 54, 55, 56, 57, 58, 59, 60] (by decide +kernel) (by decide +kernel)
set_option maxRecDepth 20000 in
theorem gX6_readAsker_X6_readInto : GoodIn wsX6_readAsker (wsV RX6 97 RX6 yX6_readInto wsX6_readInto) := goodIn_app (goodIn_of _ (by decide +kernel)) ggX6_readAsker_X6_readInto
theorem dX6_readAsker_0 : decode cX6_readAsker 0 = .ok (.aload_n 0, 1) := by decide +kernel
theorem dX6_readAsker_1 : decode cX6_readAsker 1 = .ok (.aload_n 0, 1) := by decide +kernel
theorem dX6_readAsker_2 : decode cX6_readAsker 2 = .ok (.getfield 107, 3) := by decide +kernel
theorem dX6_readAsker_5 : decode cX6_readAsker 5 = .ok (.iconst 5, 1) := by decide +kernel
theorem dX6_readAsker_6 : decode cX6_readAsker 6 = .ok (.if_icmp .ge 7, 3) := by decide +kernel
theorem dX6_readAsker_9 : decode cX6_readAsker 9 = .ok (.iconst 1, 1) := by decide +kernel
theorem dX6_readAsker_10 : decode cX6_readAsker 10 = .ok (.goto 4, 3) := by decide +kernel
theorem dX6_readAsker_13 : decode cX6_readAsker 13 = .ok (.iconst 0, 1) := by decide +kernel
theorem dX6_readAsker_14 : decode cX6_readAsker 14 = .ok (.invokevirtual 90, 3) := by decide +kernel
theorem dX6_readAsker_17 : decode cX6_readAsker 17 = .ok (.aload_n 0, 1) := by decide +kernel
theorem dX6_readAsker_18 : decode cX6_readAsker 18 = .ok (.getfield 83, 3) := by decide +kernel
theorem dX6_readAsker_21 : decode cX6_readAsker 21 = .ok (.ifCond .eq 4, 3) := by decide +kernel
theorem dX6_readAsker_24 : decode cX6_readAsker 24 = .ok (.return_, 1) := by decide +kernel
theorem dX6_readAsker_25 : decode cX6_readAsker 25 = .ok (.aload_n 0, 1) := by decide +kernel
theorem dX6_readAsker_26 : decode cX6_readAsker 26 = .ok (.aload_n 0, 1) := by decide +kernel
theorem dX6_readAsker_27 : decode cX6_readAsker 27 = .ok (.getfield 41, 3) := by decide +kernel
theorem dX6_readAsker_30 : decode cX6_readAsker 30 = .ok (.iconst 2, 1) := by decide +kernel
theorem dX6_readAsker_31 : decode cX6_readAsker 31 = .ok (.aload_n 0, 1) := by decide +kernel
theorem dX6_readAsker_32 : decode cX6_readAsker 32 = .ok (.getfield 107, 3) := by decide +kernel
theorem dX6_readAsker_35 : decode cX6_readAsker 35 = .ok (.imul, 1) := by decide +kernel
theorem dX6_readAsker_36 : decode cX6_readAsker 36 = .ok (.iconst 0, 1) := by decide +kernel
theorem dX6_readAsker_37 : decode cX6_readAsker 37 = .ok (.bipush 7, 2) := by decide +kernel
theorem dX6_readAsker_39 : decode cX6_readAsker 39 = .ok (.invokevirtual 97, 3) := by decide +kernel
theorem dX6_readAsker_42 : decode cX6_readAsker 42 = .ok (.pop, 1) := by decide +kernel
theorem dX6_readAsker_43 : decode cX6_readAsker 43 = .ok (.aload_n 0, 1) := by decide +kernel
theorem dX6_readAsker_44 : decode cX6_readAsker 44 = .ok (.aload_n 0, 1) := by decide +kernel
theorem dX6_readAsker_45 : decode cX6_readAsker 45 = .ok (.getfield 41, 3) := by decide +kernel
theorem dX6_readAsker_48 : decode cX6_readAsker 48 = .ok (.iconst 2, 1) := by decide +kernel
theorem dX6_readAsker_49 : decode cX6_readAsker 49 = .ok (.aload_n 0, 1) := by decide +kernel
theorem dX6_readAsker_50 : decode cX6_readAsker 50 = .ok (.getfield 107, 3) := by decide +kernel
theorem dX6_readAsker_53 : decode cX6_readAsker 53 = .ok (.imul, 1) := by decide +kernel
theorem dX6_readAsker_54 : decode cX6_readAsker 54 = .ok (.iconst 1, 1) := by decide +kernel
theorem dX6_readAsker_55 : decode cX6_readAsker 55 = .ok (.iadd, 1) := by decide +kernel
theorem dX6_readAsker_56 : decode cX6_readAsker 56 = .ok (.iconst 1, 1) := by decide +kernel
theorem dX6_readAsker_57 : decode cX6_readAsker 57 = .ok (.bipush 9, 2) := by decide +kernel
theorem dX6_readAsker_59 : decode cX6_readAsker 59 = .ok (.invokevirtual 97, 3) := by decide +kernel
theorem dX6_readAsker_62 : decode cX6_readAsker 62 = .ok (.pop, 1) := by decide +kernel
theorem dX6_readAsker_63 : decode cX6_readAsker 63 = .ok (.aload_n 0, 1) := by decide +kernel
theorem dX6_readAsker_64 : decode cX6_readAsker 64 = .ok (.aload_n 0, 1) := by decide +kernel
theorem dX6_readAsker_65 : decode cX6_readAsker 65 = .ok (.getfield 73, 3) := by decide +kernel
theorem dX6_readAsker_68 : decode cX6_readAsker 68 = .ok (.iconst 3, 1) := by decide +kernel
theorem dX6_readAsker_69 : decode cX6_readAsker 69 = .ok (.if_icmp .ne 7, 3) := by decide +kernel
theorem dX6_readAsker_72 : decode cX6_readAsker 72 = .ok (.iconst 1, 1) := by decide +kernel
theorem dX6_readAsker_73 : decode cX6_readAsker 73 = .ok (.goto 4, 3) := by decide +kernel
theorem dX6_readAsker_76 : decode cX6_readAsker 76 = .ok (.iconst 0, 1) := by decide +kernel
theorem dX6_readAsker_77 : decode cX6_readAsker 77 = .ok (.invokevirtual 90, 3) := by decide +kernel
theorem dX6_readAsker_80 : decode cX6_readAsker 80 = .ok (.aload_n 0, 1) := by decide +kernel
theorem dX6_readAsker_81 : decode cX6_readAsker 81 = .ok (.dup, 1) := by decide +kernel
theorem dX6_readAsker_82 : decode cX6_readAsker 82 = .ok (.getfield 107, 3) := by decide +kernel
theorem dX6_readAsker_85 : decode cX6_readAsker 85 = .ok (.iconst 1, 1) := by decide +kernel
theorem dX6_readAsker_86 : decode cX6_readAsker 86 = .ok (.iadd, 1) := by decide +kernel
theorem dX6_readAsker_87 : decode cX6_readAsker 87 = .ok (.putfield 107, 3) := by decide +kernel
theorem dX6_readAsker_90 : decode cX6_readAsker 90 = .ok (.return_, 1) := by decide +kernel
set_option maxRecDepth 20000 in
theorem ggX6_readItem_X6_readDish : GoodIn wsX6_readItem wsX6_readDish := goodIn_r _ [12, 13, 7, 14, 1, 15, 16, 17, 11, 18, 19, 20, 21, 22, 23, 24, 2, 25, 26, 27, 28, 29, 30, 31, 32, 33, 34, 35, 36, 37, 38, 57, 58, 59, 60, 61, 62, 63, 64, 65, 66, 67, 68, 69, 70, 71, 72, 73, 74, 75, 76, 77, 78, 79, 80, 81, 82, 83, 84, 85, 86] (by decide +kernel) (by decide +kernel)
set_option maxRecDepth 20000 in
theorem gX6_readItem_X6_readDish : GoodIn wsX6_readItem (wsV RX6 112 RX6 yX6_readDish wsX6_readDish) := goodIn_app (goodIn_of _ (by decide +kernel)) ggX6_readItem_X6_readDish
set_option maxRecDepth 20000 in
theorem ggX6_readItem_X6_readSpeaker : GoodIn wsX6_readItem wsX6_readSpeaker := goodIn_r _ [42, 43, 7, 44, 1, 15, 16, 17, 11, 18, 19, 20, 21, 22, 23, 24, 2, 25, 26, 27, 28, 29, 30, 31, 32, 33, 34, 35, 36, 37, 38, 57, 58, 59, 60, 61, 62, 63, 64, 65, 66, 67, 68, 69, 70, 71, 72, 73, 74, 75, 76, 77, 78, 79, 80, 81, 82, 83, 84, 85, 86] (by decide +kernel) (by decide +kernel)
set_option maxRecDepth 20000 in
theorem gX6_readItem_X6_readSpeaker : GoodIn wsX6_readItem (wsV RX6 117 RX6 yX6_readSpeaker wsX6_readSpeaker) := goodIn_app (goodIn_of _ (by decide +kernel)) ggX6_readItem_X6_readSpeaker
set_option maxRecDepth 20000 in
theorem ggX6_readItem_X6_readNoise : GoodIn wsX6_readItem wsX6_readNoise := goodIn_r _ [48, 49, 7, 50, 1, 15, 16, 17, 11, 18, 19, 20, 21, 22, 23, 24, 2, 25, 26, 27, 28, 29, 30, 31, 32, 33, 34, 35, 36, 37, 38, 57, 58, 59, 60, 61, 62, 63, 64, 65, 66, 67, 68, 69, 70, 71, 72, 73, 74, 75, 76, 77, 78, 79, 80, 81, 82, 83, 84, 85, 86] (by decide +kernel) (by decide +kernel)
set_option maxRecDepth 20000 in
theorem gX6_readItem_X6_readNoise : GoodIn wsX6_readItem (wsV RX6 122 RX6 yX6_readNoise wsX6_readNoise) := goodIn_app (goodIn_of _ (by decide +kernel)) ggX6_readItem_X6_readNoise
set_option maxRecDepth 20000 in
theorem ggX6_readItem_X6_readAsker : GoodIn wsX6_readItem wsX6_readAsker := goodIn_r _ [54, 55, 7, 56, 1, 15, 16, 17, 11, 18, 19, 20, 21, 22, 23, 24, 2, 25, 26, 27, 28, 29, 30, 31, 32, 33, 34, 35, 36, 37, 38, 57, 58, 59, 60, 61, 62, 63, 64, 65, 66, 67, 68, 69, 70, 71, 72, 73, 74, 75, 76, 77, 78, 79, 80, 81, 82, 83, 84, 85, 86] (by decide +kernel) (by decide +kernel)
set_option maxRecDepth 20000 in
theorem gX6_readItem_X6_readAsker : GoodIn wsX6_readItem (wsV RX6 127 RX6 yX6_readAsker wsX6_readAsker) := goodIn_app (goodIn_of _ (by decide +kernel)) ggX6_readItem_X6_readAsker
theorem dX6_readItem_0 : decode cX6_readItem 0 = .ok (.aload_n 0, 1) := by decide +kernel
theorem dX6_readItem_1 : decode cX6_readItem 1 = .ok (.getfield 73, 3) := by decide +kernel
theorem dX6_readItem_4 : decode cX6_readItem 4 = .ok (.iconst 1, 1) := by decide +kernel
theorem dX6_readItem_5 : decode cX6_readItem 5 = .ok (.if_icmp .ne 10, 3) := by decide +kernel
theorem dX6_readItem_8 : decode cX6_readItem 8 = .ok (.aload_n 0, 1) := by decide +kernel
theorem dX6_readItem_9 : decode cX6_readItem 9 = .ok (.getfield 76, 3) := by decide +kernel
theorem dX6_readItem_12 : decode cX6_readItem 12 = .ok (.goto 4, 3) := by decide +kernel

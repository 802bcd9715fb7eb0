theorem dX6_apart_181 : decode cX6_apart 181 = .ok (.ireturn, 1) := by decide +kernel
set_option maxRecDepth 20000 in
theorem ggX6_heard_X6_isHour : GoodIn wsX6_heard wsX6_isHour := goodIn_r _ [5, 6, 7, 4, 8] (by decide +kernel) (by decide +kernel)
set_option maxRecDepth 20000 in
theorem gX6_heard_X6_isHour : GoodIn wsX6_heard (va_wsS RX6 143 yX6_isHour wsX6_isHour) := goodIn_app (goodIn_of _ (by decide +kernel)) ggX6_heard_X6_isHour
set_option maxRecDepth 20000 in
theorem ggX6_heard_X6_isDish : GoodIn wsX6_heard wsX6_isDish := goodIn_r _ [12, 13, 6, 7, 4, 8, 17, 18, 19, 20, 21, 22, 23, 24, 25, 26, 27, 28, 29, 30, 31, 32, 33, 34, 35, 36, 37, 38, 39, 40, 41, 42, 43, 44, 45, 46] (by decide +kernel) (by decide +kernel)
set_option maxRecDepth 20000 in
theorem gX6_heard_X6_isDish : GoodIn wsX6_heard (wsV RX6 139 RX6 yX6_isDish wsX6_isDish) := goodIn_app (goodIn_of _ (by decide +kernel)) ggX6_heard_X6_isDish
set_option maxRecDepth 20000 in
theorem ggX6_heard_X6_isNote : GoodIn wsX6_heard wsX6_isNote := goodIn_r _ [16, 6, 7, 4, 8] (by decide +kernel) (by decide +kernel)
set_option maxRecDepth 20000 in
theorem gX6_heard_X6_isNote : GoodIn wsX6_heard (va_wsS RX6 183 yX6_isNote wsX6_isNote) := goodIn_app (goodIn_of _ (by decide +kernel)) ggX6_heard_X6_isNote
set_option maxRecDepth 20000 in
theorem ggX6_heard_X6_in : GoodIn wsX6_heard wsX6_in := goodIn_r _ [8] (by decide +kernel) (by decide +kernel)
set_option maxRecDepth 20000 in
theorem gX6_heard_X6_in : GoodIn wsX6_heard (va_wsS RX6 51 yX6_in wsX6_in) := goodIn_app (goodIn_of _ (by decide +kernel)) ggX6_heard_X6_in
theorem dX6_heard_0 : decode cX6_heard 0 = .ok (.iload_n 1, 1) := by decide +kernel
theorem dX6_heard_1 : decode cX6_heard 1 = .ok (.invokestatic 143, 3) := by decide +kernel
theorem dX6_heard_4 : decode cX6_heard 4 = .ok (.ifCond .eq 28, 3) := by decide +kernel
theorem dX6_heard_7 : decode cX6_heard 7 = .ok (.aload_n 0, 1) := by decide +kernel
theorem dX6_heard_8 : decode cX6_heard 8 = .ok (.iload_n 2, 1) := by decide +kernel
theorem dX6_heard_9 : decode cX6_heard 9 = .ok (.invokevirtual 139, 3) := by decide +kernel
theorem dX6_heard_12 : decode cX6_heard 12 = .ok (.ifCond .eq 20, 3) := by decide +kernel
theorem dX6_heard_15 : decode cX6_heard 15 = .ok (.iload_n 3, 1) := by decide +kernel
theorem dX6_heard_16 : decode cX6_heard 16 = .ok (.invokestatic 183, 3) := by decide +kernel
theorem dX6_heard_19 : decode cX6_heard 19 = .ok (.ifCond .eq 13, 3) := by decide +kernel
theorem dX6_heard_22 : decode cX6_heard 22 = .ok (.iload 4, 2) := by decide +kernel
theorem dX6_heard_24 : decode cX6_heard 24 = .ok (.iconst 0, 1) := by decide +kernel
theorem dX6_heard_25 : decode cX6_heard 25 = .ok (.iconst 1, 1) := by decide +kernel
theorem dX6_heard_26 : decode cX6_heard 26 = .ok (.invokestatic 51, 3) := by decide +kernel
theorem dX6_heard_29 : decode cX6_heard 29 = .ok (.ifCond .ne 5, 3) := by decide +kernel
theorem dX6_heard_32 : decode cX6_heard 32 = .ok (.iconst (-1), 1) := by decide +kernel
theorem dX6_heard_33 : decode cX6_heard 33 = .ok (.ireturn, 1) := by decide +kernel
theorem dX6_heard_34 : decode cX6_heard 34 = .ok (.aload_n 0, 1) := by decide +kernel
theorem dX6_heard_35 : decode cX6_heard 35 = .ok (.getfield 19, 3) := by decide +kernel
theorem dX6_heard_38 : decode cX6_heard 38 = .ok (.iconst 1, 1) := by decide +kernel
theorem dX6_heard_39 : decode cX6_heard 39 = .ok (.iaload, 1) := by decide +kernel
theorem dX6_heard_40 : decode cX6_heard 40 = .ok (.bipush 10, 2) := by decide +kernel
theorem dX6_heard_42 : decode cX6_heard 42 = .ok (.if_icmp .ne 6, 3) := by decide +kernel
theorem dX6_heard_45 : decode cX6_heard 45 = .ok (.bipush (-3), 2) := by decide +kernel
theorem dX6_heard_47 : decode cX6_heard 47 = .ok (.ireturn, 1) := by decide +kernel
theorem dX6_heard_48 : decode cX6_heard 48 = .ok (.bipush 44, 2) := by decide +kernel
theorem dX6_heard_50 : decode cX6_heard 50 = .ok (.iconst 4, 1) := by decide +kernel
theorem dX6_heard_51 : decode cX6_heard 51 = .ok (.aload_n 0, 1) := by decide +kernel
theorem dX6_heard_52 : decode cX6_heard 52 = .ok (.getfield 19, 3) := by decide +kernel
theorem dX6_heard_55 : decode cX6_heard 55 = .ok (.iconst 1, 1) := by decide +kernel
theorem dX6_heard_56 : decode cX6_heard 56 = .ok (.iaload, 1) := by decide +kernel
theorem dX6_heard_57 : decode cX6_heard 57 = .ok (.imul, 1) := by decide +kernel
theorem dX6_heard_58 : decode cX6_heard 58 = .ok (.iadd, 1) := by decide +kernel
theorem dX6_heard_59 : decode cX6_heard 59 = .ok (.istore 5, 2) := by decide +kernel
theorem dX6_heard_61 : decode cX6_heard 61 = .ok (.aload_n 0, 1) := by decide +kernel
theorem dX6_heard_62 : decode cX6_heard 62 = .ok (.getfield 19, 3) := by decide +kernel
theorem dX6_heard_65 : decode cX6_heard 65 = .ok (.iload 5, 2) := by decide +kernel
theorem dX6_heard_67 : decode cX6_heard 67 = .ok (.iload_n 1, 1) := by decide +kernel
theorem dX6_heard_68 : decode cX6_heard 68 = .ok (.iastore, 1) := by decide +kernel
theorem dX6_heard_69 : decode cX6_heard 69 = .ok (.aload_n 0, 1) := by decide +kernel
theorem dX6_heard_70 : decode cX6_heard 70 = .ok (.getfield 19, 3) := by decide +kernel
theorem dX6_heard_73 : decode cX6_heard 73 = .ok (.iload 5, 2) := by decide +kernel
theorem dX6_heard_75 : decode cX6_heard 75 = .ok (.iconst 1, 1) := by decide +kernel
theorem dX6_heard_76 : decode cX6_heard 76 = .ok (.iadd, 1) := by decide +kernel
theorem dX6_heard_77 : decode cX6_heard 77 = .ok (.iload_n 2, 1) := by decide +kernel
theorem dX6_heard_78 : decode cX6_heard 78 = .ok (.iastore, 1) := by decide +kernel
theorem dX6_heard_79 : decode cX6_heard 79 = .ok (.aload_n 0, 1) := by decide +kernel
theorem dX6_heard_80 : decode cX6_heard 80 = .ok (.getfield 19, 3) := by decide +kernel
theorem dX6_heard_83 : decode cX6_heard 83 = .ok (.iload 5, 2) := by decide +kernel
theorem dX6_heard_85 : decode cX6_heard 85 = .ok (.iconst 2, 1) := by decide +kernel
theorem dX6_heard_86 : decode cX6_heard 86 = .ok (.iadd, 1) := by decide +kernel
theorem dX6_heard_87 : decode cX6_heard 87 = .ok (.iload_n 3, 1) := by decide +kernel
theorem dX6_heard_88 : decode cX6_heard 88 = .ok (.iastore, 1) := by decide +kernel
theorem dX6_heard_89 : decode cX6_heard 89 = .ok (.aload_n 0, 1) := by decide +kernel
theorem dX6_heard_90 : decode cX6_heard 90 = .ok (.getfield 19, 3) := by decide +kernel
theorem dX6_heard_93 : decode cX6_heard 93 = .ok (.iload 5, 2) := by decide +kernel
theorem dX6_heard_95 : decode cX6_heard 95 = .ok (.iconst 3, 1) := by decide +kernel
theorem dX6_heard_96 : decode cX6_heard 96 = .ok (.iadd, 1) := by decide +kernel
theorem dX6_heard_97 : decode cX6_heard 97 = .ok (.iload 4, 2) := by decide +kernel
theorem dX6_heard_99 : decode cX6_heard 99 = .ok (.iastore, 1) := by decide +kernel
theorem dX6_heard_100 : decode cX6_heard 100 = .ok (.aload_n 0, 1) := by decide +kernel
theorem dX6_heard_101 : decode cX6_heard 101 = .ok (.getfield 19, 3) := by decide +kernel
theorem dX6_heard_104 : decode cX6_heard 104 = .ok (.iconst 1, 1) := by decide +kernel
theorem dX6_heard_105 : decode cX6_heard 105 = .ok (.dup2, 1) := by decide +kernel
theorem dX6_heard_106 : decode cX6_heard 106 = .ok (.iaload, 1) := by decide +kernel
theorem dX6_heard_107 : decode cX6_heard 107 = .ok (.iconst 1, 1) := by decide +kernel
theorem dX6_heard_108 : decode cX6_heard 108 = .ok (.iadd, 1) := by decide +kernel
theorem dX6_heard_109 : decode cX6_heard 109 = .ok (.iastore, 1) := by decide +kernel
theorem dX6_heard_110 : decode cX6_heard 110 = .ok (.aload_n 0, 1) := by decide +kernel
theorem dX6_heard_111 : decode cX6_heard 111 = .ok (.getfield 19, 3) := by decide +kernel
theorem dX6_heard_114 : decode cX6_heard 114 = .ok (.iconst 1, 1) := by decide +kernel
theorem dX6_heard_115 : decode cX6_heard 115 = .ok (.iaload, 1) := by decide +kernel
theorem dX6_heard_116 : decode cX6_heard 116 = .ok (.ireturn, 1) := by decide +kernel
theorem dX6_forget_0 : decode cX6_forget 0 = .ok (.aload_n 0, 1) := by decide +kernel
theorem dX6_forget_1 : decode cX6_forget 1 = .ok (.getfield 19, 3) := by decide +kernel
theorem dX6_forget_4 : decode cX6_forget 4 = .ok (.iconst 1, 1) := by decide +kernel
theorem dX6_forget_5 : decode cX6_forget 5 = .ok (.iaload, 1) := by decide +kernel
theorem dX6_forget_6 : decode cX6_forget 6 = .ok (.istore_n 1, 1) := by decide +kernel
theorem dX6_forget_7 : decode cX6_forget 7 = .ok (.aload_n 0, 1) := by decide +kernel
theorem dX6_forget_8 : decode cX6_forget 8 = .ok (.getfield 19, 3) := by decide +kernel
theorem dX6_forget_11 : decode cX6_forget 11 = .ok (.iconst 1, 1) := by decide +kernel
theorem dX6_forget_12 : decode cX6_forget 12 = .ok (.iconst 0, 1) := by decide +kernel
theorem dX6_forget_13 : decode cX6_forget 13 = .ok (.iastore, 1) := by decide +kernel
theorem dX6_forget_14 : decode cX6_forget 14 = .ok (.iload_n 1, 1) := by decide +kernel
theorem dX6_forget_15 : decode cX6_forget 15 = .ok (.ireturn, 1) := by decide +kernel
theorem dX6_isSo_0 : decode cX6_isSo 0 = .ok (.bipush 44, 2) := by decide +kernel
theorem dX6_isSo_2 : decode cX6_isSo 2 = .ok (.iconst 4, 1) := by decide +kernel
theorem dX6_isSo_3 : decode cX6_isSo 3 = .ok (.iload_n 1, 1) := by decide +kernel
theorem dX6_isSo_4 : decode cX6_isSo 4 = .ok (.imul, 1) := by decide +kernel
theorem dX6_isSo_5 : decode cX6_isSo 5 = .ok (.iadd, 1) := by decide +kernel
theorem dX6_isSo_6 : decode cX6_isSo 6 = .ok (.istore 4, 2) := by decide +kernel
theorem dX6_isSo_8 : decode cX6_isSo 8 = .ok (.aload_n 0, 1) := by decide +kernel
theorem dX6_isSo_9 : decode cX6_isSo 9 = .ok (.getfield 19, 3) := by decide +kernel
theorem dX6_isSo_12 : decode cX6_isSo 12 = .ok (.iload 4, 2) := by decide +kernel
theorem dX6_isSo_14 : decode cX6_isSo 14 = .ok (.iconst 2, 1) := by decide +kernel
theorem dX6_isSo_15 : decode cX6_isSo 15 = .ok (.iadd, 1) := by decide +kernel
theorem dX6_isSo_16 : decode cX6_isSo 16 = .ok (.iaload, 1) := by decide +kernel
theorem dX6_isSo_17 : decode cX6_isSo 17 = .ok (.iload_n 2, 1) := by decide +kernel
theorem dX6_isSo_18 : decode cX6_isSo 18 = .ok (.if_icmp .ne 25, 3) := by decide +kernel
theorem dX6_isSo_21 : decode cX6_isSo 21 = .ok (.aload_n 0, 1) := by decide +kernel
theorem dX6_isSo_22 : decode cX6_isSo 22 = .ok (.getfield 19, 3) := by decide +kernel
theorem dX6_isSo_25 : decode cX6_isSo 25 = .ok (.iload 4, 2) := by decide +kernel
theorem dX6_isSo_27 : decode cX6_isSo 27 = .ok (.iconst 3, 1) := by decide +kernel
theorem dX6_isSo_28 : decode cX6_isSo 28 = .ok (.iadd, 1) := by decide +kernel
theorem dX6_isSo_29 : decode cX6_isSo 29 = .ok (.iaload, 1) := by decide +kernel
theorem dX6_isSo_30 : decode cX6_isSo 30 = .ok (.iconst 1, 1) := by decide +kernel
theorem dX6_isSo_31 : decode cX6_isSo 31 = .ok (.if_icmp .ne 7, 3) := by decide +kernel
theorem dX6_isSo_34 : decode cX6_isSo 34 = .ok (.iconst 1, 1) := by decide +kernel
theorem dX6_isSo_35 : decode cX6_isSo 35 = .ok (.goto 4, 3) := by decide +kernel
theorem dX6_isSo_38 : decode cX6_isSo 38 = .ok (.iconst 0, 1) := by decide +kernel
theorem dX6_isSo_39 : decode cX6_isSo 39 = .ok (.iload_n 3, 1) := by decide +kernel
theorem dX6_isSo_40 : decode cX6_isSo 40 = .ok (.if_icmp .ne 7, 3) := by decide +kernel
theorem dX6_isSo_43 : decode cX6_isSo 43 = .ok (.iconst 1, 1) := by decide +kernel
theorem dX6_isSo_44 : decode cX6_isSo 44 = .ok (.goto 4, 3) := by decide +kernel
theorem dX6_isSo_47 : decode cX6_isSo 47 = .ok (.iconst 0, 1) := by decide +kernel
theorem dX6_isSo_48 : decode cX6_isSo 48 = .ok (.ireturn, 1) := by decide +kernel
set_option maxRecDepth 20000 in
theorem ggX6_maySpeak_X6_looksOf : GoodIn wsX6_maySpeak wsX6_looksOf := goodIn_r _ [6, 1, 14, 15, 16, 17, 18, 19, 20, 21, 22, 23, 24, 25, 26, 27, 28, 29, 30, 31, 32, 33, 34, 35, 36, 37, 38, 39, 40, 41, 42, 43] (by decide +kernel) (by decide +kernel)
set_option maxRecDepth 20000 in
theorem gX6_maySpeak_X6_looksOf : GoodIn wsX6_maySpeak (wsV RX6 146 RX6 yX6_looksOf wsX6_looksOf) := goodIn_app (goodIn_of _ (by decide +kernel)) ggX6_maySpeak_X6_looksOf
set_option maxRecDepth 20000 in
theorem ggX6_maySpeak_X6_in : GoodIn wsX6_maySpeak wsX6_in := goodIn_r _ [9] (by decide +kernel) (by decide +kernel)
set_option maxRecDepth 20000 in
theorem gX6_maySpeak_X6_in : GoodIn wsX6_maySpeak (va_wsS RX6 51 yX6_in wsX6_in) := goodIn_app (goodIn_of _ (by decide +kernel)) ggX6_maySpeak_X6_in
set_option maxRecDepth 20000 in
theorem ggX6_maySpeak_X6_isSo : GoodIn wsX6_maySpeak wsX6_isSo := goodIn_r _ [13, 1, 14, 15, 16, 17, 18, 19, 20, 21, 22, 23, 24, 25, 26, 27, 28, 29, 30, 31, 32, 33, 34, 35, 36, 37, 38, 39, 40, 41, 42, 43] (by decide +kernel) (by decide +kernel)
set_option maxRecDepth 20000 in
theorem gX6_maySpeak_X6_isSo : GoodIn wsX6_maySpeak (wsV RX6 186 RX6 yX6_isSo wsX6_isSo) := goodIn_app (goodIn_of _ (by decide +kernel)) ggX6_maySpeak_X6_isSo
theorem dX6_maySpeak_0 : decode cX6_maySpeak 0 = .ok (.iconst 1, 1) := by decide +kernel
theorem dX6_maySpeak_1 : decode cX6_maySpeak 1 = .ok (.istore 5, 2) := by decide +kernel
theorem dX6_maySpeak_3 : decode cX6_maySpeak 3 = .ok (.iconst 0, 1) := by decide +kernel
theorem dX6_maySpeak_4 : decode cX6_maySpeak 4 = .ok (.istore 6, 2) := by decide +kernel
theorem dX6_maySpeak_6 : decode cX6_maySpeak 6 = .ok (.iload 6, 2) := by decide +kernel
theorem dX6_maySpeak_8 : decode cX6_maySpeak 8 = .ok (.aload_n 0, 1) := by decide +kernel
theorem dX6_maySpeak_9 : decode cX6_maySpeak 9 = .ok (.getfield 19, 3) := by decide +kernel
theorem dX6_maySpeak_12 : decode cX6_maySpeak 12 = .ok (.iconst 1, 1) := by decide +kernel
theorem dX6_maySpeak_13 : decode cX6_maySpeak 13 = .ok (.iaload, 1) := by decide +kernel
theorem dX6_maySpeak_14 : decode cX6_maySpeak 14 = .ok (.if_icmp .ge 85, 3) := by decide +kernel
theorem dX6_maySpeak_17 : decode cX6_maySpeak 17 = .ok (.aload_n 0, 1) := by decide +kernel
theorem dX6_maySpeak_18 : decode cX6_maySpeak 18 = .ok (.getfield 19, 3) := by decide +kernel
theorem dX6_maySpeak_21 : decode cX6_maySpeak 21 = .ok (.bipush 44, 2) := by decide +kernel
theorem dX6_maySpeak_23 : decode cX6_maySpeak 23 = .ok (.iconst 4, 1) := by decide +kernel
theorem dX6_maySpeak_24 : decode cX6_maySpeak 24 = .ok (.iload 6, 2) := by decide +kernel
theorem dX6_maySpeak_26 : decode cX6_maySpeak 26 = .ok (.imul, 1) := by decide +kernel
theorem dX6_maySpeak_27 : decode cX6_maySpeak 27 = .ok (.iadd, 1) := by decide +kernel
theorem dX6_maySpeak_28 : decode cX6_maySpeak 28 = .ok (.iaload, 1) := by decide +kernel
theorem dX6_maySpeak_29 : decode cX6_maySpeak 29 = .ok (.istore 7, 2) := by decide +kernel
theorem dX6_maySpeak_31 : decode cX6_maySpeak 31 = .ok (.iload 5, 2) := by decide +kernel
theorem dX6_maySpeak_33 : decode cX6_maySpeak 33 = .ok (.ifCond .eq 57, 3) := by decide +kernel
theorem dX6_maySpeak_36 : decode cX6_maySpeak 36 = .ok (.aload_n 0, 1) := by decide +kernel
theorem dX6_maySpeak_37 : decode cX6_maySpeak 37 = .ok (.iload 6, 2) := by decide +kernel
theorem dX6_maySpeak_39 : decode cX6_maySpeak 39 = .ok (.iload_n 1, 1) := by decide +kernel
theorem dX6_maySpeak_40 : decode cX6_maySpeak 40 = .ok (.aload_n 0, 1) := by decide +kernel
theorem dX6_maySpeak_41 : decode cX6_maySpeak 41 = .ok (.aload_n 0, 1) := by decide +kernel
theorem dX6_maySpeak_42 : decode cX6_maySpeak 42 = .ok (.getfield 19, 3) := by decide +kernel
theorem dX6_maySpeak_45 : decode cX6_maySpeak 45 = .ok (.bipush 44, 2) := by decide +kernel
theorem dX6_maySpeak_47 : decode cX6_maySpeak 47 = .ok (.iconst 4, 1) := by decide +kernel
theorem dX6_maySpeak_48 : decode cX6_maySpeak 48 = .ok (.iload 6, 2) := by decide +kernel
theorem dX6_maySpeak_50 : decode cX6_maySpeak 50 = .ok (.imul, 1) := by decide +kernel
theorem dX6_maySpeak_51 : decode cX6_maySpeak 51 = .ok (.iadd, 1) := by decide +kernel
theorem dX6_maySpeak_52 : decode cX6_maySpeak 52 = .ok (.iconst 1, 1) := by decide +kernel
theorem dX6_maySpeak_53 : decode cX6_maySpeak 53 = .ok (.iadd, 1) := by decide +kernel
theorem dX6_maySpeak_54 : decode cX6_maySpeak 54 = .ok (.iaload, 1) := by decide +kernel
theorem dX6_maySpeak_55 : decode cX6_maySpeak 55 = .ok (.iload 7, 2) := by decide +kernel
theorem dX6_maySpeak_57 : decode cX6_maySpeak 57 = .ok (.invokevirtual 146, 3) := by decide +kernel
theorem dX6_maySpeak_60 : decode cX6_maySpeak 60 = .ok (.iload_n 2, 1) := by decide +kernel
theorem dX6_maySpeak_61 : decode cX6_maySpeak 61 = .ok (.if_icmp .ne 18, 3) := by decide +kernel
theorem dX6_maySpeak_64 : decode cX6_maySpeak 64 = .ok (.iload 7, 2) := by decide +kernel
theorem dX6_maySpeak_66 : decode cX6_maySpeak 66 = .ok (.iload_n 3, 1) := by decide +kernel
theorem dX6_maySpeak_67 : decode cX6_maySpeak 67 = .ok (.iload 4, 2) := by decide +kernel
theorem dX6_maySpeak_69 : decode cX6_maySpeak 69 = .ok (.invokestatic 51, 3) := by decide +kernel
theorem dX6_maySpeak_72 : decode cX6_maySpeak 72 = .ok (.ifCond .eq 7, 3) := by decide +kernel
theorem dX6_maySpeak_75 : decode cX6_maySpeak 75 = .ok (.iconst 1, 1) := by decide +kernel
theorem dX6_maySpeak_76 : decode cX6_maySpeak 76 = .ok (.goto 4, 3) := by decide +kernel
theorem dX6_maySpeak_79 : decode cX6_maySpeak 79 = .ok (.iconst 0, 1) := by decide +kernel
theorem dX6_maySpeak_80 : decode cX6_maySpeak 80 = .ok (.invokevirtual 186, 3) := by decide +kernel
theorem dX6_maySpeak_83 : decode cX6_maySpeak 83 = .ok (.ifCond .eq 7, 3) := by decide +kernel
theorem dX6_maySpeak_86 : decode cX6_maySpeak 86 = .ok (.iconst 1, 1) := by decide +kernel
theorem dX6_maySpeak_87 : decode cX6_maySpeak 87 = .ok (.goto 4, 3) := by decide +kernel
theorem dX6_maySpeak_90 : decode cX6_maySpeak 90 = .ok (.iconst 0, 1) := by decide +kernel
theorem dX6_maySpeak_91 : decode cX6_maySpeak 91 = .ok (.istore 5, 2) := by decide +kernel
theorem dX6_maySpeak_93 : decode cX6_maySpeak 93 = .ok (.iinc 6 1, 3) := by decide +kernel
theorem dX6_maySpeak_96 : decode cX6_maySpeak 96 = .ok (.goto (-90), 3) := by decide +kernel
theorem dX6_maySpeak_99 : decode cX6_maySpeak 99 = .ok (.iload 5, 2) := by decide +kernel
theorem dX6_maySpeak_101 : decode cX6_maySpeak 101 = .ok (.ireturn, 1) := by decide +kernel
set_option maxRecDepth 20000 in
theorem ggX6_sky_X6_isNote : GoodIn wsX6_sky wsX6_isNote := goodIn_r _ [4, 5, 6, 3, 7] (by decide +kernel) (by decide +kernel)
set_option maxRecDepth 20000 in
theorem gX6_sky_X6_isNote : GoodIn wsX6_sky (va_wsS RX6 183 yX6_isNote wsX6_isNote) := goodIn_app (goodIn_of _ (by decide +kernel)) ggX6_sky_X6_isNote
set_option maxRecDepth 20000 in
theorem ggX6_sky_X6_maySpeak : GoodIn wsX6_sky wsX6_maySpeak := goodIn_r _ [11, 12, 13, 14, 15, 3, 16, 5, 6, 7, 17, 18, 19, 20, 21, 22, 23, 24, 25, 26, 27, 28, 29, 30, 31, 32, 33, 34, 35, 36, 37, 38, 39, 40, 41, 42, 43, 44, 45, 46, 47, 48, 49, 50] (by decide +kernel) (by decide +kernel)
set_option maxRecDepth 20000 in
theorem gX6_sky_X6_maySpeak : GoodIn wsX6_sky (wsV RX6 190 RX6 yX6_maySpeak wsX6_maySpeak) := goodIn_app (goodIn_of _ (by decide +kernel)) ggX6_sky_X6_maySpeak
theorem dX6_sky_0 : decode cX6_sky 0 = .ok (.iload_n 1, 1) := by decide +kernel
theorem dX6_sky_1 : decode cX6_sky 1 = .ok (.invokestatic 183, 3) := by decide +kernel
theorem dX6_sky_4 : decode cX6_sky 4 = .ok (.ifCond .ne 5, 3) := by decide +kernel
theorem dX6_sky_7 : decode cX6_sky 7 = .ok (.iconst (-1), 1) := by decide +kernel
theorem dX6_sky_8 : decode cX6_sky 8 = .ok (.ireturn, 1) := by decide +kernel
theorem dX6_sky_9 : decode cX6_sky 9 = .ok (.iconst 0, 1) := by decide +kernel
theorem dX6_sky_10 : decode cX6_sky 10 = .ok (.istore_n 2, 1) := by decide +kernel
theorem dX6_sky_11 : decode cX6_sky 11 = .ok (.iconst 0, 1) := by decide +kernel
theorem dX6_sky_12 : decode cX6_sky 12 = .ok (.istore_n 3, 1) := by decide +kernel
theorem dX6_sky_13 : decode cX6_sky 13 = .ok (.iload_n 3, 1) := by decide +kernel
theorem dX6_sky_14 : decode cX6_sky 14 = .ok (.bipush 8, 2) := by decide +kernel
theorem dX6_sky_16 : decode cX6_sky 16 = .ok (.if_icmp .ge 31, 3) := by decide +kernel
theorem dX6_sky_19 : decode cX6_sky 19 = .ok (.iload_n 2, 1) := by decide +kernel
theorem dX6_sky_20 : decode cX6_sky 20 = .ok (.aload_n 0, 1) := by decide +kernel
theorem dX6_sky_21 : decode cX6_sky 21 = .ok (.iload_n 1, 1) := by decide +kernel
theorem dX6_sky_22 : decode cX6_sky 22 = .ok (.iload_n 3, 1) := by decide +kernel
theorem dX6_sky_23 : decode cX6_sky 23 = .ok (.iconst 0, 1) := by decide +kernel
theorem dX6_sky_24 : decode cX6_sky 24 = .ok (.bipush 23, 2) := by decide +kernel
theorem dX6_sky_26 : decode cX6_sky 26 = .ok (.invokevirtual 190, 3) := by decide +kernel
theorem dX6_sky_29 : decode cX6_sky 29 = .ok (.ifCond .eq 9, 3) := by decide +kernel
theorem dX6_sky_32 : decode cX6_sky 32 = .ok (.iconst 1, 1) := by decide +kernel
theorem dX6_sky_33 : decode cX6_sky 33 = .ok (.iload_n 3, 1) := by decide +kernel
theorem dX6_sky_34 : decode cX6_sky 34 = .ok (.ishl, 1) := by decide +kernel
theorem dX6_sky_35 : decode cX6_sky 35 = .ok (.goto 4, 3) := by decide +kernel
theorem dX6_sky_38 : decode cX6_sky 38 = .ok (.iconst 0, 1) := by decide +kernel
theorem dX6_sky_39 : decode cX6_sky 39 = .ok (.ior, 1) := by decide +kernel
theorem dX6_sky_40 : decode cX6_sky 40 = .ok (.istore_n 2, 1) := by decide +kernel
theorem dX6_sky_41 : decode cX6_sky 41 = .ok (.iinc 3 1, 3) := by decide +kernel
theorem dX6_sky_44 : decode cX6_sky 44 = .ok (.goto (-31), 3) := by decide +kernel
theorem dX6_sky_47 : decode cX6_sky 47 = .ok (.iload_n 2, 1) := by decide +kernel
theorem dX6_sky_48 : decode cX6_sky 48 = .ok (.ireturn, 1) := by decide +kernel
set_option maxRecDepth 20000 in
theorem ggX6_mayBeOurs_X6_isSo : GoodIn wsX6_mayBeOurs wsX6_isSo := goodIn_r _ [6, 1, 7, 8, 9, 10, 11, 12, 13, 14, 15, 16, 17, 18, 19, 20, 21, 22, 23, 24, 25, 26, 27, 28, 29, 30, 31, 32, 33, 34, 35, 36] (by decide +kernel) (by decide +kernel)
set_option maxRecDepth 20000 in
theorem gX6_mayBeOurs_X6_isSo : GoodIn wsX6_mayBeOurs (wsV RX6 186 RX6 yX6_isSo wsX6_isSo) := goodIn_app (goodIn_of _ (by decide +kernel)) ggX6_mayBeOurs_X6_isSo
theorem dX6_mayBeOurs_0 : decode cX6_mayBeOurs 0 = .ok (.iconst 1, 1) := by decide +kernel
theorem dX6_mayBeOurs_1 : decode cX6_mayBeOurs 1 = .ok (.istore 4, 2) := by decide +kernel
theorem dX6_mayBeOurs_3 : decode cX6_mayBeOurs 3 = .ok (.iconst 0, 1) := by decide +kernel
theorem dX6_mayBeOurs_4 : decode cX6_mayBeOurs 4 = .ok (.istore 5, 2) := by decide +kernel
theorem dX6_mayBeOurs_6 : decode cX6_mayBeOurs 6 = .ok (.iload 5, 2) := by decide +kernel
theorem dX6_mayBeOurs_8 : decode cX6_mayBeOurs 8 = .ok (.aload_n 0, 1) := by decide +kernel
theorem dX6_mayBeOurs_9 : decode cX6_mayBeOurs 9 = .ok (.getfield 19, 3) := by decide +kernel
theorem dX6_mayBeOurs_12 : decode cX6_mayBeOurs 12 = .ok (.iconst 1, 1) := by decide +kernel
theorem dX6_mayBeOurs_13 : decode cX6_mayBeOurs 13 = .ok (.iaload, 1) := by decide +kernel
theorem dX6_mayBeOurs_14 : decode cX6_mayBeOurs 14 = .ok (.if_icmp .ge 54, 3) := by decide +kernel
theorem dX6_mayBeOurs_17 : decode cX6_mayBeOurs 17 = .ok (.iload 4, 2) := by decide +kernel
theorem dX6_mayBeOurs_19 : decode cX6_mayBeOurs 19 = .ok (.ifCond .eq 40, 3) := by decide +kernel
theorem dX6_mayBeOurs_22 : decode cX6_mayBeOurs 22 = .ok (.aload_n 0, 1) := by decide +kernel
theorem dX6_mayBeOurs_23 : decode cX6_mayBeOurs 23 = .ok (.iload 5, 2) := by decide +kernel
theorem dX6_mayBeOurs_25 : decode cX6_mayBeOurs 25 = .ok (.iload_n 1, 1) := by decide +kernel
theorem dX6_mayBeOurs_26 : decode cX6_mayBeOurs 26 = .ok (.aload_n 0, 1) := by decide +kernel
theorem dX6_mayBeOurs_27 : decode cX6_mayBeOurs 27 = .ok (.getfield 19, 3) := by decide +kernel
theorem dX6_mayBeOurs_30 : decode cX6_mayBeOurs 30 = .ok (.bipush 44, 2) := by decide +kernel
theorem dX6_mayBeOurs_32 : decode cX6_mayBeOurs 32 = .ok (.iconst 4, 1) := by decide +kernel
theorem dX6_mayBeOurs_33 : decode cX6_mayBeOurs 33 = .ok (.iload 5, 2) := by decide +kernel
theorem dX6_mayBeOurs_35 : decode cX6_mayBeOurs 35 = .ok (.imul, 1) := by decide +kernel
theorem dX6_mayBeOurs_36 : decode cX6_mayBeOurs 36 = .ok (.iadd, 1) := by decide +kernel
theorem dX6_mayBeOurs_37 : decode cX6_mayBeOurs 37 = .ok (.iaload, 1) := by decide +kernel
theorem dX6_mayBeOurs_38 : decode cX6_mayBeOurs 38 = .ok (.iload_n 2, 1) := by decide +kernel
theorem dX6_mayBeOurs_39 : decode cX6_mayBeOurs 39 = .ok (.irem, 1) := by decide +kernel
theorem dX6_mayBeOurs_40 : decode cX6_mayBeOurs 40 = .ok (.iload_n 3, 1) := by decide +kernel
theorem dX6_mayBeOurs_41 : decode cX6_mayBeOurs 41 = .ok (.if_icmp .ne 7, 3) := by decide +kernel
theorem dX6_mayBeOurs_44 : decode cX6_mayBeOurs 44 = .ok (.iconst 1, 1) := by decide +kernel
theorem dX6_mayBeOurs_45 : decode cX6_mayBeOurs 45 = .ok (.goto 4, 3) := by decide +kernel
theorem dX6_mayBeOurs_48 : decode cX6_mayBeOurs 48 = .ok (.iconst 0, 1) := by decide +kernel
theorem dX6_mayBeOurs_49 : decode cX6_mayBeOurs 49 = .ok (.invokevirtual 186, 3) := by decide +kernel
theorem dX6_mayBeOurs_52 : decode cX6_mayBeOurs 52 = .ok (.ifCond .eq 7, 3) := by decide +kernel
theorem dX6_mayBeOurs_55 : decode cX6_mayBeOurs 55 = .ok (.iconst 1, 1) := by decide +kernel
theorem dX6_mayBeOurs_56 : decode cX6_mayBeOurs 56 = .ok (.goto 4, 3) := by decide +kernel
theorem dX6_mayBeOurs_59 : decode cX6_mayBeOurs 59 = .ok (.iconst 0, 1) := by decide +kernel
theorem dX6_mayBeOurs_60 : decode cX6_mayBeOurs 60 = .ok (.istore 4, 2) := by decide +kernel
theorem dX6_mayBeOurs_62 : decode cX6_mayBeOurs 62 = .ok (.iinc 5 1, 3) := by decide +kernel
theorem dX6_mayBeOurs_65 : decode cX6_mayBeOurs 65 = .ok (.goto (-59), 3) := by decide +kernel
theorem dX6_mayBeOurs_68 : decode cX6_mayBeOurs 68 = .ok (.iload 4, 2) := by decide +kernel
theorem dX6_mayBeOurs_70 : decode cX6_mayBeOurs 70 = .ok (.ireturn, 1) := by decide +kernel
set_option maxRecDepth 20000 in
theorem ggX6_ours_X6_isNote : GoodIn wsX6_ours wsX6_isNote := goodIn_r _ [4, 5, 6, 3, 7] (by decide +kernel) (by decide +kernel)
set_option maxRecDepth 20000 in
theorem gX6_ours_X6_isNote : GoodIn wsX6_ours (va_wsS RX6 183 yX6_isNote wsX6_isNote) := goodIn_app (goodIn_of _ (by decide +kernel)) ggX6_ours_X6_isNote
set_option maxRecDepth 20000 in
theorem ggX6_ours_X6_in : GoodIn wsX6_ours wsX6_in := goodIn_r _ [7] (by decide +kernel) (by decide +kernel)
set_option maxRecDepth 20000 in
theorem gX6_ours_X6_in : GoodIn wsX6_ours (va_wsS RX6 51 yX6_in wsX6_in) := goodIn_app (goodIn_of _ (by decide +kernel)) ggX6_ours_X6_in
set_option maxRecDepth 20000 in
theorem ggX6_ours_X6_mayBeOurs : GoodIn wsX6_ours wsX6_mayBeOurs := goodIn_r _ [11, 12, 13, 14, 15, 3, 16, 17, 18, 19, 20, 21, 22, 23, 24, 25, 26, 27, 28, 29, 30, 31, 32, 33, 34, 35, 36, 37, 38, 39, 40, 41, 42, 43, 44, 45, 46] (by decide +kernel) (by decide +kernel)
set_option maxRecDepth 20000 in
theorem gX6_ours_X6_mayBeOurs : GoodIn wsX6_ours (wsV RX6 194 RX6 yX6_mayBeOurs wsX6_mayBeOurs) := goodIn_app (goodIn_of _ (by decide +kernel)) ggX6_ours_X6_mayBeOurs
theorem dX6_ours_0 : decode cX6_ours 0 = .ok (.iload_n 1, 1) := by decide +kernel
theorem dX6_ours_1 : decode cX6_ours 1 = .ok (.invokestatic 183, 3) := by decide +kernel
theorem dX6_ours_4 : decode cX6_ours 4 = .ok (.ifCond .eq 12, 3) := by decide +kernel
theorem dX6_ours_7 : decode cX6_ours 7 = .ok (.iload_n 2, 1) := by decide +kernel
theorem dX6_ours_8 : decode cX6_ours 8 = .ok (.iconst 0, 1) := by decide +kernel
theorem dX6_ours_9 : decode cX6_ours 9 = .ok (.iconst 2, 1) := by decide +kernel
theorem dX6_ours_10 : decode cX6_ours 10 = .ok (.invokestatic 51, 3) := by decide +kernel
theorem dX6_ours_13 : decode cX6_ours 13 = .ok (.ifCond .ne 5, 3) := by decide +kernel
theorem dX6_ours_16 : decode cX6_ours 16 = .ok (.iconst (-1), 1) := by decide +kernel
theorem dX6_ours_17 : decode cX6_ours 17 = .ok (.ireturn, 1) := by decide +kernel
theorem dX6_ours_18 : decode cX6_ours 18 = .ok (.iconst 0, 1) := by decide +kernel
theorem dX6_ours_19 : decode cX6_ours 19 = .ok (.istore_n 3, 1) := by decide +kernel
theorem dX6_ours_20 : decode cX6_ours 20 = .ok (.bipush (-9), 2) := by decide +kernel
theorem dX6_ours_22 : decode cX6_ours 22 = .ok (.istore 4, 2) := by decide +kernel
theorem dX6_ours_24 : decode cX6_ours 24 = .ok (.iconst 1, 1) := by decide +kernel
theorem dX6_ours_25 : decode cX6_ours 25 = .ok (.istore 5, 2) := by decide +kernel
theorem dX6_ours_27 : decode cX6_ours 27 = .ok (.iload 5, 2) := by decide +kernel
theorem dX6_ours_29 : decode cX6_ours 29 = .ok (.bipush 12, 2) := by decide +kernel
theorem dX6_ours_31 : decode cX6_ours 31 = .ok (.if_icmp .gt 73, 3) := by decide +kernel
theorem dX6_ours_34 : decode cX6_ours 34 = .ok (.iconst 0, 1) := by decide +kernel
theorem dX6_ours_35 : decode cX6_ours 35 = .ok (.istore 6, 2) := by decide +kernel
theorem dX6_ours_37 : decode cX6_ours 37 = .ok (.iload 6, 2) := by decide +kernel
theorem dX6_ours_39 : decode cX6_ours 39 = .ok (.iload 5, 2) := by decide +kernel
theorem dX6_ours_41 : decode cX6_ours 41 = .ok (.if_icmp .ge 57, 3) := by decide +kernel
theorem dX6_ours_44 : decode cX6_ours 44 = .ok (.aload_n 0, 1) := by decide +kernel
theorem dX6_ours_45 : decode cX6_ours 45 = .ok (.iload_n 1, 1) := by decide +kernel
theorem dX6_ours_46 : decode cX6_ours 46 = .ok (.iload 5, 2) := by decide +kernel
theorem dX6_ours_48 : decode cX6_ours 48 = .ok (.iload 6, 2) := by decide +kernel
theorem dX6_ours_50 : decode cX6_ours 50 = .ok (.invokevirtual 194, 3) := by decide +kernel
theorem dX6_ours_53 : decode cX6_ours 53 = .ok (.istore 7, 2) := by decide +kernel
theorem dX6_ours_55 : decode cX6_ours 55 = .ok (.iload 7, 2) := by decide +kernel
theorem dX6_ours_57 : decode cX6_ours 57 = .ok (.ifCond .eq 18, 3) := by decide +kernel
theorem dX6_ours_60 : decode cX6_ours 60 = .ok (.iload_n 3, 1) := by decide +kernel
theorem dX6_ours_61 : decode cX6_ours 61 = .ok (.ifCond .ne 14, 3) := by decide +kernel
theorem dX6_ours_64 : decode cX6_ours 64 = .ok (.bipush 12, 2) := by decide +kernel
theorem dX6_ours_66 : decode cX6_ours 66 = .ok (.iload 5, 2) := by decide +kernel
theorem dX6_ours_68 : decode cX6_ours 68 = .ok (.imul, 1) := by decide +kernel
theorem dX6_ours_69 : decode cX6_ours 69 = .ok (.iload 6, 2) := by decide +kernel
theorem dX6_ours_71 : decode cX6_ours 71 = .ok (.iadd, 1) := by decide +kernel
theorem dX6_ours_72 : decode cX6_ours 72 = .ok (.goto 5, 3) := by decide +kernel
theorem dX6_ours_75 : decode cX6_ours 75 = .ok (.iload 4, 2) := by decide +kernel
theorem dX6_ours_77 : decode cX6_ours 77 = .ok (.istore 4, 2) := by decide +kernel
theorem dX6_ours_79 : decode cX6_ours 79 = .ok (.iload_n 3, 1) := by decide +kernel
theorem dX6_ours_80 : decode cX6_ours 80 = .ok (.iload 7, 2) := by decide +kernel
theorem dX6_ours_82 : decode cX6_ours 82 = .ok (.ifCond .eq 7, 3) := by decide +kernel
theorem dX6_ours_85 : decode cX6_ours 85 = .ok (.iconst 1, 1) := by decide +kernel
theorem dX6_ours_86 : decode cX6_ours 86 = .ok (.goto 4, 3) := by decide +kernel
theorem dX6_ours_89 : decode cX6_ours 89 = .ok (.iconst 0, 1) := by decide +kernel
theorem dX6_ours_90 : decode cX6_ours 90 = .ok (.iadd, 1) := by decide +kernel
theorem dX6_ours_91 : decode cX6_ours 91 = .ok (.istore_n 3, 1) := by decide +kernel
theorem dX6_ours_92 : decode cX6_ours 92 = .ok (.iinc 6 1, 3) := by decide +kernel
theorem dX6_ours_95 : decode cX6_ours 95 = .ok (.goto (-58), 3) := by decide +kernel
theorem dX6_ours_98 : decode cX6_ours 98 = .ok (.iinc 5 1, 3) := by decide +kernel
theorem dX6_ours_101 : decode cX6_ours 101 = .ok (.goto (-74), 3) := by decide +kernel
theorem dX6_ours_104 : decode cX6_ours 104 = .ok (.iload_n 2, 1) := by decide +kernel
theorem dX6_ours_105 : decode cX6_ours 105 = .ok (.ifCond .ne 7, 3) := by decide +kernel
theorem dX6_ours_108 : decode cX6_ours 108 = .ok (.iload_n 3, 1) := by decide +kernel
theorem dX6_ours_109 : decode cX6_ours 109 = .ok (.goto 30, 3) := by decide +kernel
theorem dX6_ours_112 : decode cX6_ours 112 = .ok (.iload_n 3, 1) := by decide +kernel
theorem dX6_ours_113 : decode cX6_ours 113 = .ok (.ifCond .ne 8, 3) := by decide +kernel
theorem dX6_ours_116 : decode cX6_ours 116 = .ok (.bipush (-9), 2) := by decide +kernel
theorem dX6_ours_118 : decode cX6_ours 118 = .ok (.goto 21, 3) := by decide +kernel
theorem dX6_ours_121 : decode cX6_ours 121 = .ok (.iload_n 2, 1) := by decide +kernel
theorem dX6_ours_122 : decode cX6_ours 122 = .ok (.iconst 1, 1) := by decide +kernel
theorem dX6_ours_123 : decode cX6_ours 123 = .ok (.if_icmp .ne 11, 3) := by decide +kernel
theorem dX6_ours_126 : decode cX6_ours 126 = .ok (.iload 4, 2) := by decide +kernel
theorem dX6_ours_128 : decode cX6_ours 128 = .ok (.bipush 12, 2) := by decide +kernel
theorem dX6_ours_130 : decode cX6_ours 130 = .ok (.idiv, 1) := by decide +kernel
theorem dX6_ours_131 : decode cX6_ours 131 = .ok (.goto 8, 3) := by decide +kernel
theorem dX6_ours_134 : decode cX6_ours 134 = .ok (.iload 4, 2) := by decide +kernel
theorem dX6_ours_136 : decode cX6_ours 136 = .ok (.bipush 12, 2) := by decide +kernel
theorem dX6_ours_138 : decode cX6_ours 138 = .ok (.irem, 1) := by decide +kernel
theorem dX6_ours_139 : decode cX6_ours 139 = .ok (.ireturn, 1) := by decide +kernel
set_option maxRecDepth 20000 in
theorem ggX6_findCould_X6_maySpeak : GoodIn wsX6_findCould wsX6_maySpeak := goodIn_r _ [7, 8, 9, 10, 11, 6, 12, 13, 14, 15, 16, 17, 18, 19, 20, 21, 22, 23, 24, 25, 26, 27, 28, 29, 30, 31, 32, 33, 34, 35, 36, 37, 38, 39, 40, 41, 42, 43, 44, 45, 46, 47, 48, 49] (by decide +kernel) (by decide +kernel)
set_option maxRecDepth 20000 in
theorem gX6_findCould_X6_maySpeak : GoodIn wsX6_findCould (wsV RX6 190 RX6 yX6_maySpeak wsX6_maySpeak) := goodIn_app (goodIn_of _ (by decide +kernel)) ggX6_findCould_X6_maySpeak
set_option maxRecDepth 20000 in
theorem ggX6_findCould_X6_in : GoodIn wsX6_findCould wsX6_in := goodIn_r _ [15] (by decide +kernel) (by decide +kernel)
set_option maxRecDepth 20000 in
theorem gX6_findCould_X6_in : GoodIn wsX6_findCould (va_wsS RX6 51 yX6_in wsX6_in) := goodIn_app (goodIn_of _ (by decide +kernel)) ggX6_findCould_X6_in
theorem dX6_findCould_0 : decode cX6_findCould 0 = .ok (.aload_n 0, 1) := by decide +kernel
theorem dX6_findCould_1 : decode cX6_findCould 1 = .ok (.iconst 0, 1) := by decide +kernel
theorem dX6_findCould_2 : decode cX6_findCould 2 = .ok (.putfield 197, 3) := by decide +kernel
theorem dX6_findCould_5 : decode cX6_findCould 5 = .ok (.aload_n 0, 1) := by decide +kernel
theorem dX6_findCould_6 : decode cX6_findCould 6 = .ok (.iconst 0, 1) := by decide +kernel
theorem dX6_findCould_7 : decode cX6_findCould 7 = .ok (.putfield 200, 3) := by decide +kernel
theorem dX6_findCould_10 : decode cX6_findCould 10 = .ok (.iconst 0, 1) := by decide +kernel
theorem dX6_findCould_11 : decode cX6_findCould 11 = .ok (.istore 4, 2) := by decide +kernel
theorem dX6_findCould_13 : decode cX6_findCould 13 = .ok (.iload 4, 2) := by decide +kernel
theorem dX6_findCould_15 : decode cX6_findCould 15 = .ok (.bipush 8, 2) := by decide +kernel
theorem dX6_findCould_17 : decode cX6_findCould 17 = .ok (.if_icmp .ge 110, 3) := by decide +kernel
theorem dX6_findCould_20 : decode cX6_findCould 20 = .ok (.iconst 0, 1) := by decide +kernel
theorem dX6_findCould_21 : decode cX6_findCould 21 = .ok (.istore 5, 2) := by decide +kernel
theorem dX6_findCould_23 : decode cX6_findCould 23 = .ok (.iload 5, 2) := by decide +kernel
theorem dX6_findCould_25 : decode cX6_findCould 25 = .ok (.bipush 24, 2) := by decide +kernel
theorem dX6_findCould_27 : decode cX6_findCould 27 = .ok (.if_icmp .ge 94, 3) := by decide +kernel
theorem dX6_findCould_30 : decode cX6_findCould 30 = .ok (.iload 5, 2) := by decide +kernel
theorem dX6_findCould_32 : decode cX6_findCould 32 = .ok (.istore 6, 2) := by decide +kernel
theorem dX6_findCould_34 : decode cX6_findCould 34 = .ok (.iload 6, 2) := by decide +kernel
theorem dX6_findCould_36 : decode cX6_findCould 36 = .ok (.bipush 24, 2) := by decide +kernel
theorem dX6_findCould_38 : decode cX6_findCould 38 = .ok (.if_icmp .ge 77, 3) := by decide +kernel
theorem dX6_findCould_41 : decode cX6_findCould 41 = .ok (.aload_n 0, 1) := by decide +kernel
theorem dX6_findCould_42 : decode cX6_findCould 42 = .ok (.iload_n 1, 1) := by decide +kernel
theorem dX6_findCould_43 : decode cX6_findCould 43 = .ok (.iload 4, 2) := by decide +kernel
theorem dX6_findCould_45 : decode cX6_findCould 45 = .ok (.iload 5, 2) := by decide +kernel
theorem dX6_findCould_47 : decode cX6_findCould 47 = .ok (.iload 6, 2) := by decide +kernel
theorem dX6_findCould_49 : decode cX6_findCould 49 = .ok (.invokevirtual 190, 3) := by decide +kernel
theorem dX6_findCould_52 : decode cX6_findCould 52 = .ok (.istore 7, 2) := by decide +kernel
theorem dX6_findCould_54 : decode cX6_findCould 54 = .ok (.aload_n 0, 1) := by decide +kernel
theorem dX6_findCould_55 : decode cX6_findCould 55 = .ok (.dup, 1) := by decide +kernel
theorem dX6_findCould_56 : decode cX6_findCould 56 = .ok (.getfield 197, 3) := by decide +kernel
theorem dX6_findCould_59 : decode cX6_findCould 59 = .ok (.iload 7, 2) := by decide +kernel
theorem dX6_findCould_61 : decode cX6_findCould 61 = .ok (.ifCond .eq 7, 3) := by decide +kernel
theorem dX6_findCould_64 : decode cX6_findCould 64 = .ok (.iconst 1, 1) := by decide +kernel
theorem dX6_findCould_65 : decode cX6_findCould 65 = .ok (.goto 4, 3) := by decide +kernel
theorem dX6_findCould_68 : decode cX6_findCould 68 = .ok (.iconst 0, 1) := by decide +kernel
theorem dX6_findCould_69 : decode cX6_findCould 69 = .ok (.iadd, 1) := by decide +kernel
theorem dX6_findCould_70 : decode cX6_findCould 70 = .ok (.putfield 197, 3) := by decide +kernel
theorem dX6_findCould_73 : decode cX6_findCould 73 = .ok (.aload_n 0, 1) := by decide +kernel
theorem dX6_findCould_74 : decode cX6_findCould 74 = .ok (.dup, 1) := by decide +kernel
theorem dX6_findCould_75 : decode cX6_findCould 75 = .ok (.getfield 200, 3) := by decide +kernel
theorem dX6_findCould_78 : decode cX6_findCould 78 = .ok (.iload 7, 2) := by decide +kernel
theorem dX6_findCould_80 : decode cX6_findCould 80 = .ok (.ifCond .eq 24, 3) := by decide +kernel
theorem dX6_findCould_83 : decode cX6_findCould 83 = .ok (.iload 4, 2) := by decide +kernel
theorem dX6_findCould_85 : decode cX6_findCould 85 = .ok (.iload_n 2, 1) := by decide +kernel
theorem dX6_findCould_86 : decode cX6_findCould 86 = .ok (.if_icmp .ne 18, 3) := by decide +kernel
theorem dX6_findCould_89 : decode cX6_findCould 89 = .ok (.iload_n 3, 1) := by decide +kernel
theorem dX6_findCould_90 : decode cX6_findCould 90 = .ok (.iload 5, 2) := by decide +kernel
theorem dX6_findCould_92 : decode cX6_findCould 92 = .ok (.iload 6, 2) := by decide +kernel
theorem dX6_findCould_94 : decode cX6_findCould 94 = .ok (.invokestatic 51, 3) := by decide +kernel
theorem dX6_findCould_97 : decode cX6_findCould 97 = .ok (.ifCond .eq 7, 3) := by decide +kernel
theorem dX6_findCould_100 : decode cX6_findCould 100 = .ok (.iconst 1, 1) := by decide +kernel
theorem dX6_findCould_101 : decode cX6_findCould 101 = .ok (.goto 4, 3) := by decide +kernel
theorem dX6_findCould_104 : decode cX6_findCould 104 = .ok (.iconst 0, 1) := by decide +kernel
theorem dX6_findCould_105 : decode cX6_findCould 105 = .ok (.iadd, 1) := by decide +kernel
theorem dX6_findCould_106 : decode cX6_findCould 106 = .ok (.putfield 200, 3) := by decide +kernel
theorem dX6_findCould_109 : decode cX6_findCould 109 = .ok (.iinc 6 1, 3) := by decide +kernel
theorem dX6_findCould_112 : decode cX6_findCould 112 = .ok (.goto (-78), 3) := by decide +kernel
theorem dX6_findCould_115 : decode cX6_findCould 115 = .ok (.iinc 5 1, 3) := by decide +kernel
theorem dX6_findCould_118 : decode cX6_findCould 118 = .ok (.goto (-95), 3) := by decide +kernel
theorem dX6_findCould_121 : decode cX6_findCould 121 = .ok (.iinc 4 1, 3) := by decide +kernel
theorem dX6_findCould_124 : decode cX6_findCould 124 = .ok (.goto (-111), 3) := by decide +kernel
theorem dX6_findCould_127 : decode cX6_findCould 127 = .ok (.return_, 1) := by decide +kernel
set_option maxRecDepth 20000 in
theorem ggX6_could_X6_isNote : GoodIn wsX6_could wsX6_isNote := goodIn_r _ [5, 6, 7, 4, 8] (by decide +kernel) (by decide +kernel)
set_option maxRecDepth 20000 in
theorem gX6_could_X6_isNote : GoodIn wsX6_could (va_wsS RX6 183 yX6_isNote wsX6_isNote) := goodIn_app (goodIn_of _ (by decide +kernel)) ggX6_could_X6_isNote
set_option maxRecDepth 20000 in
theorem ggX6_could_X6_findCould : GoodIn wsX6_could wsX6_findCould := goodIn_r _ [12, 1, 13, 14, 15, 16, 4, 17, 18, 19, 20, 21, 22, 6, 7, 8, 23, 24, 25, 26, 27, 28, 29, 30, 31, 32, 33, 34, 35, 36, 37, 38, 39, 40, 41, 42, 43, 44, 45, 46, 47, 48, 49, 50, 51, 52, 53, 54, 55, 56] (by decide +kernel) (by decide +kernel)
set_option maxRecDepth 20000 in
theorem gX6_could_X6_findCould : GoodIn wsX6_could (wsV RX6 203 RX6 yX6_findCould wsX6_findCould) := goodIn_app (goodIn_of _ (by decide +kernel)) ggX6_could_X6_findCould
theorem dX6_could_0 : decode cX6_could 0 = .ok (.iload_n 1, 1) := by decide +kernel
theorem dX6_could_1 : decode cX6_could 1 = .ok (.invokestatic 183, 3) := by decide +kernel
theorem dX6_could_4 : decode cX6_could 4 = .ok (.ifCond .ne 5, 3) := by decide +kernel
theorem dX6_could_7 : decode cX6_could 7 = .ok (.iconst (-1), 1) := by decide +kernel
theorem dX6_could_8 : decode cX6_could 8 = .ok (.ireturn, 1) := by decide +kernel
theorem dX6_could_9 : decode cX6_could 9 = .ok (.aload_n 0, 1) := by decide +kernel
theorem dX6_could_10 : decode cX6_could 10 = .ok (.iload_n 1, 1) := by decide +kernel
theorem dX6_could_11 : decode cX6_could 11 = .ok (.iconst 0, 1) := by decide +kernel
theorem dX6_could_12 : decode cX6_could 12 = .ok (.iconst 0, 1) := by decide +kernel
theorem dX6_could_13 : decode cX6_could 13 = .ok (.invokevirtual 203, 3) := by decide +kernel
theorem dX6_could_16 : decode cX6_could 16 = .ok (.aload_n 0, 1) := by decide +kernel
theorem dX6_could_17 : decode cX6_could 17 = .ok (.getfield 197, 3) := by decide +kernel
theorem dX6_could_20 : decode cX6_could 20 = .ok (.ireturn, 1) := by decide +kernel
set_option maxRecDepth 20000 in
theorem ggX6_must__X6_isNote : GoodIn wsX6_must_ wsX6_isNote := goodIn_r _ [6, 7, 8, 5, 9] (by decide +kernel) (by decide +kernel)
set_option maxRecDepth 20000 in
theorem gX6_must__X6_isNote : GoodIn wsX6_must_ (va_wsS RX6 183 yX6_isNote wsX6_isNote) := goodIn_app (goodIn_of _ (by decide +kernel)) ggX6_must__X6_isNote
set_option maxRecDepth 20000 in
theorem ggX6_must__X6_isDish : GoodIn wsX6_must_ wsX6_isDish := goodIn_r _ [13, 14, 7, 8, 5, 9, 35, 36, 37, 38, 39, 40, 41, 42, 43, 44, 45, 46, 47, 48, 49, 50, 51, 52, 53, 54, 55, 56, 57, 58, 59, 60, 61, 62, 63, 64] (by decide +kernel) (by decide +kernel)
set_option maxRecDepth 20000 in
theorem gX6_must__X6_isDish : GoodIn wsX6_must_ (wsV RX6 139 RX6 yX6_isDish wsX6_isDish) := goodIn_app (goodIn_of _ (by decide +kernel)) ggX6_must__X6_isDish
set_option maxRecDepth 20000 in
theorem ggX6_must__X6_isHour : GoodIn wsX6_must_ wsX6_isHour := goodIn_r _ [17, 7, 8, 5, 9] (by decide +kernel) (by decide +kernel)
set_option maxRecDepth 20000 in
theorem gX6_must__X6_isHour : GoodIn wsX6_must_ (va_wsS RX6 143 yX6_isHour wsX6_isHour) := goodIn_app (goodIn_of _ (by decide +kernel)) ggX6_must__X6_isHour
set_option maxRecDepth 20000 in
theorem ggX6_must__X6_looksOf : GoodIn wsX6_must_ wsX6_looksOf := goodIn_r _ [21, 22, 35, 36, 37, 38, 39, 40, 41, 42, 43, 44, 45, 46, 47, 48, 49, 50, 51, 52, 53, 54, 55, 56, 57, 58, 59, 60, 61, 62, 63, 64] (by decide +kernel) (by decide +kernel)
set_option maxRecDepth 20000 in
theorem gX6_must__X6_looksOf : GoodIn wsX6_must_ (wsV RX6 146 RX6 yX6_looksOf wsX6_looksOf) := goodIn_app (goodIn_of _ (by decide +kernel)) ggX6_must__X6_looksOf
set_option maxRecDepth 20000 in
theorem ggX6_must__X6_findCould : GoodIn wsX6_must_ wsX6_findCould := goodIn_r _ [26, 1, 2, 27, 28, 29, 5, 30, 22, 18, 19, 20, 21, 7, 8, 9, 31, 32, 33, 34, 35, 36, 37, 38, 39, 40, 41, 42, 43, 44, 45, 46, 47, 48, 49, 50, 51, 52, 53, 54, 55, 56, 57, 58, 59, 60, 61, 62, 63, 64] (by decide +kernel) (by decide +kernel)
set_option maxRecDepth 20000 in
theorem gX6_must__X6_findCould : GoodIn wsX6_must_ (wsV RX6 203 RX6 yX6_findCould wsX6_findCould) := goodIn_app (goodIn_of _ (by decide +kernel)) ggX6_must__X6_findCould
theorem dX6_must__0 : decode cX6_must_ 0 = .ok (.iload_n 1, 1) := by decide +kernel
theorem dX6_must__1 : decode cX6_must_ 1 = .ok (.invokestatic 183, 3) := by decide +kernel
theorem dX6_must__4 : decode cX6_must_ 4 = .ok (.ifCond .eq 18, 3) := by decide +kernel
theorem dX6_must__7 : decode cX6_must_ 7 = .ok (.aload_n 0, 1) := by decide +kernel
theorem dX6_must__8 : decode cX6_must_ 8 = .ok (.iload_n 2, 1) := by decide +kernel
theorem dX6_must__9 : decode cX6_must_ 9 = .ok (.invokevirtual 139, 3) := by decide +kernel
theorem dX6_must__12 : decode cX6_must_ 12 = .ok (.ifCond .eq 10, 3) := by decide +kernel
theorem dX6_must__15 : decode cX6_must_ 15 = .ok (.iload_n 3, 1) := by decide +kernel
theorem dX6_must__16 : decode cX6_must_ 16 = .ok (.invokestatic 143, 3) := by decide +kernel
theorem dX6_must__19 : decode cX6_must_ 19 = .ok (.ifCond .ne 5, 3) := by decide +kernel
theorem dX6_must__22 : decode cX6_must_ 22 = .ok (.iconst (-1), 1) := by decide +kernel
theorem dX6_must__23 : decode cX6_must_ 23 = .ok (.ireturn, 1) := by decide +kernel
theorem dX6_must__24 : decode cX6_must_ 24 = .ok (.aload_n 0, 1) := by decide +kernel
theorem dX6_must__25 : decode cX6_must_ 25 = .ok (.iload_n 1, 1) := by decide +kernel
theorem dX6_must__26 : decode cX6_must_ 26 = .ok (.aload_n 0, 1) := by decide +kernel
theorem dX6_must__27 : decode cX6_must_ 27 = .ok (.iload_n 2, 1) := by decide +kernel
theorem dX6_must__28 : decode cX6_must_ 28 = .ok (.iload_n 3, 1) := by decide +kernel
theorem dX6_must__29 : decode cX6_must_ 29 = .ok (.invokevirtual 146, 3) := by decide +kernel
theorem dX6_must__32 : decode cX6_must_ 32 = .ok (.iload_n 3, 1) := by decide +kernel
theorem dX6_must__33 : decode cX6_must_ 33 = .ok (.invokevirtual 203, 3) := by decide +kernel
theorem dX6_must__36 : decode cX6_must_ 36 = .ok (.aload_n 0, 1) := by decide +kernel
theorem dX6_must__37 : decode cX6_must_ 37 = .ok (.getfield 197, 3) := by decide +kernel
theorem dX6_must__40 : decode cX6_must_ 40 = .ok (.ifCond .ne 8, 3) := by decide +kernel
theorem dX6_must__43 : decode cX6_must_ 43 = .ok (.bipush (-9), 2) := by decide +kernel
theorem dX6_must__45 : decode cX6_must_ 45 = .ok (.goto 31, 3) := by decide +kernel
theorem dX6_must__48 : decode cX6_must_ 48 = .ok (.aload_n 0, 1) := by decide +kernel
theorem dX6_must__49 : decode cX6_must_ 49 = .ok (.getfield 200, 3) := by decide +kernel
theorem dX6_must__52 : decode cX6_must_ 52 = .ok (.aload_n 0, 1) := by decide +kernel
theorem dX6_must__53 : decode cX6_must_ 53 = .ok (.getfield 197, 3) := by decide +kernel
theorem dX6_must__56 : decode cX6_must_ 56 = .ok (.if_icmp .ne 7, 3) := by decide +kernel
theorem dX6_must__59 : decode cX6_must_ 59 = .ok (.iconst 1, 1) := by decide +kernel
theorem dX6_must__60 : decode cX6_must_ 60 = .ok (.goto 16, 3) := by decide +kernel
theorem dX6_must__63 : decode cX6_must_ 63 = .ok (.aload_n 0, 1) := by decide +kernel
theorem dX6_must__64 : decode cX6_must_ 64 = .ok (.getfield 200, 3) := by decide +kernel
theorem dX6_must__67 : decode cX6_must_ 67 = .ok (.ifCond .ne 7, 3) := by decide +kernel
theorem dX6_must__70 : decode cX6_must_ 70 = .ok (.iconst 0, 1) := by decide +kernel
theorem dX6_must__71 : decode cX6_must_ 71 = .ok (.goto 5, 3) := by decide +kernel
theorem dX6_must__74 : decode cX6_must_ 74 = .ok (.bipush (-5), 2) := by decide +kernel
theorem dX6_must__76 : decode cX6_must_ 76 = .ok (.ireturn, 1) := by decide +kernel
set_option maxRecDepth 20000 in
theorem ggX6_second_X6_isDish : GoodIn wsX6_second wsX6_isDish := goodIn_r _ [6, 1, 7, 8, 5, 9, 18, 19, 20, 21, 22, 23, 24, 25, 26, 27, 28, 29, 30, 31, 32, 33, 34, 35, 36, 37, 38, 39, 40, 41, 42, 43, 44, 45, 46, 47] (by decide +kernel) (by decide +kernel)
set_option maxRecDepth 20000 in
theorem gX6_second_X6_isDish : GoodIn wsX6_second (wsV RX6 139 RX6 yX6_isDish wsX6_isDish) := goodIn_app (goodIn_of _ (by decide +kernel)) ggX6_second_X6_isDish
set_option maxRecDepth 20000 in
theorem ggX6_second_X6_isHour : GoodIn wsX6_second wsX6_isHour := goodIn_r _ [12, 7, 8, 5, 9] (by decide +kernel) (by decide +kernel)
set_option maxRecDepth 20000 in
theorem gX6_second_X6_isHour : GoodIn wsX6_second (va_wsS RX6 143 yX6_isHour wsX6_isHour) := goodIn_app (goodIn_of _ (by decide +kernel)) ggX6_second_X6_isHour
set_option maxRecDepth 20000 in
theorem ggX6_second_X6_looksOf : GoodIn wsX6_second wsX6_looksOf := goodIn_r _ [16, 17, 18, 19, 20, 21, 22, 23, 24, 25, 26, 27, 28, 29, 30, 31, 32, 33, 34, 35, 36, 37, 38, 39, 40, 41, 42, 43, 44, 45, 46, 47] (by decide +kernel) (by decide +kernel)
set_option maxRecDepth 20000 in
theorem gX6_second_X6_looksOf : GoodIn wsX6_second (wsV RX6 146 RX6 yX6_looksOf wsX6_looksOf) := goodIn_app (goodIn_of _ (by decide +kernel)) ggX6_second_X6_looksOf
theorem dX6_second_0 : decode cX6_second 0 = .ok (.aload_n 0, 1) := by decide +kernel
theorem dX6_second_1 : decode cX6_second 1 = .ok (.iload_n 1, 1) := by decide +kernel
theorem dX6_second_2 : decode cX6_second 2 = .ok (.invokevirtual 139, 3) := by decide +kernel
theorem dX6_second_5 : decode cX6_second 5 = .ok (.ifCond .eq 10, 3) := by decide +kernel
theorem dX6_second_8 : decode cX6_second 8 = .ok (.iload_n 2, 1) := by decide +kernel
theorem dX6_second_9 : decode cX6_second 9 = .ok (.invokestatic 143, 3) := by decide +kernel
theorem dX6_second_12 : decode cX6_second 12 = .ok (.ifCond .ne 5, 3) := by decide +kernel
theorem dX6_second_15 : decode cX6_second 15 = .ok (.iconst (-1), 1) := by decide +kernel
theorem dX6_second_16 : decode cX6_second 16 = .ok (.ireturn, 1) := by decide +kernel
theorem dX6_second_17 : decode cX6_second 17 = .ok (.iconst 0, 1) := by decide +kernel
theorem dX6_second_18 : decode cX6_second 18 = .ok (.istore_n 3, 1) := by decide +kernel
theorem dX6_second_19 : decode cX6_second 19 = .ok (.iconst 0, 1) := by decide +kernel
theorem dX6_second_20 : decode cX6_second 20 = .ok (.istore 4, 2) := by decide +kernel
theorem dX6_second_22 : decode cX6_second 22 = .ok (.iload 4, 2) := by decide +kernel
theorem dX6_second_24 : decode cX6_second 24 = .ok (.aload_n 0, 1) := by decide +kernel
theorem dX6_second_25 : decode cX6_second 25 = .ok (.getfield 47, 3) := by decide +kernel
theorem dX6_second_28 : decode cX6_second 28 = .ok (.if_icmp .ge 76, 3) := by decide +kernel
theorem dX6_second_31 : decode cX6_second 31 = .ok (.iconst 0, 1) := by decide +kernel
theorem dX6_second_32 : decode cX6_second 32 = .ok (.istore 5, 2) := by decide +kernel
theorem dX6_second_34 : decode cX6_second 34 = .ok (.iload_n 2, 1) := by decide +kernel
theorem dX6_second_35 : decode cX6_second 35 = .ok (.istore 6, 2) := by decide +kernel
theorem dX6_second_37 : decode cX6_second 37 = .ok (.iload 6, 2) := by decide +kernel
theorem dX6_second_39 : decode cX6_second 39 = .ok (.bipush 24, 2) := by decide +kernel
theorem dX6_second_41 : decode cX6_second 41 = .ok (.if_icmp .ge 38, 3) := by decide +kernel
theorem dX6_second_44 : decode cX6_second 44 = .ok (.iload 5, 2) := by decide +kernel
theorem dX6_second_46 : decode cX6_second 46 = .ok (.ifCond .ne 20, 3) := by decide +kernel
theorem dX6_second_49 : decode cX6_second 49 = .ok (.aload_n 0, 1) := by decide +kernel
theorem dX6_second_50 : decode cX6_second 50 = .ok (.iload 4, 2) := by decide +kernel
theorem dX6_second_52 : decode cX6_second 52 = .ok (.iload 6, 2) := by decide +kernel
theorem dX6_second_54 : decode cX6_second 54 = .ok (.invokevirtual 146, 3) := by decide +kernel
theorem dX6_second_57 : decode cX6_second 57 = .ok (.aload_n 0, 1) := by decide +kernel
theorem dX6_second_58 : decode cX6_second 58 = .ok (.iload_n 1, 1) := by decide +kernel
theorem dX6_second_59 : decode cX6_second 59 = .ok (.iload_n 2, 1) := by decide +kernel
theorem dX6_second_60 : decode cX6_second 60 = .ok (.invokevirtual 146, 3) := by decide +kernel
theorem dX6_second_63 : decode cX6_second 63 = .ok (.if_icmp .ne 7, 3) := by decide +kernel
theorem dX6_second_66 : decode cX6_second 66 = .ok (.iconst 1, 1) := by decide +kernel
theorem dX6_second_67 : decode cX6_second 67 = .ok (.goto 4, 3) := by decide +kernel
theorem dX6_second_70 : decode cX6_second 70 = .ok (.iconst 0, 1) := by decide +kernel
theorem dX6_second_71 : decode cX6_second 71 = .ok (.istore 5, 2) := by decide +kernel
theorem dX6_second_73 : decode cX6_second 73 = .ok (.iinc 6 1, 3) := by decide +kernel
theorem dX6_second_76 : decode cX6_second 76 = .ok (.goto (-39), 3) := by decide +kernel
theorem dX6_second_79 : decode cX6_second 79 = .ok (.iload_n 3, 1) := by decide +kernel
theorem dX6_second_80 : decode cX6_second 80 = .ok (.iload 4, 2) := by decide +kernel
theorem dX6_second_82 : decode cX6_second 82 = .ok (.iload_n 1, 1) := by decide +kernel
theorem dX6_second_83 : decode cX6_second 83 = .ok (.if_icmp .eq 12, 3) := by decide +kernel
theorem dX6_second_86 : decode cX6_second 86 = .ok (.iload 5, 2) := by decide +kernel
theorem dX6_second_88 : decode cX6_second 88 = .ok (.ifCond .eq 7, 3) := by decide +kernel
theorem dX6_second_91 : decode cX6_second 91 = .ok (.iconst 1, 1) := by decide +kernel
theorem dX6_second_92 : decode cX6_second 92 = .ok (.goto 4, 3) := by decide +kernel
theorem dX6_second_95 : decode cX6_second 95 = .ok (.iconst 0, 1) := by decide +kernel
theorem dX6_second_96 : decode cX6_second 96 = .ok (.iadd, 1) := by decide +kernel
theorem dX6_second_97 : decode cX6_second 97 = .ok (.istore_n 3, 1) := by decide +kernel
theorem dX6_second_98 : decode cX6_second 98 = .ok (.iinc 4 1, 3) := by decide +kernel
theorem dX6_second_101 : decode cX6_second 101 = .ok (.goto (-79), 3) := by decide +kernel
theorem dX6_second_104 : decode cX6_second 104 = .ok (.iload_n 3, 1) := by decide +kernel
theorem dX6_second_105 : decode cX6_second 105 = .ok (.ireturn, 1) := by decide +kernel
theorem dX6_noteMark_0 : decode cX6_noteMark 0 = .ok (.aload_n 0, 1) := by decide +kernel
theorem dX6_noteMark_1 : decode cX6_noteMark 1 = .ok (.dup, 1) := by decide +kernel
theorem dX6_noteMark_2 : decode cX6_noteMark 2 = .ok (.getfield 207, 3) := by decide +kernel
theorem dX6_noteMark_5 : decode cX6_noteMark 5 = .ok (.lconst 1, 1) := by decide +kernel
theorem dX6_noteMark_6 : decode cX6_noteMark 6 = .ok (.ladd, 1) := by decide +kernel
theorem dX6_noteMark_7 : decode cX6_noteMark 7 = .ok (.putfield 207, 3) := by decide +kernel
theorem dX6_noteMark_10 : decode cX6_noteMark 10 = .ok (.iload_n 1, 1) := by decide +kernel
theorem dX6_noteMark_11 : decode cX6_noteMark 11 = .ok (.ireturn, 1) := by decide +kernel
set_option maxRecDepth 20000 in
theorem ggX6_voiceMark_X6_noteMark : GoodIn wsX6_voiceMark wsX6_noteMark := goodIn_r _ [9, 1, 10, 11, 12, 13, 14, 15, 16, 17, 18, 19, 20, 21, 22, 23, 24, 25, 26, 27, 28, 29, 30, 31, 32, 33, 34, 35, 36, 37, 38, 39] (by decide +kernel) (by decide +kernel)
set_option maxRecDepth 20000 in
theorem gX6_voiceMark_X6_noteMark : GoodIn wsX6_voiceMark (wsV RX6 212 RX6 yX6_noteMark wsX6_noteMark) := goodIn_app (goodIn_of _ (by decide +kernel)) ggX6_voiceMark_X6_noteMark
theorem dX6_voiceMark_0 : decode cX6_voiceMark 0 = .ok (.aload_n 0, 1) := by decide +kernel
theorem dX6_voiceMark_1 : decode cX6_voiceMark 1 = .ok (.dup, 1) := by decide +kernel
theorem dX6_voiceMark_2 : decode cX6_voiceMark 2 = .ok (.getfield 207, 3) := by decide +kernel
theorem dX6_voiceMark_5 : decode cX6_voiceMark 5 = .ok (.ldc2_w 210, 3) := by decide +kernel
theorem dX6_voiceMark_8 : decode cX6_voiceMark 8 = .ok (.ladd, 1) := by decide +kernel
theorem dX6_voiceMark_9 : decode cX6_voiceMark 9 = .ok (.putfield 207, 3) := by decide +kernel
theorem dX6_voiceMark_12 : decode cX6_voiceMark 12 = .ok (.iconst 0, 1) := by decide +kernel
theorem dX6_voiceMark_13 : decode cX6_voiceMark 13 = .ok (.istore_n 2, 1) := by decide +kernel
theorem dX6_voiceMark_14 : decode cX6_voiceMark 14 = .ok (.iconst 0, 1) := by decide +kernel
theorem dX6_voiceMark_15 : decode cX6_voiceMark 15 = .ok (.istore_n 3, 1) := by decide +kernel
theorem dX6_voiceMark_16 : decode cX6_voiceMark 16 = .ok (.iload_n 3, 1) := by decide +kernel
theorem dX6_voiceMark_17 : decode cX6_voiceMark 17 = .ok (.aload_n 0, 1) := by decide +kernel
theorem dX6_voiceMark_18 : decode cX6_voiceMark 18 = .ok (.getfield 133, 3) := by decide +kernel
theorem dX6_voiceMark_21 : decode cX6_voiceMark 21 = .ok (.if_icmp .ge 31, 3) := by decide +kernel
theorem dX6_voiceMark_24 : decode cX6_voiceMark 24 = .ok (.iload_n 2, 1) := by decide +kernel
theorem dX6_voiceMark_25 : decode cX6_voiceMark 25 = .ok (.aload_n 0, 1) := by decide +kernel
theorem dX6_voiceMark_26 : decode cX6_voiceMark 26 = .ok (.getfield 7, 3) := by decide +kernel
theorem dX6_voiceMark_29 : decode cX6_voiceMark 29 = .ok (.iconst 4, 1) := by decide +kernel
theorem dX6_voiceMark_30 : decode cX6_voiceMark 30 = .ok (.iload_n 3, 1) := by decide +kernel
theorem dX6_voiceMark_31 : decode cX6_voiceMark 31 = .ok (.imul, 1) := by decide +kernel
theorem dX6_voiceMark_32 : decode cX6_voiceMark 32 = .ok (.iconst 1, 1) := by decide +kernel
theorem dX6_voiceMark_33 : decode cX6_voiceMark 33 = .ok (.iadd, 1) := by decide +kernel
theorem dX6_voiceMark_34 : decode cX6_voiceMark 34 = .ok (.iaload, 1) := by decide +kernel
theorem dX6_voiceMark_35 : decode cX6_voiceMark 35 = .ok (.iload_n 1, 1) := by decide +kernel
theorem dX6_voiceMark_36 : decode cX6_voiceMark 36 = .ok (.if_icmp .ne 7, 3) := by decide +kernel
theorem dX6_voiceMark_39 : decode cX6_voiceMark 39 = .ok (.iconst 1, 1) := by decide +kernel
theorem dX6_voiceMark_40 : decode cX6_voiceMark 40 = .ok (.goto 4, 3) := by decide +kernel
theorem dX6_voiceMark_43 : decode cX6_voiceMark 43 = .ok (.iconst 0, 1) := by decide +kernel
theorem dX6_voiceMark_44 : decode cX6_voiceMark 44 = .ok (.iadd, 1) := by decide +kernel
theorem dX6_voiceMark_45 : decode cX6_voiceMark 45 = .ok (.istore_n 2, 1) := by decide +kernel
theorem dX6_voiceMark_46 : decode cX6_voiceMark 46 = .ok (.iinc 3 1, 3) := by decide +kernel
theorem dX6_voiceMark_49 : decode cX6_voiceMark 49 = .ok (.goto (-33), 3) := by decide +kernel
theorem dX6_voiceMark_52 : decode cX6_voiceMark 52 = .ok (.aload_n 0, 1) := by decide +kernel
theorem dX6_voiceMark_53 : decode cX6_voiceMark 53 = .ok (.iload_n 1, 1) := by decide +kernel
theorem dX6_voiceMark_54 : decode cX6_voiceMark 54 = .ok (.invokevirtual 212, 3) := by decide +kernel
theorem dX6_voiceMark_57 : decode cX6_voiceMark 57 = .ok (.iload_n 2, 1) := by decide +kernel
theorem dX6_voiceMark_58 : decode cX6_voiceMark 58 = .ok (.iadd, 1) := by decide +kernel
theorem dX6_voiceMark_59 : decode cX6_voiceMark 59 = .ok (.ireturn, 1) := by decide +kernel
set_option maxRecDepth 20000 in
theorem ggX6_humMark_X6_noteMark : GoodIn wsX6_humMark wsX6_noteMark := goodIn_r _ [9, 1, 10, 11, 12, 13, 14, 15, 16, 17, 18, 19, 20, 21, 22, 23, 24, 25, 26, 27, 28, 29, 30, 31, 32, 33, 34, 35, 36, 37, 38, 39] (by decide +kernel) (by decide +kernel)
set_option maxRecDepth 20000 in
theorem gX6_humMark_X6_noteMark : GoodIn wsX6_humMark (wsV RX6 212 RX6 yX6_noteMark wsX6_noteMark) := goodIn_app (goodIn_of _ (by decide +kernel)) ggX6_humMark_X6_noteMark
theorem dX6_humMark_0 : decode cX6_humMark 0 = .ok (.aload_n 0, 1) := by decide +kernel
theorem dX6_humMark_1 : decode cX6_humMark 1 = .ok (.dup, 1) := by decide +kernel
theorem dX6_humMark_2 : decode cX6_humMark 2 = .ok (.getfield 207, 3) := by decide +kernel
theorem dX6_humMark_5 : decode cX6_humMark 5 = .ok (.ldc2_w 215, 3) := by decide +kernel
theorem dX6_humMark_8 : decode cX6_humMark 8 = .ok (.ladd, 1) := by decide +kernel
theorem dX6_humMark_9 : decode cX6_humMark 9 = .ok (.putfield 207, 3) := by decide +kernel
theorem dX6_humMark_12 : decode cX6_humMark 12 = .ok (.iconst 0, 1) := by decide +kernel
theorem dX6_humMark_13 : decode cX6_humMark 13 = .ok (.istore_n 2, 1) := by decide +kernel
theorem dX6_humMark_14 : decode cX6_humMark 14 = .ok (.iconst 0, 1) := by decide +kernel
theorem dX6_humMark_15 : decode cX6_humMark 15 = .ok (.istore_n 3, 1) := by decide +kernel
theorem dX6_humMark_16 : decode cX6_humMark 16 = .ok (.iload_n 3, 1) := by decide +kernel
theorem dX6_humMark_17 : decode cX6_humMark 17 = .ok (.aload_n 0, 1) := by decide +kernel
theorem dX6_humMark_18 : decode cX6_humMark 18 = .ok (.getfield 136, 3) := by decide +kernel
theorem dX6_humMark_21 : decode cX6_humMark 21 = .ok (.if_icmp .ge 29, 3) := by decide +kernel
theorem dX6_humMark_24 : decode cX6_humMark 24 = .ok (.iload_n 2, 1) := by decide +kernel
theorem dX6_humMark_25 : decode cX6_humMark 25 = .ok (.aload_n 0, 1) := by decide +kernel
theorem dX6_humMark_26 : decode cX6_humMark 26 = .ok (.getfield 13, 3) := by decide +kernel
theorem dX6_humMark_29 : decode cX6_humMark 29 = .ok (.iconst 3, 1) := by decide +kernel
theorem dX6_humMark_30 : decode cX6_humMark 30 = .ok (.iload_n 3, 1) := by decide +kernel
theorem dX6_humMark_31 : decode cX6_humMark 31 = .ok (.imul, 1) := by decide +kernel
theorem dX6_humMark_32 : decode cX6_humMark 32 = .ok (.iaload, 1) := by decide +kernel
theorem dX6_humMark_33 : decode cX6_humMark 33 = .ok (.iload_n 1, 1) := by decide +kernel
theorem dX6_humMark_34 : decode cX6_humMark 34 = .ok (.if_icmp .ne 7, 3) := by decide +kernel
theorem dX6_humMark_37 : decode cX6_humMark 37 = .ok (.iconst 1, 1) := by decide +kernel
theorem dX6_humMark_38 : decode cX6_humMark 38 = .ok (.goto 4, 3) := by decide +kernel
theorem dX6_humMark_41 : decode cX6_humMark 41 = .ok (.iconst 0, 1) := by decide +kernel
theorem dX6_humMark_42 : decode cX6_humMark 42 = .ok (.iadd, 1) := by decide +kernel
theorem dX6_humMark_43 : decode cX6_humMark 43 = .ok (.istore_n 2, 1) := by decide +kernel
theorem dX6_humMark_44 : decode cX6_humMark 44 = .ok (.iinc 3 1, 3) := by decide +kernel
theorem dX6_humMark_47 : decode cX6_humMark 47 = .ok (.goto (-31), 3) := by decide +kernel
theorem dX6_humMark_50 : decode cX6_humMark 50 = .ok (.aload_n 0, 1) := by decide +kernel
theorem dX6_humMark_51 : decode cX6_humMark 51 = .ok (.iload_n 1, 1) := by decide +kernel
theorem dX6_humMark_52 : decode cX6_humMark 52 = .ok (.invokevirtual 212, 3) := by decide +kernel
theorem dX6_humMark_55 : decode cX6_humMark 55 = .ok (.iload_n 2, 1) := by decide +kernel
theorem dX6_humMark_56 : decode cX6_humMark 56 = .ok (.isub, 1) := by decide +kernel
theorem dX6_humMark_57 : decode cX6_humMark 57 = .ok (.ireturn, 1) := by decide +kernel
set_option maxRecDepth 20000 in
theorem ggX6_kettleMark_X6_humMark : GoodIn wsX6_kettleMark wsX6_humMark := goodIn_r _ [8, 1, 9, 10, 11, 12, 13, 14, 7, 15, 16, 17, 18, 19, 20, 21, 22, 23, 24, 25, 26, 27, 28, 29, 30, 31, 32, 33, 34, 35, 36, 37, 38, 39, 40, 41, 42, 43, 44, 45] (by decide +kernel) (by decide +kernel)
set_option maxRecDepth 20000 in
theorem gX6_kettleMark_X6_humMark : GoodIn wsX6_kettleMark (wsV RX6 219 RX6 yX6_humMark wsX6_humMark) := goodIn_app (goodIn_of _ (by decide +kernel)) ggX6_kettleMark_X6_humMark
theorem dX6_kettleMark_0 : decode cX6_kettleMark 0 = .ok (.aload_n 0, 1) := by decide +kernel
theorem dX6_kettleMark_1 : decode cX6_kettleMark 1 = .ok (.dup, 1) := by decide +kernel
theorem dX6_kettleMark_2 : decode cX6_kettleMark 2 = .ok (.getfield 207, 3) := by decide +kernel
theorem dX6_kettleMark_5 : decode cX6_kettleMark 5 = .ok (.ldc2_w 217, 3) := by decide +kernel
theorem dX6_kettleMark_8 : decode cX6_kettleMark 8 = .ok (.ladd, 1) := by decide +kernel
theorem dX6_kettleMark_9 : decode cX6_kettleMark 9 = .ok (.putfield 207, 3) := by decide +kernel
theorem dX6_kettleMark_12 : decode cX6_kettleMark 12 = .ok (.iconst 0, 1) := by decide +kernel
theorem dX6_kettleMark_13 : decode cX6_kettleMark 13 = .ok (.istore_n 2, 1) := by decide +kernel
theorem dX6_kettleMark_14 : decode cX6_kettleMark 14 = .ok (.iconst 0, 1) := by decide +kernel
theorem dX6_kettleMark_15 : decode cX6_kettleMark 15 = .ok (.istore_n 3, 1) := by decide +kernel
theorem dX6_kettleMark_16 : decode cX6_kettleMark 16 = .ok (.iload_n 3, 1) := by decide +kernel
theorem dX6_kettleMark_17 : decode cX6_kettleMark 17 = .ok (.aload_n 0, 1) := by decide +kernel
theorem dX6_kettleMark_18 : decode cX6_kettleMark 18 = .ok (.getfield 19, 3) := by decide +kernel
theorem dX6_kettleMark_21 : decode cX6_kettleMark 21 = .ok (.iconst 1, 1) := by decide +kernel
theorem dX6_kettleMark_22 : decode cX6_kettleMark 22 = .ok (.iaload, 1) := by decide +kernel
theorem dX6_kettleMark_23 : decode cX6_kettleMark 23 = .ok (.if_icmp .ge 46, 3) := by decide +kernel
theorem dX6_kettleMark_26 : decode cX6_kettleMark 26 = .ok (.iload_n 2, 1) := by decide +kernel
theorem dX6_kettleMark_27 : decode cX6_kettleMark 27 = .ok (.aload_n 0, 1) := by decide +kernel
theorem dX6_kettleMark_28 : decode cX6_kettleMark 28 = .ok (.getfield 19, 3) := by decide +kernel
theorem dX6_kettleMark_31 : decode cX6_kettleMark 31 = .ok (.bipush 44, 2) := by decide +kernel
theorem dX6_kettleMark_33 : decode cX6_kettleMark 33 = .ok (.iconst 4, 1) := by decide +kernel
theorem dX6_kettleMark_34 : decode cX6_kettleMark 34 = .ok (.iload_n 3, 1) := by decide +kernel
theorem dX6_kettleMark_35 : decode cX6_kettleMark 35 = .ok (.imul, 1) := by decide +kernel
theorem dX6_kettleMark_36 : decode cX6_kettleMark 36 = .ok (.iadd, 1) := by decide +kernel
theorem dX6_kettleMark_37 : decode cX6_kettleMark 37 = .ok (.iconst 2, 1) := by decide +kernel
theorem dX6_kettleMark_38 : decode cX6_kettleMark 38 = .ok (.iadd, 1) := by decide +kernel
theorem dX6_kettleMark_39 : decode cX6_kettleMark 39 = .ok (.iaload, 1) := by decide +kernel
theorem dX6_kettleMark_40 : decode cX6_kettleMark 40 = .ok (.iload_n 1, 1) := by decide +kernel
theorem dX6_kettleMark_41 : decode cX6_kettleMark 41 = .ok (.if_icmp .ne 19, 3) := by decide +kernel
theorem dX6_kettleMark_44 : decode cX6_kettleMark 44 = .ok (.aload_n 0, 1) := by decide +kernel
theorem dX6_kettleMark_45 : decode cX6_kettleMark 45 = .ok (.getfield 19, 3) := by decide +kernel
theorem dX6_kettleMark_48 : decode cX6_kettleMark 48 = .ok (.bipush 44, 2) := by decide +kernel
theorem dX6_kettleMark_50 : decode cX6_kettleMark 50 = .ok (.iconst 4, 1) := by decide +kernel
theorem dX6_kettleMark_51 : decode cX6_kettleMark 51 = .ok (.iload_n 3, 1) := by decide +kernel
theorem dX6_kettleMark_52 : decode cX6_kettleMark 52 = .ok (.imul, 1) := by decide +kernel
theorem dX6_kettleMark_53 : decode cX6_kettleMark 53 = .ok (.iadd, 1) := by decide +kernel
theorem dX6_kettleMark_54 : decode cX6_kettleMark 54 = .ok (.iconst 3, 1) := by decide +kernel
theorem dX6_kettleMark_55 : decode cX6_kettleMark 55 = .ok (.iadd, 1) := by decide +kernel
theorem dX6_kettleMark_56 : decode cX6_kettleMark 56 = .ok (.iaload, 1) := by decide +kernel
theorem dX6_kettleMark_57 : decode cX6_kettleMark 57 = .ok (.goto 4, 3) := by decide +kernel
theorem dX6_kettleMark_60 : decode cX6_kettleMark 60 = .ok (.iconst 0, 1) := by decide +kernel
theorem dX6_kettleMark_61 : decode cX6_kettleMark 61 = .ok (.iadd, 1) := by decide +kernel
theorem dX6_kettleMark_62 : decode cX6_kettleMark 62 = .ok (.istore_n 2, 1) := by decide +kernel
theorem dX6_kettleMark_63 : decode cX6_kettleMark 63 = .ok (.iinc 3 1, 3) := by decide +kernel
theorem dX6_kettleMark_66 : decode cX6_kettleMark 66 = .ok (.goto (-50), 3) := by decide +kernel
theorem dX6_kettleMark_69 : decode cX6_kettleMark 69 = .ok (.aload_n 0, 1) := by decide +kernel
theorem dX6_kettleMark_70 : decode cX6_kettleMark 70 = .ok (.iload_n 1, 1) := by decide +kernel
theorem dX6_kettleMark_71 : decode cX6_kettleMark 71 = .ok (.invokevirtual 219, 3) := by decide +kernel
theorem dX6_kettleMark_74 : decode cX6_kettleMark 74 = .ok (.iload_n 2, 1) := by decide +kernel
theorem dX6_kettleMark_75 : decode cX6_kettleMark 75 = .ok (.iadd, 1) := by decide +kernel
theorem dX6_kettleMark_76 : decode cX6_kettleMark 76 = .ok (.ireturn, 1) := by decide +kernel
set_option maxRecDepth 20000 in
theorem ggX6_mark_X6_in : GoodIn wsX6_mark wsX6_in := goodIn_r _ [9] (by decide +kernel) (by decide +kernel)
set_option maxRecDepth 20000 in
theorem gX6_mark_X6_in : GoodIn wsX6_mark (va_wsS RX6 51 yX6_in wsX6_in) := goodIn_app (goodIn_of _ (by decide +kernel)) ggX6_mark_X6_in
set_option maxRecDepth 20000 in
theorem ggX6_mark_X6_isNote : GoodIn wsX6_mark wsX6_isNote := goodIn_r _ [12, 6, 7, 8, 9] (by decide +kernel) (by decide +kernel)
set_option maxRecDepth 20000 in
theorem gX6_mark_X6_isNote : GoodIn wsX6_mark (va_wsS RX6 183 yX6_isNote wsX6_isNote) := goodIn_app (goodIn_of _ (by decide +kernel)) ggX6_mark_X6_isNote
set_option maxRecDepth 20000 in
theorem ggX6_mark_X6_noteMark : GoodIn wsX6_mark wsX6_noteMark := goodIn_r _ [16, 2, 37, 38, 39, 40, 41, 42, 43, 44, 45, 46, 47, 48, 49, 50, 51, 52, 53, 54, 55, 56, 57, 58, 59, 60, 61, 62, 63, 64, 65, 66] (by decide +kernel) (by decide +kernel)
set_option maxRecDepth 20000 in
theorem gX6_mark_X6_noteMark : GoodIn wsX6_mark (wsV RX6 212 RX6 yX6_noteMark wsX6_noteMark) := goodIn_app (goodIn_of _ (by decide +kernel)) ggX6_mark_X6_noteMark
set_option maxRecDepth 20000 in
theorem ggX6_mark_X6_voiceMark : GoodIn wsX6_mark wsX6_voiceMark := goodIn_r _ [20, 2, 21, 22, 23, 13, 14, 15, 8, 16, 37, 38, 39, 40, 41, 42, 43, 44, 45, 46, 47, 48, 49, 50, 51, 52, 53, 54, 55, 56, 57, 58, 59, 60, 61, 62, 63, 64, 65, 66] (by decide +kernel) (by decide +kernel)
set_option maxRecDepth 20000 in
theorem gX6_mark_X6_voiceMark : GoodIn wsX6_mark (wsV RX6 223 RX6 yX6_voiceMark wsX6_voiceMark) := goodIn_app (goodIn_of _ (by decide +kernel)) ggX6_mark_X6_voiceMark
set_option maxRecDepth 20000 in
theorem ggX6_mark_X6_humMark : GoodIn wsX6_mark wsX6_humMark := goodIn_r _ [27, 2, 28, 29, 30, 13, 14, 15, 8, 16, 37, 38, 39, 40, 41, 42, 43, 44, 45, 46, 47, 48, 49, 50, 51, 52, 53, 54, 55, 56, 57, 58, 59, 60, 61, 62, 63, 64, 65, 66] (by decide +kernel) (by decide +kernel)
set_option maxRecDepth 20000 in
theorem gX6_mark_X6_humMark : GoodIn wsX6_mark (wsV RX6 219 RX6 yX6_humMark wsX6_humMark) := goodIn_app (goodIn_of _ (by decide +kernel)) ggX6_mark_X6_humMark
set_option maxRecDepth 20000 in
theorem ggX6_mark_X6_kettleMark : GoodIn wsX6_mark wsX6_kettleMark := goodIn_r _ [34, 2, 35, 36, 24, 25, 26, 8, 27, 28, 29, 30, 13, 14, 15, 16, 37, 38, 39, 40, 41, 42, 43, 44, 45, 46, 47, 48, 49, 50, 51, 52, 53, 54, 55, 56, 57, 58, 59, 60, 61, 62, 63, 64, 65, 66] (by decide +kernel) (by decide +kernel)
set_option maxRecDepth 20000 in
theorem gX6_mark_X6_kettleMark : GoodIn wsX6_mark (wsV RX6 228 RX6 yX6_kettleMark wsX6_kettleMark) := goodIn_app (goodIn_of _ (by decide +kernel)) ggX6_mark_X6_kettleMark
theorem dX6_mark_0 : decode cX6_mark 0 = .ok (.iload_n 1, 1) := by decide +kernel
theorem dX6_mark_1 : decode cX6_mark 1 = .ok (.iconst 0, 1) := by decide +kernel
theorem dX6_mark_2 : decode cX6_mark 2 = .ok (.iconst 5, 1) := by decide +kernel
theorem dX6_mark_3 : decode cX6_mark 3 = .ok (.invokestatic 51, 3) := by decide +kernel
theorem dX6_mark_6 : decode cX6_mark 6 = .ok (.ifCond .eq 10, 3) := by decide +kernel
theorem dX6_mark_9 : decode cX6_mark 9 = .ok (.iload_n 2, 1) := by decide +kernel
theorem dX6_mark_10 : decode cX6_mark 10 = .ok (.invokestatic 183, 3) := by decide +kernel
theorem dX6_mark_13 : decode cX6_mark 13 = .ok (.ifCond .ne 6, 3) := by decide +kernel
theorem dX6_mark_16 : decode cX6_mark 16 = .ok (.ldc 222, 2) := by decide +kernel
theorem dX6_mark_18 : decode cX6_mark 18 = .ok (.ireturn, 1) := by decide +kernel
theorem dX6_mark_19 : decode cX6_mark 19 = .ok (.iload_n 1, 1) := by decide +kernel
theorem dX6_mark_20 : decode cX6_mark 20 = .ok (.tableswitch 80 0 4 #[36, 42, 48, 54, 74], 36) := by decide +kernel
theorem dX6_mark_56 : decode cX6_mark 56 = .ok (.aload_n 0, 1) := by decide +kernel
theorem dX6_mark_57 : decode cX6_mark 57 = .ok (.iload_n 2, 1) := by decide +kernel
theorem dX6_mark_58 : decode cX6_mark 58 = .ok (.invokevirtual 212, 3) := by decide +kernel
theorem dX6_mark_61 : decode cX6_mark 61 = .ok (.ireturn, 1) := by decide +kernel
theorem dX6_mark_62 : decode cX6_mark 62 = .ok (.aload_n 0, 1) := by decide +kernel
theorem dX6_mark_63 : decode cX6_mark 63 = .ok (.iload_n 2, 1) := by decide +kernel
theorem dX6_mark_64 : decode cX6_mark 64 = .ok (.invokevirtual 223, 3) := by decide +kernel
theorem dX6_mark_67 : decode cX6_mark 67 = .ok (.ireturn, 1) := by decide +kernel
theorem dX6_mark_68 : decode cX6_mark 68 = .ok (.aload_n 0, 1) := by decide +kernel
theorem dX6_mark_69 : decode cX6_mark 69 = .ok (.iload_n 2, 1) := by decide +kernel
theorem dX6_mark_70 : decode cX6_mark 70 = .ok (.invokevirtual 219, 3) := by decide +kernel
theorem dX6_mark_73 : decode cX6_mark 73 = .ok (.ireturn, 1) := by decide +kernel
theorem dX6_mark_74 : decode cX6_mark 74 = .ok (.aload_n 0, 1) := by decide +kernel
theorem dX6_mark_75 : decode cX6_mark 75 = .ok (.dup, 1) := by decide +kernel
theorem dX6_mark_76 : decode cX6_mark 76 = .ok (.getfield 207, 3) := by decide +kernel
theorem dX6_mark_79 : decode cX6_mark 79 = .ok (.ldc2_w 226, 3) := by decide +kernel
theorem dX6_mark_82 : decode cX6_mark 82 = .ok (.ladd, 1) := by decide +kernel
theorem dX6_mark_83 : decode cX6_mark 83 = .ok (.putfield 207, 3) := by decide +kernel
theorem dX6_mark_86 : decode cX6_mark 86 = .ok (.iconst 2, 1) := by decide +kernel
theorem dX6_mark_87 : decode cX6_mark 87 = .ok (.aload_n 0, 1) := by decide +kernel
theorem dX6_mark_88 : decode cX6_mark 88 = .ok (.iload_n 2, 1) := by decide +kernel
theorem dX6_mark_89 : decode cX6_mark 89 = .ok (.invokevirtual 223, 3) := by decide +kernel
theorem dX6_mark_92 : decode cX6_mark 92 = .ok (.imul, 1) := by decide +kernel
theorem dX6_mark_93 : decode cX6_mark 93 = .ok (.ireturn, 1) := by decide +kernel
theorem dX6_mark_94 : decode cX6_mark 94 = .ok (.aload_n 0, 1) := by decide +kernel
theorem dX6_mark_95 : decode cX6_mark 95 = .ok (.iload_n 2, 1) := by decide +kernel
theorem dX6_mark_96 : decode cX6_mark 96 = .ok (.invokevirtual 228, 3) := by decide +kernel
theorem dX6_mark_99 : decode cX6_mark 99 = .ok (.ireturn, 1) := by decide +kernel
theorem dX6_mark_100 : decode cX6_mark 100 = .ok (.aload_n 0, 1) := by decide +kernel
theorem dX6_mark_101 : decode cX6_mark 101 = .ok (.dup, 1) := by decide +kernel
theorem dX6_mark_102 : decode cX6_mark 102 = .ok (.getfield 207, 3) := by decide +kernel
theorem dX6_mark_105 : decode cX6_mark 105 = .ok (.ldc2_w 231, 3) := by decide +kernel
theorem dX6_mark_108 : decode cX6_mark 108 = .ok (.ladd, 1) := by decide +kernel
theorem dX6_mark_109 : decode cX6_mark 109 = .ok (.putfield 207, 3) := by decide +kernel
theorem dX6_mark_112 : decode cX6_mark 112 = .ok (.aload_n 0, 1) := by decide +kernel
theorem dX6_mark_113 : decode cX6_mark 113 = .ok (.iload_n 2, 1) := by decide +kernel
theorem dX6_mark_114 : decode cX6_mark 114 = .ok (.invokevirtual 212, 3) := by decide +kernel
theorem dX6_mark_117 : decode cX6_mark 117 = .ok (.aload_n 0, 1) := by decide +kernel
theorem dX6_mark_118 : decode cX6_mark 118 = .ok (.getfield 47, 3) := by decide +kernel
theorem dX6_mark_121 : decode cX6_mark 121 = .ok (.iadd, 1) := by decide +kernel
theorem dX6_mark_122 : decode cX6_mark 122 = .ok (.ireturn, 1) := by decide +kernel
set_option maxRecDepth 20000 in
theorem ggX6_keep_X6_in : GoodIn wsX6_keep wsX6_in := goodIn_r _ [7] (by decide +kernel) (by decide +kernel)
set_option maxRecDepth 20000 in
theorem gX6_keep_X6_in : GoodIn wsX6_keep (va_wsS RX6 51 yX6_in wsX6_in) := goodIn_app (goodIn_of _ (by decide +kernel)) ggX6_keep_X6_in
theorem dX6_keep_0 : decode cX6_keep 0 = .ok (.iload_n 1, 1) := by decide +kernel
theorem dX6_keep_1 : decode cX6_keep 1 = .ok (.iconst 0, 1) := by decide +kernel
theorem dX6_keep_2 : decode cX6_keep 2 = .ok (.iconst 1, 1) := by decide +kernel
theorem dX6_keep_3 : decode cX6_keep 3 = .ok (.invokestatic 51, 3) := by decide +kernel
theorem dX6_keep_6 : decode cX6_keep 6 = .ok (.ifCond .ne 5, 3) := by decide +kernel
theorem dX6_keep_9 : decode cX6_keep 9 = .ok (.iconst (-1), 1) := by decide +kernel
theorem dX6_keep_10 : decode cX6_keep 10 = .ok (.ireturn, 1) := by decide +kernel
theorem dX6_keep_11 : decode cX6_keep 11 = .ok (.iconst 0, 1) := by decide +kernel
theorem dX6_keep_12 : decode cX6_keep 12 = .ok (.istore_n 2, 1) := by decide +kernel
theorem dX6_keep_13 : decode cX6_keep 13 = .ok (.iload_n 2, 1) := by decide +kernel
theorem dX6_keep_14 : decode cX6_keep 14 = .ok (.bipush 104, 2) := by decide +kernel
theorem dX6_keep_16 : decode cX6_keep 16 = .ok (.if_icmp .ge 26, 3) := by decide +kernel
theorem dX6_keep_19 : decode cX6_keep 19 = .ok (.aload_n 0, 1) := by decide +kernel
theorem dX6_keep_20 : decode cX6_keep 20 = .ok (.getfield 22, 3) := by decide +kernel
theorem dX6_keep_23 : decode cX6_keep 23 = .ok (.bipush 104, 2) := by decide +kernel
theorem dX6_keep_25 : decode cX6_keep 25 = .ok (.iload_n 1, 1) := by decide +kernel
theorem dX6_keep_26 : decode cX6_keep 26 = .ok (.imul, 1) := by decide +kernel
theorem dX6_keep_27 : decode cX6_keep 27 = .ok (.iload_n 2, 1) := by decide +kernel
theorem dX6_keep_28 : decode cX6_keep 28 = .ok (.iadd, 1) := by decide +kernel
theorem dX6_keep_29 : decode cX6_keep 29 = .ok (.aload_n 0, 1) := by decide +kernel
theorem dX6_keep_30 : decode cX6_keep 30 = .ok (.getfield 19, 3) := by decide +kernel
theorem dX6_keep_33 : decode cX6_keep 33 = .ok (.iload_n 2, 1) := by decide +kernel
theorem dX6_keep_34 : decode cX6_keep 34 = .ok (.iaload, 1) := by decide +kernel
theorem dX6_keep_35 : decode cX6_keep 35 = .ok (.iastore, 1) := by decide +kernel
theorem dX6_keep_36 : decode cX6_keep 36 = .ok (.iinc 2 1, 3) := by decide +kernel
theorem dX6_keep_39 : decode cX6_keep 39 = .ok (.goto (-26), 3) := by decide +kernel
theorem dX6_keep_42 : decode cX6_keep 42 = .ok (.aload_n 0, 1) := by decide +kernel
theorem dX6_keep_43 : decode cX6_keep 43 = .ok (.getfield 25, 3) := by decide +kernel
theorem dX6_keep_46 : decode cX6_keep 46 = .ok (.iload_n 1, 1) := by decide +kernel
theorem dX6_keep_47 : decode cX6_keep 47 = .ok (.iconst 1, 1) := by decide +kernel
theorem dX6_keep_48 : decode cX6_keep 48 = .ok (.bastore, 1) := by decide +kernel
theorem dX6_keep_49 : decode cX6_keep 49 = .ok (.aload_n 0, 1) := by decide +kernel
theorem dX6_keep_50 : decode cX6_keep 50 = .ok (.getfield 19, 3) := by decide +kernel
theorem dX6_keep_53 : decode cX6_keep 53 = .ok (.iconst 0, 1) := by decide +kernel
theorem dX6_keep_54 : decode cX6_keep 54 = .ok (.iaload, 1) := by decide +kernel
theorem dX6_keep_55 : decode cX6_keep 55 = .ok (.ireturn, 1) := by decide +kernel
set_option maxRecDepth 20000 in
theorem ggX6_back_X6_in : GoodIn wsX6_back wsX6_in := goodIn_r _ [7] (by decide +kernel) (by decide +kernel)
set_option maxRecDepth 20000 in
theorem gX6_back_X6_in : GoodIn wsX6_back (va_wsS RX6 51 yX6_in wsX6_in) := goodIn_app (goodIn_of _ (by decide +kernel)) ggX6_back_X6_in
theorem dX6_back_0 : decode cX6_back 0 = .ok (.iload_n 1, 1) := by decide +kernel
theorem dX6_back_1 : decode cX6_back 1 = .ok (.iconst 0, 1) := by decide +kernel
theorem dX6_back_2 : decode cX6_back 2 = .ok (.iconst 1, 1) := by decide +kernel
theorem dX6_back_3 : decode cX6_back 3 = .ok (.invokestatic 51, 3) := by decide +kernel
theorem dX6_back_6 : decode cX6_back 6 = .ok (.ifCond .ne 5, 3) := by decide +kernel
theorem dX6_back_9 : decode cX6_back 9 = .ok (.iconst (-1), 1) := by decide +kernel
theorem dX6_back_10 : decode cX6_back 10 = .ok (.ireturn, 1) := by decide +kernel
theorem dX6_back_11 : decode cX6_back 11 = .ok (.aload_n 0, 1) := by decide +kernel
theorem dX6_back_12 : decode cX6_back 12 = .ok (.getfield 25, 3) := by decide +kernel
theorem dX6_back_15 : decode cX6_back 15 = .ok (.iload_n 1, 1) := by decide +kernel
theorem dX6_back_16 : decode cX6_back 16 = .ok (.baload, 1) := by decide +kernel
theorem dX6_back_17 : decode cX6_back 17 = .ok (.ifCond .ne 6, 3) := by decide +kernel
theorem dX6_back_20 : decode cX6_back 20 = .ok (.bipush (-2), 2) := by decide +kernel
theorem dX6_back_22 : decode cX6_back 22 = .ok (.ireturn, 1) := by decide +kernel
theorem dX6_back_23 : decode cX6_back 23 = .ok (.iconst 0, 1) := by decide +kernel
theorem dX6_back_24 : decode cX6_back 24 = .ok (.istore_n 2, 1) := by decide +kernel
theorem dX6_back_25 : decode cX6_back 25 = .ok (.iload_n 2, 1) := by decide +kernel
theorem dX6_back_26 : decode cX6_back 26 = .ok (.bipush 104, 2) := by decide +kernel
theorem dX6_back_28 : decode cX6_back 28 = .ok (.if_icmp .ge 26, 3) := by decide +kernel
theorem dX6_back_31 : decode cX6_back 31 = .ok (.aload_n 0, 1) := by decide +kernel
theorem dX6_back_32 : decode cX6_back 32 = .ok (.getfield 19, 3) := by decide +kernel
theorem dX6_back_35 : decode cX6_back 35 = .ok (.iload_n 2, 1) := by decide +kernel
theorem dX6_back_36 : decode cX6_back 36 = .ok (.aload_n 0, 1) := by decide +kernel
theorem dX6_back_37 : decode cX6_back 37 = .ok (.getfield 22, 3) := by decide +kernel
theorem dX6_back_40 : decode cX6_back 40 = .ok (.bipush 104, 2) := by decide +kernel
theorem dX6_back_42 : decode cX6_back 42 = .ok (.iload_n 1, 1) := by decide +kernel
theorem dX6_back_43 : decode cX6_back 43 = .ok (.imul, 1) := by decide +kernel
theorem dX6_back_44 : decode cX6_back 44 = .ok (.iload_n 2, 1) := by decide +kernel
theorem dX6_back_45 : decode cX6_back 45 = .ok (.iadd, 1) := by decide +kernel
theorem dX6_back_46 : decode cX6_back 46 = .ok (.iaload, 1) := by decide +kernel
theorem dX6_back_47 : decode cX6_back 47 = .ok (.iastore, 1) := by decide +kernel
theorem dX6_back_48 : decode cX6_back 48 = .ok (.iinc 2 1, 3) := by decide +kernel
theorem dX6_back_51 : decode cX6_back 51 = .ok (.goto (-26), 3) := by decide +kernel
theorem dX6_back_54 : decode cX6_back 54 = .ok (.aload_n 0, 1) := by decide +kernel
theorem dX6_back_55 : decode cX6_back 55 = .ok (.getfield 19, 3) := by decide +kernel
theorem dX6_back_58 : decode cX6_back 58 = .ok (.iconst 0, 1) := by decide +kernel
theorem dX6_back_59 : decode cX6_back 59 = .ok (.iaload, 1) := by decide +kernel
theorem dX6_back_60 : decode cX6_back 60 = .ok (.ireturn, 1) := by decide +kernel
theorem dX6_count_0 : decode cX6_count 0 = .ok (.iload_n 1, 1) := by decide +kernel
theorem dX6_count_1 : decode cX6_count 1 = .ok (.tableswitch 93 0 7 #[47, 52, 57, 62, 67, 74, 81, 88], 47) := by decide +kernel
theorem dX6_count_48 : decode cX6_count 48 = .ok (.aload_n 0, 1) := by decide +kernel
theorem dX6_count_49 : decode cX6_count 49 = .ok (.getfield 47, 3) := by decide +kernel
theorem dX6_count_52 : decode cX6_count 52 = .ok (.ireturn, 1) := by decide +kernel
theorem dX6_count_53 : decode cX6_count 53 = .ok (.aload_n 0, 1) := by decide +kernel
theorem dX6_count_54 : decode cX6_count 54 = .ok (.getfield 133, 3) := by decide +kernel
theorem dX6_count_57 : decode cX6_count 57 = .ok (.ireturn, 1) := by decide +kernel
theorem dX6_count_58 : decode cX6_count 58 = .ok (.aload_n 0, 1) := by decide +kernel
theorem dX6_count_59 : decode cX6_count 59 = .ok (.getfield 136, 3) := by decide +kernel
theorem dX6_count_62 : decode cX6_count 62 = .ok (.ireturn, 1) := by decide +kernel
theorem dX6_count_63 : decode cX6_count 63 = .ok (.aload_n 0, 1) := by decide +kernel
theorem dX6_count_64 : decode cX6_count 64 = .ok (.getfield 55, 3) := by decide +kernel
theorem dX6_count_67 : decode cX6_count 67 = .ok (.ireturn, 1) := by decide +kernel
theorem dX6_count_68 : decode cX6_count 68 = .ok (.aload_n 0, 1) := by decide +kernel
theorem dX6_count_69 : decode cX6_count 69 = .ok (.getfield 19, 3) := by decide +kernel
theorem dX6_count_72 : decode cX6_count 72 = .ok (.iconst 0, 1) := by decide +kernel
theorem dX6_count_73 : decode cX6_count 73 = .ok (.iaload, 1) := by decide +kernel
theorem dX6_count_74 : decode cX6_count 74 = .ok (.ireturn, 1) := by decide +kernel
theorem dX6_count_75 : decode cX6_count 75 = .ok (.aload_n 0, 1) := by decide +kernel
theorem dX6_count_76 : decode cX6_count 76 = .ok (.getfield 19, 3) := by decide +kernel
theorem dX6_count_79 : decode cX6_count 79 = .ok (.iconst 1, 1) := by decide +kernel
theorem dX6_count_80 : decode cX6_count 80 = .ok (.iaload, 1) := by decide +kernel
theorem dX6_count_81 : decode cX6_count 81 = .ok (.ireturn, 1) := by decide +kernel
theorem dX6_count_82 : decode cX6_count 82 = .ok (.aload_n 0, 1) := by decide +kernel
theorem dX6_count_83 : decode cX6_count 83 = .ok (.getfield 19, 3) := by decide +kernel
theorem dX6_count_86 : decode cX6_count 86 = .ok (.iconst 2, 1) := by decide +kernel
theorem dX6_count_87 : decode cX6_count 87 = .ok (.iaload, 1) := by decide +kernel
theorem dX6_count_88 : decode cX6_count 88 = .ok (.ireturn, 1) := by decide +kernel
theorem dX6_count_89 : decode cX6_count 89 = .ok (.aload_n 0, 1) := by decide +kernel
theorem dX6_count_90 : decode cX6_count 90 = .ok (.getfield 58, 3) := by decide +kernel
theorem dX6_count_93 : decode cX6_count 93 = .ok (.ireturn, 1) := by decide +kernel
theorem dX6_count_94 : decode cX6_count 94 = .ok (.iconst (-1), 1) := by decide +kernel
theorem dX6_count_95 : decode cX6_count 95 = .ok (.ireturn, 1) := by decide +kernel
theorem dX6_trace_0 : decode cX6_trace 0 = .ok (.aload_n 0, 1) := by decide +kernel
theorem dX6_trace_1 : decode cX6_trace 1 = .ok (.getfield 207, 3) := by decide +kernel
theorem dX6_trace_4 : decode cX6_trace 4 = .ok (.lreturn, 1) := by decide +kernel
theorem dJ6_bitCount_0f7a4_0 : decode cJ6_bitCount_0f7a4 0 = .ok (.iload_n 0, 1) := by decide +kernel
theorem dJ6_bitCount_0f7a4_1 : decode cJ6_bitCount_0f7a4 1 = .ok (.iload_n 0, 1) := by decide +kernel
theorem dJ6_bitCount_0f7a4_2 : decode cJ6_bitCount_0f7a4 2 = .ok (.iconst 1, 1) := by decide +kernel
theorem dJ6_bitCount_0f7a4_3 : decode cJ6_bitCount_0f7a4 3 = .ok (.iushr, 1) := by decide +kernel
theorem dJ6_bitCount_0f7a4_4 : decode cJ6_bitCount_0f7a4 4 = .ok (.ldc_w 265, 3) := by decide +kernel
theorem dJ6_bitCount_0f7a4_7 : decode cJ6_bitCount_0f7a4 7 = .ok (.iand, 1) := by decide +kernel
theorem dJ6_bitCount_0f7a4_8 : decode cJ6_bitCount_0f7a4 8 = .ok (.isub, 1) := by decide +kernel
theorem dJ6_bitCount_0f7a4_9 : decode cJ6_bitCount_0f7a4 9 = .ok (.istore_n 0, 1) := by decide +kernel
theorem dJ6_bitCount_0f7a4_10 : decode cJ6_bitCount_0f7a4 10 = .ok (.iload_n 0, 1) := by decide +kernel
theorem dJ6_bitCount_0f7a4_11 : decode cJ6_bitCount_0f7a4 11 = .ok (.ldc_w 266, 3) := by decide +kernel
theorem dJ6_bitCount_0f7a4_14 : decode cJ6_bitCount_0f7a4 14 = .ok (.iand, 1) := by decide +kernel
theorem dJ6_bitCount_0f7a4_15 : decode cJ6_bitCount_0f7a4 15 = .ok (.iload_n 0, 1) := by decide +kernel
theorem dJ6_bitCount_0f7a4_16 : decode cJ6_bitCount_0f7a4 16 = .ok (.iconst 2, 1) := by decide +kernel
theorem dJ6_bitCount_0f7a4_17 : decode cJ6_bitCount_0f7a4 17 = .ok (.iushr, 1) := by decide +kernel
theorem dJ6_bitCount_0f7a4_18 : decode cJ6_bitCount_0f7a4 18 = .ok (.ldc_w 266, 3) := by decide +kernel
theorem dJ6_bitCount_0f7a4_21 : decode cJ6_bitCount_0f7a4 21 = .ok (.iand, 1) := by decide +kernel
theorem dJ6_bitCount_0f7a4_22 : decode cJ6_bitCount_0f7a4 22 = .ok (.iadd, 1) := by decide +kernel
theorem dJ6_bitCount_0f7a4_23 : decode cJ6_bitCount_0f7a4 23 = .ok (.istore_n 0, 1) := by decide +kernel
theorem dJ6_bitCount_0f7a4_24 : decode cJ6_bitCount_0f7a4 24 = .ok (.iload_n 0, 1) := by decide +kernel
theorem dJ6_bitCount_0f7a4_25 : decode cJ6_bitCount_0f7a4 25 = .ok (.iload_n 0, 1) := by decide +kernel
theorem dJ6_bitCount_0f7a4_26 : decode cJ6_bitCount_0f7a4 26 = .ok (.iconst 4, 1) := by decide +kernel
theorem dJ6_bitCount_0f7a4_27 : decode cJ6_bitCount_0f7a4 27 = .ok (.iushr, 1) := by decide +kernel
theorem dJ6_bitCount_0f7a4_28 : decode cJ6_bitCount_0f7a4 28 = .ok (.iadd, 1) := by decide +kernel
theorem dJ6_bitCount_0f7a4_29 : decode cJ6_bitCount_0f7a4 29 = .ok (.ldc_w 267, 3) := by decide +kernel
theorem dJ6_bitCount_0f7a4_32 : decode cJ6_bitCount_0f7a4 32 = .ok (.iand, 1) := by decide +kernel
theorem dJ6_bitCount_0f7a4_33 : decode cJ6_bitCount_0f7a4 33 = .ok (.istore_n 0, 1) := by decide +kernel
theorem dJ6_bitCount_0f7a4_34 : decode cJ6_bitCount_0f7a4 34 = .ok (.iload_n 0, 1) := by decide +kernel
theorem dJ6_bitCount_0f7a4_35 : decode cJ6_bitCount_0f7a4 35 = .ok (.iload_n 0, 1) := by decide +kernel
theorem dJ6_bitCount_0f7a4_36 : decode cJ6_bitCount_0f7a4 36 = .ok (.bipush 8, 2) := by decide +kernel
theorem dJ6_bitCount_0f7a4_38 : decode cJ6_bitCount_0f7a4 38 = .ok (.iushr, 1) := by decide +kernel
theorem dJ6_bitCount_0f7a4_39 : decode cJ6_bitCount_0f7a4 39 = .ok (.iadd, 1) := by decide +kernel
theorem dJ6_bitCount_0f7a4_40 : decode cJ6_bitCount_0f7a4 40 = .ok (.istore_n 0, 1) := by decide +kernel
theorem dJ6_bitCount_0f7a4_41 : decode cJ6_bitCount_0f7a4 41 = .ok (.iload_n 0, 1) := by decide +kernel
theorem dJ6_bitCount_0f7a4_42 : decode cJ6_bitCount_0f7a4 42 = .ok (.iload_n 0, 1) := by decide +kernel
theorem dJ6_bitCount_0f7a4_43 : decode cJ6_bitCount_0f7a4 43 = .ok (.bipush 16, 2) := by decide +kernel
theorem dJ6_bitCount_0f7a4_45 : decode cJ6_bitCount_0f7a4 45 = .ok (.iushr, 1) := by decide +kernel
theorem dJ6_bitCount_0f7a4_46 : decode cJ6_bitCount_0f7a4 46 = .ok (.iadd, 1) := by decide +kernel
theorem dJ6_bitCount_0f7a4_47 : decode cJ6_bitCount_0f7a4 47 = .ok (.istore_n 0, 1) := by decide +kernel
theorem dJ6_bitCount_0f7a4_48 : decode cJ6_bitCount_0f7a4 48 = .ok (.iload_n 0, 1) := by decide +kernel
theorem dJ6_bitCount_0f7a4_49 : decode cJ6_bitCount_0f7a4 49 = .ok (.bipush 63, 2) := by decide +kernel
theorem dJ6_bitCount_0f7a4_51 : decode cJ6_bitCount_0f7a4 51 = .ok (.iand, 1) := by decide +kernel
theorem dJ6_bitCount_0f7a4_52 : decode cJ6_bitCount_0f7a4 52 = .ok (.ireturn, 1) := by decide +kernel
theorem dJ9_floorMod_7cf53_0 : decode cJ9_floorMod_7cf53 0 = .ok (.iload_n 0, 1) := by decide +kernel
theorem dJ9_floorMod_7cf53_1 : decode cJ9_floorMod_7cf53 1 = .ok (.iload_n 1, 1) := by decide +kernel
theorem dJ9_floorMod_7cf53_2 : decode cJ9_floorMod_7cf53 2 = .ok (.irem, 1) := by decide +kernel
theorem dJ9_floorMod_7cf53_3 : decode cJ9_floorMod_7cf53 3 = .ok (.istore_n 2, 1) := by decide +kernel
theorem dJ9_floorMod_7cf53_4 : decode cJ9_floorMod_7cf53 4 = .ok (.iload_n 0, 1) := by decide +kernel
theorem dJ9_floorMod_7cf53_5 : decode cJ9_floorMod_7cf53 5 = .ok (.iload_n 1, 1) := by decide +kernel
theorem dJ9_floorMod_7cf53_6 : decode cJ9_floorMod_7cf53 6 = .ok (.ixor, 1) := by decide +kernel
theorem dJ9_floorMod_7cf53_7 : decode cJ9_floorMod_7cf53 7 = .ok (.ifCond .ge 11, 3) := by decide +kernel
theorem dJ9_floorMod_7cf53_10 : decode cJ9_floorMod_7cf53 10 = .ok (.iload_n 2, 1) := by decide +kernel
theorem dJ9_floorMod_7cf53_11 : decode cJ9_floorMod_7cf53 11 = .ok (.ifCond .eq 7, 3) := by decide +kernel
theorem dJ9_floorMod_7cf53_14 : decode cJ9_floorMod_7cf53 14 = .ok (.iload_n 2, 1) := by decide +kernel
theorem dJ9_floorMod_7cf53_15 : decode cJ9_floorMod_7cf53 15 = .ok (.iload_n 1, 1) := by decide +kernel
theorem dJ9_floorMod_7cf53_16 : decode cJ9_floorMod_7cf53 16 = .ok (.iadd, 1) := by decide +kernel
theorem dJ9_floorMod_7cf53_17 : decode cJ9_floorMod_7cf53 17 = .ok (.ireturn, 1) := by decide +kernel
theorem dJ9_floorMod_7cf53_18 : decode cJ9_floorMod_7cf53 18 = .ok (.iload_n 2, 1) := by decide +kernel
theorem dJ9_floorMod_7cf53_19 : decode cJ9_floorMod_7cf53 19 = .ok (.ireturn, 1) := by decide +kernel
theorem dJ9_max_7cf53_0 : decode cJ9_max_7cf53 0 = .ok (.iload_n 0, 1) := by decide +kernel
theorem dJ9_max_7cf53_1 : decode cJ9_max_7cf53 1 = .ok (.iload_n 1, 1) := by decide +kernel
theorem dJ9_max_7cf53_2 : decode cJ9_max_7cf53 2 = .ok (.if_icmp .lt 7, 3) := by decide +kernel
theorem dJ9_max_7cf53_5 : decode cJ9_max_7cf53 5 = .ok (.iload_n 0, 1) := by decide +kernel
theorem dJ9_max_7cf53_6 : decode cJ9_max_7cf53 6 = .ok (.goto 4, 3) := by decide +kernel
theorem dJ9_max_7cf53_9 : decode cJ9_max_7cf53 9 = .ok (.iload_n 1, 1) := by decide +kernel
theorem dJ9_max_7cf53_10 : decode cJ9_max_7cf53 10 = .ok (.ireturn, 1) := by decide +kernel
theorem dJ9_min_7cf53_0 : decode cJ9_min_7cf53 0 = .ok (.iload_n 0, 1) := by decide +kernel
theorem dJ9_min_7cf53_1 : decode cJ9_min_7cf53 1 = .ok (.iload_n 1, 1) := by decide +kernel
theorem dJ9_min_7cf53_2 : decode cJ9_min_7cf53 2 = .ok (.if_icmp .gt 7, 3) := by decide +kernel
theorem dJ9_min_7cf53_5 : decode cJ9_min_7cf53 5 = .ok (.iload_n 0, 1) := by decide +kernel
theorem dJ9_min_7cf53_6 : decode cJ9_min_7cf53 6 = .ok (.goto 4, 3) := by decide +kernel
theorem dJ9_min_7cf53_9 : decode cJ9_min_7cf53 9 = .ok (.iload_n 1, 1) := by decide +kernel
theorem dJ9_min_7cf53_10 : decode cJ9_min_7cf53 10 = .ok (.ireturn, 1) := by decide +kernel
set_option maxRecDepth 20000 in
theorem ggJ0_length_8abf5_J0_coder_7d493 : GoodIn wsJ0_length_8abf5 wsJ0_coder_7d493 := goodIn_r _ [6, 7, 8] (by decide +kernel) (by decide +kernel)
set_option maxRecDepth 20000 in
theorem gJ0_length_8abf5_J0_coder_7d493 : GoodIn wsJ0_length_8abf5 (wsV RJ0 335 RJ0 yJ0_coder_7d493 wsJ0_coder_7d493) := goodIn_app (goodIn_of _ (by decide +kernel)) ggJ0_length_8abf5_J0_coder_7d493
theorem dJ0_length_8abf5_0 : decode cJ0_length_8abf5 0 = .ok (.aload_n 0, 1) := by decide +kernel
theorem dJ0_length_8abf5_1 : decode cJ0_length_8abf5 1 = .ok (.getfield 9, 3) := by decide +kernel
theorem dJ0_length_8abf5_4 : decode cJ0_length_8abf5 4 = .ok (.arraylength, 1) := by decide +kernel
theorem dJ0_length_8abf5_5 : decode cJ0_length_8abf5 5 = .ok (.aload_n 0, 1) := by decide +kernel
theorem dJ0_length_8abf5_6 : decode cJ0_length_8abf5 6 = .ok (.invokevirtual 335, 3) := by decide +kernel
theorem dJ0_length_8abf5_9 : decode cJ0_length_8abf5 9 = .ok (.ishr, 1) := by decide +kernel
theorem dJ0_length_8abf5_10 : decode cJ0_length_8abf5 10 = .ok (.ireturn, 1) := by decide +kernel
set_option maxRecDepth 20000 in
theorem ggJ0_charAt_5068e_J0_isLatin1_aae02 : GoodIn wsJ0_charAt_5068e wsJ0_isLatin1_aae02 := goodIn_r _ [6, 7, 8] (by decide +kernel) (by decide +kernel)
set_option maxRecDepth 20000 in
theorem gJ0_charAt_5068e_J0_isLatin1_aae02 : GoodIn wsJ0_charAt_5068e (wsV RJ0 492 RJ0 yJ0_isLatin1_aae02 wsJ0_isLatin1_aae02) := goodIn_app (goodIn_of _ (by decide +kernel)) ggJ0_charAt_5068e_J0_isLatin1_aae02
set_option maxRecDepth 20000 in
theorem ggJ0_charAt_5068e_J1_charAt_3b067 : GoodIn wsJ0_charAt_5068e wsJ1_charAt_3b067 := goodIn_r _ [12, 13, 14, 5, 15, 16, 17, 18, 19, 20] (by decide +kernel) (by decide +kernel)
set_option maxRecDepth 20000 in
theorem gJ0_charAt_5068e_J1_charAt_3b067 : GoodIn wsJ0_charAt_5068e (va_wsS RJ0 495 yJ1_charAt_3b067 wsJ1_charAt_3b067) := goodIn_app (goodIn_of _ (by decide +kernel)) ggJ0_charAt_5068e_J1_charAt_3b067
set_option maxRecDepth 20000 in
theorem ggJ0_charAt_5068e_J2_charAt_3b067 : GoodIn wsJ0_charAt_5068e wsJ2_charAt_3b067 := goodIn_r _ [24, 25, 26, 23, 27, 28, 29, 30, 31, 14, 5, 15, 16, 17, 18, 19, 20, 32, 33, 34, 35, 36, 37] (by decide +kernel) (by decide +kernel)
set_option maxRecDepth 20000 in
theorem gJ0_charAt_5068e_J2_charAt_3b067 : GoodIn wsJ0_charAt_5068e (va_wsS RJ0 498 yJ2_charAt_3b067 wsJ2_charAt_3b067) := goodIn_app (goodIn_of _ (by decide +kernel)) ggJ0_charAt_5068e_J2_charAt_3b067
theorem dJ0_charAt_5068e_0 : decode cJ0_charAt_5068e 0 = .ok (.aload_n 0, 1) := by decide +kernel
theorem dJ0_charAt_5068e_1 : decode cJ0_charAt_5068e 1 = .ok (.invokevirtual 492, 3) := by decide +kernel
theorem dJ0_charAt_5068e_4 : decode cJ0_charAt_5068e 4 = .ok (.ifCond .eq 12, 3) := by decide +kernel
theorem dJ0_charAt_5068e_7 : decode cJ0_charAt_5068e 7 = .ok (.aload_n 0, 1) := by decide +kernel
theorem dJ0_charAt_5068e_8 : decode cJ0_charAt_5068e 8 = .ok (.getfield 9, 3) := by decide +kernel
theorem dJ0_charAt_5068e_11 : decode cJ0_charAt_5068e 11 = .ok (.iload_n 1, 1) := by decide +kernel
theorem dJ0_charAt_5068e_12 : decode cJ0_charAt_5068e 12 = .ok (.invokestatic 495, 3) := by decide +kernel
theorem dJ0_charAt_5068e_15 : decode cJ0_charAt_5068e 15 = .ok (.ireturn, 1) := by decide +kernel
theorem dJ0_charAt_5068e_16 : decode cJ0_charAt_5068e 16 = .ok (.aload_n 0, 1) := by decide +kernel
theorem dJ0_charAt_5068e_17 : decode cJ0_charAt_5068e 17 = .ok (.getfield 9, 3) := by decide +kernel
theorem dJ0_charAt_5068e_20 : decode cJ0_charAt_5068e 20 = .ok (.iload_n 1, 1) := by decide +kernel
theorem dJ0_charAt_5068e_21 : decode cJ0_charAt_5068e 21 = .ok (.invokestatic 498, 3) := by decide +kernel
theorem dJ0_charAt_5068e_24 : decode cJ0_charAt_5068e 24 = .ok (.ireturn, 1) := by decide +kernel
theorem dJ0_coder_7d493_0 : decode cJ0_coder_7d493 0 = .ok (.getstatic 38, 3) := by decide +kernel
theorem dJ0_coder_7d493_3 : decode cJ0_coder_7d493 3 = .ok (.ifCond .eq 10, 3) := by decide +kernel
theorem dJ0_coder_7d493_6 : decode cJ0_coder_7d493 6 = .ok (.aload_n 0, 1) := by decide +kernel
theorem dJ0_coder_7d493_7 : decode cJ0_coder_7d493 7 = .ok (.getfield 15, 3) := by decide +kernel
theorem dJ0_coder_7d493_10 : decode cJ0_coder_7d493 10 = .ok (.goto 4, 3) := by decide +kernel
theorem dJ0_coder_7d493_13 : decode cJ0_coder_7d493 13 = .ok (.iconst 1, 1) := by decide +kernel
theorem dJ0_coder_7d493_14 : decode cJ0_coder_7d493 14 = .ok (.ireturn, 1) := by decide +kernel
theorem dJ0_isLatin1_aae02_0 : decode cJ0_isLatin1_aae02 0 = .ok (.getstatic 38, 3) := by decide +kernel
theorem dJ0_isLatin1_aae02_3 : decode cJ0_isLatin1_aae02 3 = .ok (.ifCond .eq 14, 3) := by decide +kernel
theorem dJ0_isLatin1_aae02_6 : decode cJ0_isLatin1_aae02 6 = .ok (.aload_n 0, 1) := by decide +kernel
theorem dJ0_isLatin1_aae02_7 : decode cJ0_isLatin1_aae02 7 = .ok (.getfield 15, 3) := by decide +kernel
theorem dJ0_isLatin1_aae02_10 : decode cJ0_isLatin1_aae02 10 = .ok (.ifCond .ne 7, 3) := by decide +kernel
theorem dJ0_isLatin1_aae02_13 : decode cJ0_isLatin1_aae02 13 = .ok (.iconst 1, 1) := by decide +kernel
theorem dJ0_isLatin1_aae02_14 : decode cJ0_isLatin1_aae02 14 = .ok (.goto 4, 3) := by decide +kernel
theorem dJ0_isLatin1_aae02_17 : decode cJ0_isLatin1_aae02 17 = .ok (.iconst 0, 1) := by decide +kernel
theorem dJ0_isLatin1_aae02_18 : decode cJ0_isLatin1_aae02 18 = .ok (.ireturn, 1) := by decide +kernel
set_option maxRecDepth 20000 in
theorem ggJ0_checkIndex_df160_J3_checkIndex_8e157 : GoodIn wsJ0_checkIndex_df160 wsJ3_checkIndex_8e157 := goodIn_r _ [5] (by decide +kernel) (by decide +kernel)
set_option maxRecDepth 20000 in
theorem gJ0_checkIndex_df160_J3_checkIndex_8e157 : GoodIn wsJ0_checkIndex_df160 (va_wsS RJ0 1059 yJ3_checkIndex_8e157 wsJ3_checkIndex_8e157) := goodIn_app (goodIn_of _ (by decide +kernel)) ggJ0_checkIndex_df160_J3_checkIndex_8e157
theorem dJ0_checkIndex_df160_0 : decode cJ0_checkIndex_df160 0 = .ok (.iload_n 0, 1) := by decide +kernel
theorem dJ0_checkIndex_df160_1 : decode cJ0_checkIndex_df160 1 = .ok (.iload_n 1, 1) := by decide +kernel
theorem dJ0_checkIndex_df160_2 : decode cJ0_checkIndex_df160 2 = .ok (.getstatic 1053, 3) := by decide +kernel
theorem dJ0_checkIndex_df160_5 : decode cJ0_checkIndex_df160 5 = .ok (.invokestatic 1059, 3) := by decide +kernel
theorem dJ0_checkIndex_df160_8 : decode cJ0_checkIndex_df160 8 = .ok (.pop, 1) := by decide +kernel
theorem dJ0_checkIndex_df160_9 : decode cJ0_checkIndex_df160 9 = .ok (.return_, 1) := by decide +kernel
set_option maxRecDepth 20000 in
theorem ggJ1_charAt_3b067_J0_checkIndex_df160 : GoodIn wsJ1_charAt_3b067 wsJ0_checkIndex_df160 := goodIn_r _ [4, 5, 6, 7, 8, 9] (by decide +kernel) (by decide +kernel)
set_option maxRecDepth 20000 in
theorem gJ1_charAt_3b067_J0_checkIndex_df160 : GoodIn wsJ1_charAt_3b067 (va_wsS RJ1 9 yJ0_checkIndex_df160 wsJ0_checkIndex_df160) := goodIn_app (goodIn_of _ (by decide +kernel)) ggJ1_charAt_3b067_J0_checkIndex_df160
theorem dJ1_charAt_3b067_0 : decode cJ1_charAt_3b067 0 = .ok (.iload_n 1, 1) := by decide +kernel
theorem dJ1_charAt_3b067_1 : decode cJ1_charAt_3b067 1 = .ok (.aload_n 0, 1) := by decide +kernel
theorem dJ1_charAt_3b067_2 : decode cJ1_charAt_3b067 2 = .ok (.arraylength, 1) := by decide +kernel
theorem dJ1_charAt_3b067_3 : decode cJ1_charAt_3b067 3 = .ok (.invokestatic 9, 3) := by decide +kernel
theorem dJ1_charAt_3b067_6 : decode cJ1_charAt_3b067 6 = .ok (.aload_n 0, 1) := by decide +kernel
theorem dJ1_charAt_3b067_7 : decode cJ1_charAt_3b067 7 = .ok (.iload_n 1, 1) := by decide +kernel
theorem dJ1_charAt_3b067_8 : decode cJ1_charAt_3b067 8 = .ok (.baload, 1) := by decide +kernel
theorem dJ1_charAt_3b067_9 : decode cJ1_charAt_3b067 9 = .ok (.sipush 255, 3) := by decide +kernel
theorem dJ1_charAt_3b067_12 : decode cJ1_charAt_3b067 12 = .ok (.iand, 1) := by decide +kernel
theorem dJ1_charAt_3b067_13 : decode cJ1_charAt_3b067 13 = .ok (.i2c, 1) := by decide +kernel
theorem dJ1_charAt_3b067_14 : decode cJ1_charAt_3b067 14 = .ok (.ireturn, 1) := by decide +kernel
set_option maxRecDepth 20000 in
theorem ggJ2_getChar_3b067_J2_length_9d52b : GoodIn wsJ2_getChar_3b067 wsJ2_length_9d52b := goodIn_r _ [7] (by decide +kernel) (by decide +kernel)
set_option maxRecDepth 20000 in
theorem gJ2_getChar_3b067_J2_length_9d52b : GoodIn wsJ2_getChar_3b067 (va_wsS RJ2 48 yJ2_length_9d52b wsJ2_length_9d52b) := goodIn_app (goodIn_of _ (by decide +kernel)) ggJ2_getChar_3b067_J2_length_9d52b
theorem dJ2_getChar_3b067_0 : decode cJ2_getChar_3b067 0 = .ok (.getstatic 44, 3) := by decide +kernel
theorem dJ2_getChar_3b067_3 : decode cJ2_getChar_3b067 3 = .ok (.ifCond .ne 25, 3) := by decide +kernel
theorem dJ2_getChar_3b067_6 : decode cJ2_getChar_3b067 6 = .ok (.iload_n 1, 1) := by decide +kernel
theorem dJ2_getChar_3b067_7 : decode cJ2_getChar_3b067 7 = .ok (.ifCond .lt 11, 3) := by decide +kernel
theorem dJ2_getChar_3b067_10 : decode cJ2_getChar_3b067 10 = .ok (.iload_n 1, 1) := by decide +kernel
theorem dJ2_getChar_3b067_11 : decode cJ2_getChar_3b067 11 = .ok (.aload_n 0, 1) := by decide +kernel
theorem dJ2_getChar_3b067_12 : decode cJ2_getChar_3b067 12 = .ok (.invokestatic 48, 3) := by decide +kernel
theorem dJ2_getChar_3b067_15 : decode cJ2_getChar_3b067 15 = .ok (.if_icmp .lt 13, 3) := by decide +kernel
theorem dJ2_getChar_3b067_18 : decode cJ2_getChar_3b067 18 = .ok (.new 52, 3) := by decide +kernel
theorem dJ2_getChar_3b067_21 : decode cJ2_getChar_3b067 21 = .ok (.dup, 1) := by decide +kernel
theorem dJ2_getChar_3b067_22 : decode cJ2_getChar_3b067 22 = .ok (.ldc 54, 2) := by decide +kernel
theorem dJ2_getChar_3b067_24 : decode cJ2_getChar_3b067 24 = .ok (.invokespecial 56, 3) := by decide +kernel
theorem dJ2_getChar_3b067_27 : decode cJ2_getChar_3b067 27 = .ok (.athrow, 1) := by decide +kernel
theorem dJ2_getChar_3b067_28 : decode cJ2_getChar_3b067 28 = .ok (.iload_n 1, 1) := by decide +kernel
theorem dJ2_getChar_3b067_29 : decode cJ2_getChar_3b067 29 = .ok (.iconst 1, 1) := by decide +kernel
theorem dJ2_getChar_3b067_30 : decode cJ2_getChar_3b067 30 = .ok (.ishl, 1) := by decide +kernel
theorem dJ2_getChar_3b067_31 : decode cJ2_getChar_3b067 31 = .ok (.istore_n 1, 1) := by decide +kernel
theorem dJ2_getChar_3b067_32 : decode cJ2_getChar_3b067 32 = .ok (.aload_n 0, 1) := by decide +kernel
theorem dJ2_getChar_3b067_33 : decode cJ2_getChar_3b067 33 = .ok (.iload_n 1, 1) := by decide +kernel
theorem dJ2_getChar_3b067_34 : decode cJ2_getChar_3b067 34 = .ok (.iinc 1 1, 3) := by decide +kernel
theorem dJ2_getChar_3b067_37 : decode cJ2_getChar_3b067 37 = .ok (.baload, 1) := by decide +kernel
theorem dJ2_getChar_3b067_38 : decode cJ2_getChar_3b067 38 = .ok (.sipush 255, 3) := by decide +kernel
theorem dJ2_getChar_3b067_41 : decode cJ2_getChar_3b067 41 = .ok (.iand, 1) := by decide +kernel
theorem dJ2_getChar_3b067_42 : decode cJ2_getChar_3b067 42 = .ok (.getstatic 59, 3) := by decide +kernel
theorem dJ2_getChar_3b067_45 : decode cJ2_getChar_3b067 45 = .ok (.ishl, 1) := by decide +kernel
theorem dJ2_getChar_3b067_46 : decode cJ2_getChar_3b067 46 = .ok (.aload_n 0, 1) := by decide +kernel
theorem dJ2_getChar_3b067_47 : decode cJ2_getChar_3b067 47 = .ok (.iload_n 1, 1) := by decide +kernel
theorem dJ2_getChar_3b067_48 : decode cJ2_getChar_3b067 48 = .ok (.baload, 1) := by decide +kernel
theorem dJ2_getChar_3b067_49 : decode cJ2_getChar_3b067 49 = .ok (.sipush 255, 3) := by decide +kernel
theorem dJ2_getChar_3b067_52 : decode cJ2_getChar_3b067 52 = .ok (.iand, 1) := by decide +kernel
theorem dJ2_getChar_3b067_53 : decode cJ2_getChar_3b067 53 = .ok (.getstatic 63, 3) := by decide +kernel
theorem dJ2_getChar_3b067_56 : decode cJ2_getChar_3b067 56 = .ok (.ishl, 1) := by decide +kernel
theorem dJ2_getChar_3b067_57 : decode cJ2_getChar_3b067 57 = .ok (.ior, 1) := by decide +kernel
theorem dJ2_getChar_3b067_58 : decode cJ2_getChar_3b067 58 = .ok (.i2c, 1) := by decide +kernel
theorem dJ2_getChar_3b067_59 : decode cJ2_getChar_3b067 59 = .ok (.ireturn, 1) := by decide +kernel
theorem dJ2_length_9d52b_0 : decode cJ2_length_9d52b 0 = .ok (.aload_n 0, 1) := by decide +kernel
theorem dJ2_length_9d52b_1 : decode cJ2_length_9d52b 1 = .ok (.arraylength, 1) := by decide +kernel
theorem dJ2_length_9d52b_2 : decode cJ2_length_9d52b 2 = .ok (.iconst 1, 1) := by decide +kernel
theorem dJ2_length_9d52b_3 : decode cJ2_length_9d52b 3 = .ok (.ishr, 1) := by decide +kernel
theorem dJ2_length_9d52b_4 : decode cJ2_length_9d52b 4 = .ok (.ireturn, 1) := by decide +kernel
set_option maxRecDepth 20000 in
theorem ggJ2_charAt_3b067_J2_checkIndex_2214a : GoodIn wsJ2_charAt_3b067 wsJ2_checkIndex_2214a := goodIn_r _ [4, 5, 6, 3, 7, 8, 9, 10, 11, 12, 13, 14, 15, 16] (by decide +kernel) (by decide +kernel)
set_option maxRecDepth 20000 in
theorem gJ2_charAt_3b067_J2_checkIndex_2214a : GoodIn wsJ2_charAt_3b067 (va_wsS RJ2 67 yJ2_checkIndex_2214a wsJ2_checkIndex_2214a) := goodIn_app (goodIn_of _ (by decide +kernel)) ggJ2_charAt_3b067_J2_checkIndex_2214a
set_option maxRecDepth 20000 in
theorem ggJ2_charAt_3b067_J2_getChar_3b067 : GoodIn wsJ2_charAt_3b067 wsJ2_getChar_3b067 := goodIn_r _ [19, 20, 21, 22, 5, 6, 3, 7] (by decide +kernel) (by decide +kernel)
set_option maxRecDepth 20000 in
theorem gJ2_charAt_3b067_J2_getChar_3b067 : GoodIn wsJ2_charAt_3b067 (va_wsS RJ2 71 yJ2_getChar_3b067 wsJ2_getChar_3b067) := goodIn_app (goodIn_of _ (by decide +kernel)) ggJ2_charAt_3b067_J2_getChar_3b067
theorem dJ2_charAt_3b067_0 : decode cJ2_charAt_3b067 0 = .ok (.iload_n 1, 1) := by decide +kernel
theorem dJ2_charAt_3b067_1 : decode cJ2_charAt_3b067 1 = .ok (.aload_n 0, 1) := by decide +kernel
theorem dJ2_charAt_3b067_2 : decode cJ2_charAt_3b067 2 = .ok (.invokestatic 67, 3) := by decide +kernel
theorem dJ2_charAt_3b067_5 : decode cJ2_charAt_3b067 5 = .ok (.aload_n 0, 1) := by decide +kernel
theorem dJ2_charAt_3b067_6 : decode cJ2_charAt_3b067 6 = .ok (.iload_n 1, 1) := by decide +kernel
theorem dJ2_charAt_3b067_7 : decode cJ2_charAt_3b067 7 = .ok (.invokestatic 71, 3) := by decide +kernel
theorem dJ2_charAt_3b067_10 : decode cJ2_charAt_3b067 10 = .ok (.ireturn, 1) := by decide +kernel
set_option maxRecDepth 20000 in
theorem ggJ2_checkIndex_2214a_J2_length_9d52b : GoodIn wsJ2_checkIndex_2214a wsJ2_length_9d52b := goodIn_r _ [4] (by decide +kernel) (by decide +kernel)
set_option maxRecDepth 20000 in
theorem gJ2_checkIndex_2214a_J2_length_9d52b : GoodIn wsJ2_checkIndex_2214a (va_wsS RJ2 48 yJ2_length_9d52b wsJ2_length_9d52b) := goodIn_app (goodIn_of _ (by decide +kernel)) ggJ2_checkIndex_2214a_J2_length_9d52b
set_option maxRecDepth 20000 in
theorem ggJ2_checkIndex_2214a_J0_checkIndex_df160 : GoodIn wsJ2_checkIndex_2214a wsJ0_checkIndex_df160 := goodIn_r _ [8, 9, 10, 11, 12, 13] (by decide +kernel) (by decide +kernel)
set_option maxRecDepth 20000 in
theorem gJ2_checkIndex_2214a_J0_checkIndex_df160 : GoodIn wsJ2_checkIndex_2214a (va_wsS RJ2 414 yJ0_checkIndex_df160 wsJ0_checkIndex_df160) := goodIn_app (goodIn_of _ (by decide +kernel)) ggJ2_checkIndex_2214a_J0_checkIndex_df160
theorem dJ2_checkIndex_2214a_0 : decode cJ2_checkIndex_2214a 0 = .ok (.iload_n 0, 1) := by decide +kernel
theorem dJ2_checkIndex_2214a_1 : decode cJ2_checkIndex_2214a 1 = .ok (.aload_n 1, 1) := by decide +kernel
theorem dJ2_checkIndex_2214a_2 : decode cJ2_checkIndex_2214a 2 = .ok (.invokestatic 48, 3) := by decide +kernel
theorem dJ2_checkIndex_2214a_5 : decode cJ2_checkIndex_2214a 5 = .ok (.invokestatic 414, 3) := by decide +kernel
theorem dJ2_checkIndex_2214a_8 : decode cJ2_checkIndex_2214a 8 = .ok (.return_, 1) := by decide +kernel
theorem dJ3_checkIndex_8e157_0 : decode cJ3_checkIndex_8e157 0 = .ok (.iload_n 0, 1) := by decide +kernel
theorem dJ3_checkIndex_8e157_1 : decode cJ3_checkIndex_8e157 1 = .ok (.ifCond .lt 8, 3) := by decide +kernel
theorem dJ3_checkIndex_8e157_4 : decode cJ3_checkIndex_8e157 4 = .ok (.iload_n 0, 1) := by decide +kernel
theorem dJ3_checkIndex_8e157_5 : decode cJ3_checkIndex_8e157 5 = .ok (.iload_n 1, 1) := by decide +kernel
theorem dJ3_checkIndex_8e157_6 : decode cJ3_checkIndex_8e157 6 = .ok (.if_icmp .lt 10, 3) := by decide +kernel
theorem dJ3_checkIndex_8e157_9 : decode cJ3_checkIndex_8e157 9 = .ok (.aload_n 2, 1) := by decide +kernel
theorem dJ3_checkIndex_8e157_10 : decode cJ3_checkIndex_8e157 10 = .ok (.iload_n 0, 1) := by decide +kernel
theorem dJ3_checkIndex_8e157_11 : decode cJ3_checkIndex_8e157 11 = .ok (.iload_n 1, 1) := by decide +kernel
theorem dJ3_checkIndex_8e157_12 : decode cJ3_checkIndex_8e157 12 = .ok (.invokestatic 95, 3) := by decide +kernel
theorem dJ3_checkIndex_8e157_15 : decode cJ3_checkIndex_8e157 15 = .ok (.athrow, 1) := by decide +kernel
theorem dJ3_checkIndex_8e157_16 : decode cJ3_checkIndex_8e157 16 = .ok (.iload_n 0, 1) := by decide +kernel
theorem dJ3_checkIndex_8e157_17 : decode cJ3_checkIndex_8e157 17 = .ok (.ireturn, 1) := by decide +kernel
theorem dL_law_0 : decode cL_law 0 = .ok (.new 7, 3) := by decide +kernel

set_option maxRecDepth 20000 in
theorem ggX0_init_X2_init : GoodIn wsX0_init wsX2_init := goodIn_r _ [13, 14, 2, 3, 15, 16, 17, 18, 19, 20, 21, 22, 23, 24, 25] (by decide +kernel) (by decide +kernel)
set_option maxRecDepth 20000 in
theorem gX0_init_X2_init : GoodIn wsX0_init (wsX2_init) := ggX0_init_X2_init
theorem dX0_init_0 : decode cX0_init 0 = .ok (.aload_n 0, 1) := by decide +kernel
theorem dX0_init_1 : decode cX0_init 1 = .ok (.invokespecial 3, 3) := by decide +kernel
theorem dX0_init_4 : decode cX0_init 4 = .ok (.aload_n 0, 1) := by decide +kernel
theorem dX0_init_5 : decode cX0_init 5 = .ok (.new 9, 3) := by decide +kernel
theorem dX0_init_8 : decode cX0_init 8 = .ok (.dup, 1) := by decide +kernel
theorem dX0_init_9 : decode cX0_init 9 = .ok (.iconst 5, 1) := by decide +kernel
theorem dX0_init_10 : decode cX0_init 10 = .ok (.invokespecial 11, 3) := by decide +kernel
theorem dX0_init_13 : decode cX0_init 13 = .ok (.putfield 14, 3) := by decide +kernel
theorem dX0_init_16 : decode cX0_init 16 = .ok (.aload_n 0, 1) := by decide +kernel
theorem dX0_init_17 : decode cX0_init 17 = .ok (.new 9, 3) := by decide +kernel
theorem dX0_init_20 : decode cX0_init 20 = .ok (.dup, 1) := by decide +kernel
theorem dX0_init_21 : decode cX0_init 21 = .ok (.bipush 12, 2) := by decide +kernel
theorem dX0_init_23 : decode cX0_init 23 = .ok (.invokespecial 11, 3) := by decide +kernel
theorem dX0_init_26 : decode cX0_init 26 = .ok (.putfield 20, 3) := by decide +kernel
theorem dX0_init_29 : decode cX0_init 29 = .ok (.aload_n 0, 1) := by decide +kernel
theorem dX0_init_30 : decode cX0_init 30 = .ok (.new 9, 3) := by decide +kernel
theorem dX0_init_33 : decode cX0_init 33 = .ok (.dup, 1) := by decide +kernel
theorem dX0_init_34 : decode cX0_init 34 = .ok (.bipush 10, 2) := by decide +kernel
theorem dX0_init_36 : decode cX0_init 36 = .ok (.invokespecial 11, 3) := by decide +kernel
theorem dX0_init_39 : decode cX0_init 39 = .ok (.putfield 23, 3) := by decide +kernel
theorem dX0_init_42 : decode cX0_init 42 = .ok (.aload_n 0, 1) := by decide +kernel
theorem dX0_init_43 : decode cX0_init 43 = .ok (.new 9, 3) := by decide +kernel
theorem dX0_init_46 : decode cX0_init 46 = .ok (.dup, 1) := by decide +kernel
theorem dX0_init_47 : decode cX0_init 47 = .ok (.bipush 10, 2) := by decide +kernel
theorem dX0_init_49 : decode cX0_init 49 = .ok (.invokespecial 11, 3) := by decide +kernel
theorem dX0_init_52 : decode cX0_init 52 = .ok (.putfield 26, 3) := by decide +kernel
theorem dX0_init_55 : decode cX0_init 55 = .ok (.return_, 1) := by decide +kernel
set_option maxRecDepth 20000 in
theorem ggX0_begin_X2_copyFrom : GoodIn wsX0_begin wsX2_copyFrom := goodIn_r _ [10, 11, 12, 13, 14, 15, 16, 17, 18, 19, 20, 21, 22, 35, 36, 37] (by decide +kernel) (by decide +kernel)
set_option maxRecDepth 20000 in
theorem gX0_begin_X2_copyFrom : GoodIn wsX0_begin (wsV RX0 34 RX2 yX2_copyFrom wsX2_copyFrom) := goodIn_app (goodIn_of _ (by decide +kernel)) ggX0_begin_X2_copyFrom
set_option maxRecDepth 20000 in
theorem ggX0_begin_X2_empty : GoodIn wsX0_begin wsX2_empty := goodIn_r _ [26, 12, 35, 36, 37] (by decide +kernel) (by decide +kernel)
set_option maxRecDepth 20000 in
theorem gX0_begin_X2_empty : GoodIn wsX0_begin (wsV RX0 38 RX2 yX2_empty wsX2_empty) := goodIn_app (goodIn_of _ (by decide +kernel)) ggX0_begin_X2_empty
theorem dX0_begin_0 : decode cX0_begin 0 = .ok (.aload_n 1, 1) := by decide +kernel
theorem dX0_begin_1 : decode cX0_begin 1 = .ok (.ifnonnull 4, 3) := by decide +kernel
theorem dX0_begin_4 : decode cX0_begin 4 = .ok (.return_, 1) := by decide +kernel
theorem dX0_begin_5 : decode cX0_begin 5 = .ok (.aload_n 0, 1) := by decide +kernel
theorem dX0_begin_6 : decode cX0_begin 6 = .ok (.getfield 14, 3) := by decide +kernel
theorem dX0_begin_9 : decode cX0_begin 9 = .ok (.aload_n 1, 1) := by decide +kernel
theorem dX0_begin_10 : decode cX0_begin 10 = .ok (.getfield 29, 3) := by decide +kernel
theorem dX0_begin_13 : decode cX0_begin 13 = .ok (.invokevirtual 34, 3) := by decide +kernel
theorem dX0_begin_16 : decode cX0_begin 16 = .ok (.aload_n 0, 1) := by decide +kernel
theorem dX0_begin_17 : decode cX0_begin 17 = .ok (.getfield 20, 3) := by decide +kernel
theorem dX0_begin_20 : decode cX0_begin 20 = .ok (.invokevirtual 38, 3) := by decide +kernel
theorem dX0_begin_23 : decode cX0_begin 23 = .ok (.aload_n 0, 1) := by decide +kernel
theorem dX0_begin_24 : decode cX0_begin 24 = .ok (.getfield 23, 3) := by decide +kernel
theorem dX0_begin_27 : decode cX0_begin 27 = .ok (.invokevirtual 38, 3) := by decide +kernel
theorem dX0_begin_30 : decode cX0_begin 30 = .ok (.aload_n 0, 1) := by decide +kernel
theorem dX0_begin_31 : decode cX0_begin 31 = .ok (.getfield 26, 3) := by decide +kernel
theorem dX0_begin_34 : decode cX0_begin 34 = .ok (.invokevirtual 38, 3) := by decide +kernel
theorem dX0_begin_37 : decode cX0_begin 37 = .ok (.return_, 1) := by decide +kernel
set_option maxRecDepth 20000 in
theorem ggX0_copyFrom_X2_copyFrom : GoodIn wsX0_copyFrom wsX2_copyFrom := goodIn_r _ [9, 10, 11, 12, 13, 14, 15, 16, 17, 18, 19, 20, 21, 26, 27, 28] (by decide +kernel) (by decide +kernel)
set_option maxRecDepth 20000 in
theorem gX0_copyFrom_X2_copyFrom : GoodIn wsX0_copyFrom (wsV RX0 34 RX2 yX2_copyFrom wsX2_copyFrom) := goodIn_app (goodIn_of _ (by decide +kernel)) ggX0_copyFrom_X2_copyFrom
theorem dX0_copyFrom_0 : decode cX0_copyFrom 0 = .ok (.aload_n 1, 1) := by decide +kernel
theorem dX0_copyFrom_1 : decode cX0_copyFrom 1 = .ok (.ifnonnull 4, 3) := by decide +kernel
theorem dX0_copyFrom_4 : decode cX0_copyFrom 4 = .ok (.return_, 1) := by decide +kernel
theorem dX0_copyFrom_5 : decode cX0_copyFrom 5 = .ok (.aload_n 0, 1) := by decide +kernel
theorem dX0_copyFrom_6 : decode cX0_copyFrom 6 = .ok (.getfield 14, 3) := by decide +kernel
theorem dX0_copyFrom_9 : decode cX0_copyFrom 9 = .ok (.aload_n 1, 1) := by decide +kernel
theorem dX0_copyFrom_10 : decode cX0_copyFrom 10 = .ok (.getfield 14, 3) := by decide +kernel
theorem dX0_copyFrom_13 : decode cX0_copyFrom 13 = .ok (.invokevirtual 34, 3) := by decide +kernel
theorem dX0_copyFrom_16 : decode cX0_copyFrom 16 = .ok (.aload_n 0, 1) := by decide +kernel
theorem dX0_copyFrom_17 : decode cX0_copyFrom 17 = .ok (.getfield 20, 3) := by decide +kernel
theorem dX0_copyFrom_20 : decode cX0_copyFrom 20 = .ok (.aload_n 1, 1) := by decide +kernel
theorem dX0_copyFrom_21 : decode cX0_copyFrom 21 = .ok (.getfield 20, 3) := by decide +kernel
theorem dX0_copyFrom_24 : decode cX0_copyFrom 24 = .ok (.invokevirtual 34, 3) := by decide +kernel
theorem dX0_copyFrom_27 : decode cX0_copyFrom 27 = .ok (.aload_n 0, 1) := by decide +kernel
theorem dX0_copyFrom_28 : decode cX0_copyFrom 28 = .ok (.getfield 23, 3) := by decide +kernel
theorem dX0_copyFrom_31 : decode cX0_copyFrom 31 = .ok (.aload_n 1, 1) := by decide +kernel
theorem dX0_copyFrom_32 : decode cX0_copyFrom 32 = .ok (.getfield 23, 3) := by decide +kernel
theorem dX0_copyFrom_35 : decode cX0_copyFrom 35 = .ok (.invokevirtual 34, 3) := by decide +kernel
theorem dX0_copyFrom_38 : decode cX0_copyFrom 38 = .ok (.aload_n 0, 1) := by decide +kernel
theorem dX0_copyFrom_39 : decode cX0_copyFrom 39 = .ok (.getfield 26, 3) := by decide +kernel
theorem dX0_copyFrom_42 : decode cX0_copyFrom 42 = .ok (.aload_n 1, 1) := by decide +kernel
theorem dX0_copyFrom_43 : decode cX0_copyFrom 43 = .ok (.getfield 26, 3) := by decide +kernel
theorem dX0_copyFrom_46 : decode cX0_copyFrom 46 = .ok (.invokevirtual 34, 3) := by decide +kernel
theorem dX0_copyFrom_49 : decode cX0_copyFrom 49 = .ok (.return_, 1) := by decide +kernel
set_option maxRecDepth 20000 in
theorem ggX0_placeSeen_X2_number : GoodIn wsX0_placeSeen wsX2_number := goodIn_r _ [6, 7, 8, 9, 10, 5, 11, 12, 13, 14, 15, 24, 25, 26] (by decide +kernel) (by decide +kernel)
set_option maxRecDepth 20000 in
theorem gX0_placeSeen_X2_number : GoodIn wsX0_placeSeen (wsV RX0 41 RX2 yX2_number wsX2_number) := goodIn_app (goodIn_of _ (by decide +kernel)) ggX0_placeSeen_X2_number
set_option maxRecDepth 20000 in
theorem ggX0_placeSeen_J9_floorMod_7cf53 : GoodIn wsX0_placeSeen wsJ9_floorMod_7cf53 := goodIn_r _ [19] (by decide +kernel) (by decide +kernel)
set_option maxRecDepth 20000 in
theorem gX0_placeSeen_J9_floorMod_7cf53 : GoodIn wsX0_placeSeen (va_wsS RX0 45 yJ9_floorMod_7cf53 wsJ9_floorMod_7cf53) := goodIn_app (goodIn_of _ (by decide +kernel)) ggX0_placeSeen_J9_floorMod_7cf53
theorem dX0_placeSeen_0 : decode cX0_placeSeen 0 = .ok (.aload_n 0, 1) := by decide +kernel
theorem dX0_placeSeen_1 : decode cX0_placeSeen 1 = .ok (.getfield 14, 3) := by decide +kernel
theorem dX0_placeSeen_4 : decode cX0_placeSeen 4 = .ok (.iload_n 1, 1) := by decide +kernel
theorem dX0_placeSeen_5 : decode cX0_placeSeen 5 = .ok (.iconst 0, 1) := by decide +kernel
theorem dX0_placeSeen_6 : decode cX0_placeSeen 6 = .ok (.invokevirtual 41, 3) := by decide +kernel
theorem dX0_placeSeen_9 : decode cX0_placeSeen 9 = .ok (.iload_n 2, 1) := by decide +kernel
theorem dX0_placeSeen_10 : decode cX0_placeSeen 10 = .ok (.isub, 1) := by decide +kernel
theorem dX0_placeSeen_11 : decode cX0_placeSeen 11 = .ok (.bipush 8, 2) := by decide +kernel
theorem dX0_placeSeen_13 : decode cX0_placeSeen 13 = .ok (.invokestatic 45, 3) := by decide +kernel
theorem dX0_placeSeen_16 : decode cX0_placeSeen 16 = .ok (.ireturn, 1) := by decide +kernel
set_option maxRecDepth 20000 in
theorem ggX0_placesSeen_X0_placeSeen : GoodIn wsX0_placesSeen wsX0_placeSeen := goodIn_r _ [5, 6, 7, 8, 9, 10, 11, 12, 13, 14, 15, 16, 17, 18, 19, 20, 21, 22, 23, 24, 25, 26, 27, 28, 29, 30, 31] (by decide +kernel) (by decide +kernel)
set_option maxRecDepth 20000 in
theorem gX0_placesSeen_X0_placeSeen : GoodIn wsX0_placesSeen (wsV RX0 50 RX0 yX0_placeSeen wsX0_placeSeen) := goodIn_app (goodIn_of _ (by decide +kernel)) ggX0_placesSeen_X0_placeSeen
theorem dX0_placesSeen_0 : decode cX0_placesSeen 0 = .ok (.iconst 0, 1) := by decide +kernel
theorem dX0_placesSeen_1 : decode cX0_placesSeen 1 = .ok (.istore 4, 2) := by decide +kernel
theorem dX0_placesSeen_3 : decode cX0_placesSeen 3 = .ok (.iload_n 2, 1) := by decide +kernel
theorem dX0_placesSeen_4 : decode cX0_placesSeen 4 = .ok (.istore 5, 2) := by decide +kernel
theorem dX0_placesSeen_6 : decode cX0_placesSeen 6 = .ok (.iload 5, 2) := by decide +kernel
theorem dX0_placesSeen_8 : decode cX0_placesSeen 8 = .ok (.iload_n 3, 1) := by decide +kernel
theorem dX0_placesSeen_9 : decode cX0_placesSeen 9 = .ok (.if_icmp .gt 30, 3) := by decide +kernel
theorem dX0_placesSeen_12 : decode cX0_placesSeen 12 = .ok (.iload 5, 2) := by decide +kernel
theorem dX0_placesSeen_14 : decode cX0_placesSeen 14 = .ok (.bipush 24, 2) := by decide +kernel
theorem dX0_placesSeen_16 : decode cX0_placesSeen 16 = .ok (.if_icmp .ge 23, 3) := by decide +kernel
theorem dX0_placesSeen_19 : decode cX0_placesSeen 19 = .ok (.iload 4, 2) := by decide +kernel
theorem dX0_placesSeen_21 : decode cX0_placesSeen 21 = .ok (.iconst 1, 1) := by decide +kernel
theorem dX0_placesSeen_22 : decode cX0_placesSeen 22 = .ok (.aload_n 0, 1) := by decide +kernel
theorem dX0_placesSeen_23 : decode cX0_placesSeen 23 = .ok (.iload_n 1, 1) := by decide +kernel
theorem dX0_placesSeen_24 : decode cX0_placesSeen 24 = .ok (.iload 5, 2) := by decide +kernel
theorem dX0_placesSeen_26 : decode cX0_placesSeen 26 = .ok (.invokevirtual 50, 3) := by decide +kernel
theorem dX0_placesSeen_29 : decode cX0_placesSeen 29 = .ok (.ishl, 1) := by decide +kernel
theorem dX0_placesSeen_30 : decode cX0_placesSeen 30 = .ok (.ior, 1) := by decide +kernel
theorem dX0_placesSeen_31 : decode cX0_placesSeen 31 = .ok (.istore 4, 2) := by decide +kernel
theorem dX0_placesSeen_33 : decode cX0_placesSeen 33 = .ok (.iinc 5 1, 3) := by decide +kernel
theorem dX0_placesSeen_36 : decode cX0_placesSeen 36 = .ok (.goto (-30), 3) := by decide +kernel
theorem dX0_placesSeen_39 : decode cX0_placesSeen 39 = .ok (.iload 4, 2) := by decide +kernel
theorem dX0_placesSeen_41 : decode cX0_placesSeen 41 = .ok (.ireturn, 1) := by decide +kernel
set_option maxRecDepth 20000 in
theorem ggX0_remember_X2_isFull : GoodIn wsX0_remember wsX2_isFull := goodIn_r _ [6, 7, 8, 44, 45, 46] (by decide +kernel) (by decide +kernel)
set_option maxRecDepth 20000 in
theorem gX0_remember_X2_isFull : GoodIn wsX0_remember (wsV RX0 53 RX2 yX2_isFull wsX2_isFull) := goodIn_app (goodIn_of _ (by decide +kernel)) ggX0_remember_X2_isFull
set_option maxRecDepth 20000 in
theorem ggX0_remember_X2_dropFirst : GoodIn wsX0_remember wsX2_dropFirst := goodIn_r _ [12, 13, 14, 15, 16, 17, 18, 19, 20, 21, 5, 22, 7, 23, 24, 25, 26, 44, 45, 46] (by decide +kernel) (by decide +kernel)
set_option maxRecDepth 20000 in
theorem gX0_remember_X2_dropFirst : GoodIn wsX0_remember (wsV RX0 57 RX2 yX2_dropFirst wsX2_dropFirst) := goodIn_app (goodIn_of _ (by decide +kernel)) ggX0_remember_X2_dropFirst
set_option maxRecDepth 20000 in
theorem ggX0_remember_X2_add : GoodIn wsX0_remember wsX2_add := goodIn_r _ [30, 7, 31, 3, 4, 5, 6, 8, 32, 33, 34, 35, 13, 36, 37, 38, 39, 17, 15, 18, 44, 45, 46] (by decide +kernel) (by decide +kernel)
set_option maxRecDepth 20000 in
theorem gX0_remember_X2_add : GoodIn wsX0_remember (wsV RX0 60 RX2 yX2_add wsX2_add) := goodIn_app (goodIn_of _ (by decide +kernel)) ggX0_remember_X2_add
theorem dX0_remember_0 : decode cX0_remember 0 = .ok (.aload_n 0, 1) := by decide +kernel
theorem dX0_remember_1 : decode cX0_remember 1 = .ok (.getfield 26, 3) := by decide +kernel
theorem dX0_remember_4 : decode cX0_remember 4 = .ok (.invokevirtual 53, 3) := by decide +kernel
theorem dX0_remember_7 : decode cX0_remember 7 = .ok (.ifCond .eq 10, 3) := by decide +kernel
theorem dX0_remember_10 : decode cX0_remember 10 = .ok (.aload_n 0, 1) := by decide +kernel
theorem dX0_remember_11 : decode cX0_remember 11 = .ok (.getfield 26, 3) := by decide +kernel
theorem dX0_remember_14 : decode cX0_remember 14 = .ok (.invokevirtual 57, 3) := by decide +kernel
theorem dX0_remember_17 : decode cX0_remember 17 = .ok (.aload_n 0, 1) := by decide +kernel
theorem dX0_remember_18 : decode cX0_remember 18 = .ok (.getfield 26, 3) := by decide +kernel
theorem dX0_remember_21 : decode cX0_remember 21 = .ok (.iload_n 1, 1) := by decide +kernel
theorem dX0_remember_22 : decode cX0_remember 22 = .ok (.iload_n 2, 1) := by decide +kernel
theorem dX0_remember_23 : decode cX0_remember 23 = .ok (.iconst 0, 1) := by decide +kernel
theorem dX0_remember_24 : decode cX0_remember 24 = .ok (.iconst 0, 1) := by decide +kernel
theorem dX0_remember_25 : decode cX0_remember 25 = .ok (.invokevirtual 60, 3) := by decide +kernel
theorem dX0_remember_28 : decode cX0_remember 28 = .ok (.return_, 1) := by decide +kernel
set_option maxRecDepth 20000 in
theorem ggX0_takeBack_X2_number : GoodIn wsX0_takeBack wsX2_number := goodIn_r _ [9, 10, 11, 12, 13, 8, 14, 15, 16, 17, 18, 37, 38, 39] (by decide +kernel) (by decide +kernel)
set_option maxRecDepth 20000 in
theorem gX0_takeBack_X2_number : GoodIn wsX0_takeBack (wsV RX0 41 RX2 yX2_number wsX2_number) := goodIn_app (goodIn_of _ (by decide +kernel)) ggX0_takeBack_X2_number
set_option maxRecDepth 20000 in
theorem ggX0_takeBack_X2_dropLast : GoodIn wsX0_takeBack wsX2_dropLast := goodIn_r _ [22, 15, 23, 24, 25, 26, 37, 38, 39] (by decide +kernel) (by decide +kernel)
set_option maxRecDepth 20000 in
theorem gX0_takeBack_X2_dropLast : GoodIn wsX0_takeBack (wsV RX0 68 RX2 yX2_dropLast wsX2_dropLast) := goodIn_app (goodIn_of _ (by decide +kernel)) ggX0_takeBack_X2_dropLast
set_option maxRecDepth 20000 in
theorem ggX0_takeBack_X2_set : GoodIn wsX0_takeBack wsX2_set := goodIn_r _ [30, 10, 11, 12, 13, 8, 14, 15, 31, 17, 32, 37, 38, 39] (by decide +kernel) (by decide +kernel)
set_option maxRecDepth 20000 in
theorem gX0_takeBack_X2_set : GoodIn wsX0_takeBack (wsV RX0 71 RX2 yX2_set wsX2_set) := goodIn_app (goodIn_of _ (by decide +kernel)) ggX0_takeBack_X2_set
theorem dX0_takeBack_0 : decode cX0_takeBack 0 = .ok (.aload_n 0, 1) := by decide +kernel
theorem dX0_takeBack_1 : decode cX0_takeBack 1 = .ok (.getfield 26, 3) := by decide +kernel
theorem dX0_takeBack_4 : decode cX0_takeBack 4 = .ok (.aload_n 0, 1) := by decide +kernel
theorem dX0_takeBack_5 : decode cX0_takeBack 5 = .ok (.getfield 26, 3) := by decide +kernel
theorem dX0_takeBack_8 : decode cX0_takeBack 8 = .ok (.getfield 64, 3) := by decide +kernel
theorem dX0_takeBack_11 : decode cX0_takeBack 11 = .ok (.iconst 1, 1) := by decide +kernel
theorem dX0_takeBack_12 : decode cX0_takeBack 12 = .ok (.isub, 1) := by decide +kernel
theorem dX0_takeBack_13 : decode cX0_takeBack 13 = .ok (.iconst 0, 1) := by decide +kernel
theorem dX0_takeBack_14 : decode cX0_takeBack 14 = .ok (.invokevirtual 41, 3) := by decide +kernel
theorem dX0_takeBack_17 : decode cX0_takeBack 17 = .ok (.istore_n 1, 1) := by decide +kernel
theorem dX0_takeBack_18 : decode cX0_takeBack 18 = .ok (.iload_n 1, 1) := by decide +kernel
theorem dX0_takeBack_19 : decode cX0_takeBack 19 = .ok (.iconst (-1), 1) := by decide +kernel
theorem dX0_takeBack_20 : decode cX0_takeBack 20 = .ok (.if_icmp .ne 13, 3) := by decide +kernel
theorem dX0_takeBack_23 : decode cX0_takeBack 23 = .ok (.aload_n 0, 1) := by decide +kernel
theorem dX0_takeBack_24 : decode cX0_takeBack 24 = .ok (.getfield 20, 3) := by decide +kernel
theorem dX0_takeBack_27 : decode cX0_takeBack 27 = .ok (.invokevirtual 68, 3) := by decide +kernel
theorem dX0_takeBack_30 : decode cX0_takeBack 30 = .ok (.goto 29, 3) := by decide +kernel
theorem dX0_takeBack_33 : decode cX0_takeBack 33 = .ok (.aload_n 0, 1) := by decide +kernel
theorem dX0_takeBack_34 : decode cX0_takeBack 34 = .ok (.getfield 14, 3) := by decide +kernel
theorem dX0_takeBack_37 : decode cX0_takeBack 37 = .ok (.iload_n 1, 1) := by decide +kernel
theorem dX0_takeBack_38 : decode cX0_takeBack 38 = .ok (.iconst 0, 1) := by decide +kernel
theorem dX0_takeBack_39 : decode cX0_takeBack 39 = .ok (.aload_n 0, 1) := by decide +kernel
theorem dX0_takeBack_40 : decode cX0_takeBack 40 = .ok (.getfield 26, 3) := by decide +kernel
theorem dX0_takeBack_43 : decode cX0_takeBack 43 = .ok (.aload_n 0, 1) := by decide +kernel
theorem dX0_takeBack_44 : decode cX0_takeBack 44 = .ok (.getfield 26, 3) := by decide +kernel
theorem dX0_takeBack_47 : decode cX0_takeBack 47 = .ok (.getfield 64, 3) := by decide +kernel
theorem dX0_takeBack_50 : decode cX0_takeBack 50 = .ok (.iconst 1, 1) := by decide +kernel
theorem dX0_takeBack_51 : decode cX0_takeBack 51 = .ok (.isub, 1) := by decide +kernel
theorem dX0_takeBack_52 : decode cX0_takeBack 52 = .ok (.iconst 1, 1) := by decide +kernel
theorem dX0_takeBack_53 : decode cX0_takeBack 53 = .ok (.invokevirtual 41, 3) := by decide +kernel
theorem dX0_takeBack_56 : decode cX0_takeBack 56 = .ok (.invokevirtual 71, 3) := by decide +kernel
theorem dX0_takeBack_59 : decode cX0_takeBack 59 = .ok (.aload_n 0, 1) := by decide +kernel
theorem dX0_takeBack_60 : decode cX0_takeBack 60 = .ok (.getfield 26, 3) := by decide +kernel
theorem dX0_takeBack_63 : decode cX0_takeBack 63 = .ok (.invokevirtual 68, 3) := by decide +kernel
theorem dX0_takeBack_66 : decode cX0_takeBack 66 = .ok (.return_, 1) := by decide +kernel
set_option maxRecDepth 20000 in
theorem ggX0_firstLentTwice_X2_number : GoodIn wsX0_firstLentTwice wsX2_number := goodIn_r _ [7, 8, 9, 10, 11, 6, 12, 13, 14, 15, 16, 21, 22, 23] (by decide +kernel) (by decide +kernel)
set_option maxRecDepth 20000 in
theorem gX0_firstLentTwice_X2_number : GoodIn wsX0_firstLentTwice (wsV RX0 41 RX2 yX2_number wsX2_number) := goodIn_app (goodIn_of _ (by decide +kernel)) ggX0_firstLentTwice_X2_number
theorem dX0_firstLentTwice_0 : decode cX0_firstLentTwice 0 = .ok (.iconst 1, 1) := by decide +kernel
theorem dX0_firstLentTwice_1 : decode cX0_firstLentTwice 1 = .ok (.istore_n 1, 1) := by decide +kernel
theorem dX0_firstLentTwice_2 : decode cX0_firstLentTwice 2 = .ok (.iload_n 1, 1) := by decide +kernel
theorem dX0_firstLentTwice_3 : decode cX0_firstLentTwice 3 = .ok (.aload_n 0, 1) := by decide +kernel
theorem dX0_firstLentTwice_4 : decode cX0_firstLentTwice 4 = .ok (.getfield 20, 3) := by decide +kernel
theorem dX0_firstLentTwice_7 : decode cX0_firstLentTwice 7 = .ok (.getfield 64, 3) := by decide +kernel
theorem dX0_firstLentTwice_10 : decode cX0_firstLentTwice 10 = .ok (.if_icmp .ge 76, 3) := by decide +kernel
theorem dX0_firstLentTwice_13 : decode cX0_firstLentTwice 13 = .ok (.iconst 0, 1) := by decide +kernel
theorem dX0_firstLentTwice_14 : decode cX0_firstLentTwice 14 = .ok (.istore_n 2, 1) := by decide +kernel
theorem dX0_firstLentTwice_15 : decode cX0_firstLentTwice 15 = .ok (.iload_n 2, 1) := by decide +kernel
theorem dX0_firstLentTwice_16 : decode cX0_firstLentTwice 16 = .ok (.iload_n 1, 1) := by decide +kernel
theorem dX0_firstLentTwice_17 : decode cX0_firstLentTwice 17 = .ok (.if_icmp .ge 63, 3) := by decide +kernel
theorem dX0_firstLentTwice_20 : decode cX0_firstLentTwice 20 = .ok (.aload_n 0, 1) := by decide +kernel
theorem dX0_firstLentTwice_21 : decode cX0_firstLentTwice 21 = .ok (.getfield 20, 3) := by decide +kernel
theorem dX0_firstLentTwice_24 : decode cX0_firstLentTwice 24 = .ok (.iload_n 1, 1) := by decide +kernel
theorem dX0_firstLentTwice_25 : decode cX0_firstLentTwice 25 = .ok (.iconst 0, 1) := by decide +kernel
theorem dX0_firstLentTwice_26 : decode cX0_firstLentTwice 26 = .ok (.invokevirtual 41, 3) := by decide +kernel
theorem dX0_firstLentTwice_29 : decode cX0_firstLentTwice 29 = .ok (.aload_n 0, 1) := by decide +kernel
theorem dX0_firstLentTwice_30 : decode cX0_firstLentTwice 30 = .ok (.getfield 20, 3) := by decide +kernel
theorem dX0_firstLentTwice_33 : decode cX0_firstLentTwice 33 = .ok (.iload_n 2, 1) := by decide +kernel
theorem dX0_firstLentTwice_34 : decode cX0_firstLentTwice 34 = .ok (.iconst 0, 1) := by decide +kernel
theorem dX0_firstLentTwice_35 : decode cX0_firstLentTwice 35 = .ok (.invokevirtual 41, 3) := by decide +kernel
theorem dX0_firstLentTwice_38 : decode cX0_firstLentTwice 38 = .ok (.if_icmp .ne 7, 3) := by decide +kernel
theorem dX0_firstLentTwice_41 : decode cX0_firstLentTwice 41 = .ok (.iconst 1, 1) := by decide +kernel
theorem dX0_firstLentTwice_42 : decode cX0_firstLentTwice 42 = .ok (.goto 4, 3) := by decide +kernel
theorem dX0_firstLentTwice_45 : decode cX0_firstLentTwice 45 = .ok (.iconst 0, 1) := by decide +kernel
theorem dX0_firstLentTwice_46 : decode cX0_firstLentTwice 46 = .ok (.istore_n 3, 1) := by decide +kernel
theorem dX0_firstLentTwice_47 : decode cX0_firstLentTwice 47 = .ok (.iload_n 3, 1) := by decide +kernel
theorem dX0_firstLentTwice_48 : decode cX0_firstLentTwice 48 = .ok (.ifCond .eq 26, 3) := by decide +kernel
theorem dX0_firstLentTwice_51 : decode cX0_firstLentTwice 51 = .ok (.aload_n 0, 1) := by decide +kernel
theorem dX0_firstLentTwice_52 : decode cX0_firstLentTwice 52 = .ok (.getfield 20, 3) := by decide +kernel
theorem dX0_firstLentTwice_55 : decode cX0_firstLentTwice 55 = .ok (.iload_n 1, 1) := by decide +kernel
theorem dX0_firstLentTwice_56 : decode cX0_firstLentTwice 56 = .ok (.iconst 1, 1) := by decide +kernel
theorem dX0_firstLentTwice_57 : decode cX0_firstLentTwice 57 = .ok (.invokevirtual 41, 3) := by decide +kernel
theorem dX0_firstLentTwice_60 : decode cX0_firstLentTwice 60 = .ok (.aload_n 0, 1) := by decide +kernel
theorem dX0_firstLentTwice_61 : decode cX0_firstLentTwice 61 = .ok (.getfield 20, 3) := by decide +kernel
theorem dX0_firstLentTwice_64 : decode cX0_firstLentTwice 64 = .ok (.iload_n 2, 1) := by decide +kernel
theorem dX0_firstLentTwice_65 : decode cX0_firstLentTwice 65 = .ok (.iconst 1, 1) := by decide +kernel
theorem dX0_firstLentTwice_66 : decode cX0_firstLentTwice 66 = .ok (.invokevirtual 41, 3) := by decide +kernel
theorem dX0_firstLentTwice_69 : decode cX0_firstLentTwice 69 = .ok (.if_icmp .ne 5, 3) := by decide +kernel
theorem dX0_firstLentTwice_72 : decode cX0_firstLentTwice 72 = .ok (.iload_n 1, 1) := by decide +kernel
theorem dX0_firstLentTwice_73 : decode cX0_firstLentTwice 73 = .ok (.ireturn, 1) := by decide +kernel
theorem dX0_firstLentTwice_74 : decode cX0_firstLentTwice 74 = .ok (.iinc 2 1, 3) := by decide +kernel
theorem dX0_firstLentTwice_77 : decode cX0_firstLentTwice 77 = .ok (.goto (-62), 3) := by decide +kernel
theorem dX0_firstLentTwice_80 : decode cX0_firstLentTwice 80 = .ok (.iinc 1 1, 3) := by decide +kernel
theorem dX0_firstLentTwice_83 : decode cX0_firstLentTwice 83 = .ok (.goto (-81), 3) := by decide +kernel
theorem dX0_firstLentTwice_86 : decode cX0_firstLentTwice 86 = .ok (.bipush (-9), 2) := by decide +kernel
theorem dX0_firstLentTwice_88 : decode cX0_firstLentTwice 88 = .ok (.ireturn, 1) := by decide +kernel
set_option maxRecDepth 20000 in
theorem ggX0_timesHeard_X0_isLogged : GoodIn wsX0_timesHeard wsX0_isLogged := goodIn_r _ [7, 1, 8, 9, 10, 11, 12, 13, 14, 15, 16, 17, 18, 19, 20, 21, 22, 23, 24, 25, 26, 27, 28] (by decide +kernel) (by decide +kernel)
set_option maxRecDepth 20000 in
theorem gX0_timesHeard_X0_isLogged : GoodIn wsX0_timesHeard (wsV RX0 75 RX0 yX0_isLogged wsX0_isLogged) := goodIn_app (goodIn_of _ (by decide +kernel)) ggX0_timesHeard_X0_isLogged
theorem dX0_timesHeard_0 : decode cX0_timesHeard 0 = .ok (.iconst 0, 1) := by decide +kernel
theorem dX0_timesHeard_1 : decode cX0_timesHeard 1 = .ok (.istore_n 2, 1) := by decide +kernel
theorem dX0_timesHeard_2 : decode cX0_timesHeard 2 = .ok (.iconst 0, 1) := by decide +kernel
theorem dX0_timesHeard_3 : decode cX0_timesHeard 3 = .ok (.istore_n 3, 1) := by decide +kernel
theorem dX0_timesHeard_4 : decode cX0_timesHeard 4 = .ok (.iload_n 3, 1) := by decide +kernel
theorem dX0_timesHeard_5 : decode cX0_timesHeard 5 = .ok (.aload_n 0, 1) := by decide +kernel
theorem dX0_timesHeard_6 : decode cX0_timesHeard 6 = .ok (.getfield 23, 3) := by decide +kernel
theorem dX0_timesHeard_9 : decode cX0_timesHeard 9 = .ok (.getfield 64, 3) := by decide +kernel
theorem dX0_timesHeard_12 : decode cX0_timesHeard 12 = .ok (.if_icmp .ge 22, 3) := by decide +kernel
theorem dX0_timesHeard_15 : decode cX0_timesHeard 15 = .ok (.aload_n 0, 1) := by decide +kernel
theorem dX0_timesHeard_16 : decode cX0_timesHeard 16 = .ok (.iload_n 3, 1) := by decide +kernel
theorem dX0_timesHeard_17 : decode cX0_timesHeard 17 = .ok (.iload_n 1, 1) := by decide +kernel
theorem dX0_timesHeard_18 : decode cX0_timesHeard 18 = .ok (.iconst 1, 1) := by decide +kernel
theorem dX0_timesHeard_19 : decode cX0_timesHeard 19 = .ok (.invokevirtual 75, 3) := by decide +kernel
theorem dX0_timesHeard_22 : decode cX0_timesHeard 22 = .ok (.ifCond .eq 6, 3) := by decide +kernel
theorem dX0_timesHeard_25 : decode cX0_timesHeard 25 = .ok (.iinc 2 1, 3) := by decide +kernel
theorem dX0_timesHeard_28 : decode cX0_timesHeard 28 = .ok (.iinc 3 1, 3) := by decide +kernel
theorem dX0_timesHeard_31 : decode cX0_timesHeard 31 = .ok (.goto (-27), 3) := by decide +kernel
theorem dX0_timesHeard_34 : decode cX0_timesHeard 34 = .ok (.iload_n 2, 1) := by decide +kernel
theorem dX0_timesHeard_35 : decode cX0_timesHeard 35 = .ok (.ireturn, 1) := by decide +kernel
set_option maxRecDepth 20000 in
theorem ggX0_isLogged_X2_number : GoodIn wsX0_isLogged wsX2_number := goodIn_r _ [6, 7, 8, 9, 10, 5, 11, 12, 13, 14, 15, 20, 21, 22] (by decide +kernel) (by decide +kernel)
set_option maxRecDepth 20000 in
theorem gX0_isLogged_X2_number : GoodIn wsX0_isLogged (wsV RX0 41 RX2 yX2_number wsX2_number) := goodIn_app (goodIn_of _ (by decide +kernel)) ggX0_isLogged_X2_number
theorem dX0_isLogged_0 : decode cX0_isLogged 0 = .ok (.aload_n 0, 1) := by decide +kernel
theorem dX0_isLogged_1 : decode cX0_isLogged 1 = .ok (.getfield 23, 3) := by decide +kernel
theorem dX0_isLogged_4 : decode cX0_isLogged 4 = .ok (.iload_n 1, 1) := by decide +kernel
theorem dX0_isLogged_5 : decode cX0_isLogged 5 = .ok (.iconst 2, 1) := by decide +kernel
theorem dX0_isLogged_6 : decode cX0_isLogged 6 = .ok (.invokevirtual 41, 3) := by decide +kernel
theorem dX0_isLogged_9 : decode cX0_isLogged 9 = .ok (.iload_n 2, 1) := by decide +kernel
theorem dX0_isLogged_10 : decode cX0_isLogged 10 = .ok (.if_icmp .ne 20, 3) := by decide +kernel
theorem dX0_isLogged_13 : decode cX0_isLogged 13 = .ok (.aload_n 0, 1) := by decide +kernel
theorem dX0_isLogged_14 : decode cX0_isLogged 14 = .ok (.getfield 23, 3) := by decide +kernel
theorem dX0_isLogged_17 : decode cX0_isLogged 17 = .ok (.iload_n 1, 1) := by decide +kernel
theorem dX0_isLogged_18 : decode cX0_isLogged 18 = .ok (.iconst 3, 1) := by decide +kernel
theorem dX0_isLogged_19 : decode cX0_isLogged 19 = .ok (.invokevirtual 41, 3) := by decide +kernel
theorem dX0_isLogged_22 : decode cX0_isLogged 22 = .ok (.iload_n 3, 1) := by decide +kernel
theorem dX0_isLogged_23 : decode cX0_isLogged 23 = .ok (.if_icmp .ne 7, 3) := by decide +kernel
theorem dX0_isLogged_26 : decode cX0_isLogged 26 = .ok (.iconst 1, 1) := by decide +kernel
theorem dX0_isLogged_27 : decode cX0_isLogged 27 = .ok (.goto 4, 3) := by decide +kernel
theorem dX0_isLogged_30 : decode cX0_isLogged 30 = .ok (.iconst 0, 1) := by decide +kernel
theorem dX0_isLogged_31 : decode cX0_isLogged 31 = .ok (.ireturn, 1) := by decide +kernel
set_option maxRecDepth 20000 in
theorem ggX0_isHeardElsewhere_X2_number : GoodIn wsX0_isHeardElsewhere wsX2_number := goodIn_r _ [7, 8, 9, 10, 11, 6, 12, 13, 14, 15, 16, 35, 36, 37] (by decide +kernel) (by decide +kernel)
set_option maxRecDepth 20000 in
theorem gX0_isHeardElsewhere_X2_number : GoodIn wsX0_isHeardElsewhere (wsV RX0 41 RX2 yX2_number wsX2_number) := goodIn_app (goodIn_of _ (by decide +kernel)) ggX0_isHeardElsewhere_X2_number
set_option maxRecDepth 20000 in
theorem ggX0_isHeardElsewhere_X0_placeSeen : GoodIn wsX0_isHeardElsewhere wsX0_placeSeen := goodIn_r _ [21, 22, 3, 4, 5, 6, 7, 8, 9, 10, 11, 12, 13, 14, 15, 16, 23, 24, 25, 26, 31, 32, 33, 34, 35, 36, 37] (by decide +kernel) (by decide +kernel)
set_option maxRecDepth 20000 in
theorem gX0_isHeardElsewhere_X0_placeSeen : GoodIn wsX0_isHeardElsewhere (wsV RX0 50 RX0 yX0_placeSeen wsX0_placeSeen) := goodIn_app (goodIn_of _ (by decide +kernel)) ggX0_isHeardElsewhere_X0_placeSeen
set_option maxRecDepth 20000 in
theorem ggX0_isHeardElsewhere_X0_isLogged : GoodIn wsX0_isHeardElsewhere wsX0_isLogged := goodIn_r _ [30, 1, 3, 4, 5, 6, 7, 8, 9, 10, 11, 12, 13, 14, 15, 16, 31, 32, 33, 34, 35, 36, 37] (by decide +kernel) (by decide +kernel)
set_option maxRecDepth 20000 in
theorem gX0_isHeardElsewhere_X0_isLogged : GoodIn wsX0_isHeardElsewhere (wsV RX0 75 RX0 yX0_isLogged wsX0_isLogged) := goodIn_app (goodIn_of _ (by decide +kernel)) ggX0_isHeardElsewhere_X0_isLogged
theorem dX0_isHeardElsewhere_0 : decode cX0_isHeardElsewhere 0 = .ok (.iconst 0, 1) := by decide +kernel

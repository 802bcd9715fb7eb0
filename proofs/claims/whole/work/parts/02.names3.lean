theorem dX5_init_1 : decode cX5_init 1 = .ok (.invokespecial 1, 3) := by decide +kernel
theorem dX5_init_4 : decode cX5_init 4 = .ok (.aload_n 0, 1) := by decide +kernel
theorem dX5_init_5 : decode cX5_init 5 = .ok (.new 7, 3) := by decide +kernel
theorem dX5_init_8 : decode cX5_init 8 = .ok (.dup, 1) := by decide +kernel
theorem dX5_init_9 : decode cX5_init 9 = .ok (.invokespecial 9, 3) := by decide +kernel
theorem dX5_init_12 : decode cX5_init 12 = .ok (.putfield 10, 3) := by decide +kernel
theorem dX5_init_15 : decode cX5_init 15 = .ok (.aload_n 0, 1) := by decide +kernel
theorem dX5_init_16 : decode cX5_init 16 = .ok (.new 16, 3) := by decide +kernel
theorem dX5_init_19 : decode cX5_init 19 = .ok (.dup, 1) := by decide +kernel
theorem dX5_init_20 : decode cX5_init 20 = .ok (.invokespecial 18, 3) := by decide +kernel
theorem dX5_init_23 : decode cX5_init 23 = .ok (.putfield 19, 3) := by decide +kernel
theorem dX5_init_26 : decode cX5_init 26 = .ok (.aload_n 0, 1) := by decide +kernel
theorem dX5_init_27 : decode cX5_init 27 = .ok (.new 23, 3) := by decide +kernel
theorem dX5_init_30 : decode cX5_init 30 = .ok (.dup, 1) := by decide +kernel
theorem dX5_init_31 : decode cX5_init 31 = .ok (.invokespecial 25, 3) := by decide +kernel
theorem dX5_init_34 : decode cX5_init 34 = .ok (.putfield 26, 3) := by decide +kernel
theorem dX5_init_37 : decode cX5_init 37 = .ok (.aload_n 0, 1) := by decide +kernel
theorem dX5_init_38 : decode cX5_init 38 = .ok (.new 23, 3) := by decide +kernel
theorem dX5_init_41 : decode cX5_init 41 = .ok (.dup, 1) := by decide +kernel
theorem dX5_init_42 : decode cX5_init 42 = .ok (.invokespecial 25, 3) := by decide +kernel
theorem dX5_init_45 : decode cX5_init 45 = .ok (.putfield 30, 3) := by decide +kernel
theorem dX5_init_48 : decode cX5_init 48 = .ok (.aload_n 0, 1) := by decide +kernel
theorem dX5_init_49 : decode cX5_init 49 = .ok (.new 33, 3) := by decide +kernel
theorem dX5_init_52 : decode cX5_init 52 = .ok (.dup, 1) := by decide +kernel
theorem dX5_init_53 : decode cX5_init 53 = .ok (.invokespecial 35, 3) := by decide +kernel
theorem dX5_init_56 : decode cX5_init 56 = .ok (.putfield 36, 3) := by decide +kernel
theorem dX5_init_59 : decode cX5_init 59 = .ok (.aload_n 0, 1) := by decide +kernel
theorem dX5_init_60 : decode cX5_init 60 = .ok (.new 33, 3) := by decide +kernel
theorem dX5_init_63 : decode cX5_init 63 = .ok (.dup, 1) := by decide +kernel
theorem dX5_init_64 : decode cX5_init 64 = .ok (.invokespecial 35, 3) := by decide +kernel
theorem dX5_init_67 : decode cX5_init 67 = .ok (.putfield 40, 3) := by decide +kernel
theorem dX5_init_70 : decode cX5_init 70 = .ok (.aload_n 0, 1) := by decide +kernel
theorem dX5_init_71 : decode cX5_init 71 = .ok (.new 33, 3) := by decide +kernel
theorem dX5_init_74 : decode cX5_init 74 = .ok (.dup, 1) := by decide +kernel
theorem dX5_init_75 : decode cX5_init 75 = .ok (.invokespecial 35, 3) := by decide +kernel
theorem dX5_init_78 : decode cX5_init 78 = .ok (.putfield 43, 3) := by decide +kernel
theorem dX5_init_81 : decode cX5_init 81 = .ok (.aload_n 0, 1) := by decide +kernel
theorem dX5_init_82 : decode cX5_init 82 = .ok (.bipush 8, 2) := by decide +kernel
theorem dX5_init_84 : decode cX5_init 84 = .ok (.newarray .int, 2) := by decide +kernel
theorem dX5_init_86 : decode cX5_init 86 = .ok (.putfield 46, 3) := by decide +kernel
theorem dX5_init_89 : decode cX5_init 89 = .ok (.aload_n 0, 1) := by decide +kernel
theorem dX5_init_90 : decode cX5_init 90 = .ok (.iconst 5, 1) := by decide +kernel
theorem dX5_init_91 : decode cX5_init 91 = .ok (.newarray .int, 2) := by decide +kernel
theorem dX5_init_93 : decode cX5_init 93 = .ok (.putfield 50, 3) := by decide +kernel
theorem dX5_init_96 : decode cX5_init 96 = .ok (.aload_n 0, 1) := by decide +kernel
theorem dX5_init_97 : decode cX5_init 97 = .ok (.iconst 0, 1) := by decide +kernel
theorem dX5_init_98 : decode cX5_init 98 = .ok (.putfield 53, 3) := by decide +kernel
theorem dX5_init_101 : decode cX5_init 101 = .ok (.aload_n 0, 1) := by decide +kernel
theorem dX5_init_102 : decode cX5_init 102 = .ok (.lconst 0, 1) := by decide +kernel
theorem dX5_init_103 : decode cX5_init 103 = .ok (.putfield 57, 3) := by decide +kernel
theorem dX5_init_106 : decode cX5_init 106 = .ok (.return_, 1) := by decide +kernel
set_option maxRecDepth 20000 in
theorem ggX5_type_X3_add : GoodIn wsX5_type wsX3_add := goodIn_r _ [7, 8, 9, 10, 11, 12, 24, 25, 26, 27, 28, 29] (by decide +kernel) (by decide +kernel)
set_option maxRecDepth 20000 in
theorem gX5_type_X3_add : GoodIn wsX5_type (wsV RX5 61 RX3 yX3_add wsX3_add) := goodIn_app (goodIn_of _ (by decide +kernel)) ggX5_type_X3_add
theorem dX5_type_0 : decode cX5_type 0 = .ok (.iload_n 3, 1) := by decide +kernel
theorem dX5_type_1 : decode cX5_type 1 = .ok (.iconst 1, 1) := by decide +kernel
theorem dX5_type_2 : decode cX5_type 2 = .ok (.if_icmp .lt 9, 3) := by decide +kernel
theorem dX5_type_5 : decode cX5_type 5 = .ok (.iload_n 3, 1) := by decide +kernel
theorem dX5_type_6 : decode cX5_type 6 = .ok (.bipush 8, 2) := by decide +kernel
theorem dX5_type_8 : decode cX5_type 8 = .ok (.if_icmp .le 5, 3) := by decide +kernel
theorem dX5_type_11 : decode cX5_type 11 = .ok (.iconst (-1), 1) := by decide +kernel
theorem dX5_type_12 : decode cX5_type 12 = .ok (.ireturn, 1) := by decide +kernel
theorem dX5_type_13 : decode cX5_type 13 = .ok (.aload_n 0, 1) := by decide +kernel
theorem dX5_type_14 : decode cX5_type 14 = .ok (.getfield 10, 3) := by decide +kernel
theorem dX5_type_17 : decode cX5_type 17 = .ok (.lload_n 1, 1) := by decide +kernel
theorem dX5_type_18 : decode cX5_type 18 = .ok (.iload_n 3, 1) := by decide +kernel
theorem dX5_type_19 : decode cX5_type 19 = .ok (.invokevirtual 61, 3) := by decide +kernel
theorem dX5_type_22 : decode cX5_type 22 = .ok (.ifCond .eq 13, 3) := by decide +kernel
theorem dX5_type_25 : decode cX5_type 25 = .ok (.aload_n 0, 1) := by decide +kernel
theorem dX5_type_26 : decode cX5_type 26 = .ok (.getfield 10, 3) := by decide +kernel
theorem dX5_type_29 : decode cX5_type 29 = .ok (.getfield 65, 3) := by decide +kernel
theorem dX5_type_32 : decode cX5_type 32 = .ok (.goto 5, 3) := by decide +kernel
theorem dX5_type_35 : decode cX5_type 35 = .ok (.bipush (-3), 2) := by decide +kernel
theorem dX5_type_37 : decode cX5_type 37 = .ok (.ireturn, 1) := by decide +kernel
set_option maxRecDepth 20000 in
theorem ggX5_clear_X3_empty : GoodIn wsX5_clear wsX3_empty := goodIn_r _ [7, 8, 20, 21, 22, 23, 24, 25] (by decide +kernel) (by decide +kernel)
set_option maxRecDepth 20000 in
theorem gX5_clear_X3_empty : GoodIn wsX5_clear (wsV RX5 68 RX3 yX3_empty wsX3_empty) := goodIn_app (goodIn_of _ (by decide +kernel)) ggX5_clear_X3_empty
theorem dX5_clear_0 : decode cX5_clear 0 = .ok (.aload_n 0, 1) := by decide +kernel
theorem dX5_clear_1 : decode cX5_clear 1 = .ok (.getfield 10, 3) := by decide +kernel
theorem dX5_clear_4 : decode cX5_clear 4 = .ok (.getfield 65, 3) := by decide +kernel
theorem dX5_clear_7 : decode cX5_clear 7 = .ok (.istore_n 1, 1) := by decide +kernel
theorem dX5_clear_8 : decode cX5_clear 8 = .ok (.aload_n 0, 1) := by decide +kernel
theorem dX5_clear_9 : decode cX5_clear 9 = .ok (.getfield 10, 3) := by decide +kernel
theorem dX5_clear_12 : decode cX5_clear 12 = .ok (.invokevirtual 68, 3) := by decide +kernel
theorem dX5_clear_15 : decode cX5_clear 15 = .ok (.iload_n 1, 1) := by decide +kernel
theorem dX5_clear_16 : decode cX5_clear 16 = .ok (.ireturn, 1) := by decide +kernel
set_option maxRecDepth 20000 in
theorem ggX5_valley_X1_readItems : GoodIn wsX5_valley wsX1_readItems := goodIn_r _ [11, 12, 13, 14, 15, 16, 17, 18, 19, 20, 21, 22, 23, 24, 25, 26, 27, 28, 29, 30, 31, 32, 33, 34, 35, 36, 37, 38, 39, 40, 41, 42, 43, 44, 45, 46, 47, 48, 49, 50, 51, 52, 53, 54, 55, 56, 57, 58, 59, 60, 61, 62, 63, 64, 65, 66, 67, 68, 69, 70, 71, 72, 73, 74, 75, 76, 77, 78, 79, 80, 81, 82, 83, 84, 85, 86, 87, 88, 89, 90, 91, 92, 93, 94, 95, 96, 97, 98, 99, 100, 101, 102, 103, 104, 105, 106, 107, 108, 109, 110, 111, 112, 113, 114, 115, 116, 117, 118, 119, 120, 121, 122, 10, 123, 124, 125, 126, 127, 128, 129, 130, 131, 132, 133, 134, 135, 136, 137, 138, 139, 140, 141, 142, 143, 144, 145, 146, 147, 148, 149, 150, 151, 152, 153, 154, 155, 156, 157, 194, 195, 196, 197, 198, 199, 200, 201, 202, 203, 204, 205, 206, 207] (by decide +kernel) (by decide +kernel)
set_option maxRecDepth 20000 in
theorem gX5_valley_X1_readItems : GoodIn wsX5_valley (wsV RX5 71 RX1 yX1_readItems wsX1_readItems) := goodIn_app (goodIn_of _ (by decide +kernel)) ggX5_valley_X1_readItems
set_option maxRecDepth 20000 in
theorem ggX5_valley_X4_copyFrom : GoodIn wsX5_valley wsX4_copyFrom := goodIn_r _ [161, 25, 26, 27, 28, 162, 163, 164, 32, 165, 153, 34, 135, 166, 56, 57, 58, 43, 44, 45, 142, 143, 200, 201, 202, 203, 204, 205, 206] (by decide +kernel) (by decide +kernel)
set_option maxRecDepth 20000 in
theorem gX5_valley_X4_copyFrom : GoodIn wsX5_valley (wsV RX5 75 RX4 yX4_copyFrom wsX4_copyFrom) := goodIn_app (goodIn_of _ (by decide +kernel)) ggX5_valley_X4_copyFrom
set_option maxRecDepth 20000 in
theorem ggX5_valley_X0_begin : GoodIn wsX5_valley wsX0_begin := goodIn_r _ [171, 172, 173, 174, 175, 176, 177, 163, 164, 32, 165, 153, 34, 135, 166, 56, 57, 58, 43, 44, 45, 142, 143, 178, 30, 31, 33, 208, 209, 210, 211, 200, 201, 202, 203, 204, 205, 206] (by decide +kernel) (by decide +kernel)
set_option maxRecDepth 20000 in
theorem gX5_valley_X0_begin : GoodIn wsX5_valley (wsV RX5 79 RX0 yX0_begin wsX0_begin) := goodIn_app (goodIn_of _ (by decide +kernel)) ggX5_valley_X0_begin
set_option maxRecDepth 20000 in
theorem ggX5_valley_X3_empty : GoodIn wsX5_valley wsX3_empty := goodIn_r _ [182, 39, 194, 195, 196, 197, 198, 199] (by decide +kernel) (by decide +kernel)
set_option maxRecDepth 20000 in
theorem gX5_valley_X3_empty : GoodIn wsX5_valley (wsV RX5 68 RX3 yX3_empty wsX3_empty) := goodIn_app (goodIn_of _ (by decide +kernel)) ggX5_valley_X3_empty
theorem dX5_valley_0 : decode cX5_valley 0 = .ok (.aload_n 0, 1) := by decide +kernel
theorem dX5_valley_1 : decode cX5_valley 1 = .ok (.getfield 19, 3) := by decide +kernel
theorem dX5_valley_4 : decode cX5_valley 4 = .ok (.aload_n 0, 1) := by decide +kernel
theorem dX5_valley_5 : decode cX5_valley 5 = .ok (.getfield 10, 3) := by decide +kernel
theorem dX5_valley_8 : decode cX5_valley 8 = .ok (.aload_n 0, 1) := by decide +kernel
theorem dX5_valley_9 : decode cX5_valley 9 = .ok (.getfield 30, 3) := by decide +kernel
theorem dX5_valley_12 : decode cX5_valley 12 = .ok (.invokevirtual 71, 3) := by decide +kernel
theorem dX5_valley_15 : decode cX5_valley 15 = .ok (.istore_n 1, 1) := by decide +kernel
theorem dX5_valley_16 : decode cX5_valley 16 = .ok (.iload_n 1, 1) := by decide +kernel
theorem dX5_valley_17 : decode cX5_valley 17 = .ok (.ifCond .lt 37, 3) := by decide +kernel
theorem dX5_valley_20 : decode cX5_valley 20 = .ok (.aload_n 0, 1) := by decide +kernel
theorem dX5_valley_21 : decode cX5_valley 21 = .ok (.getfield 26, 3) := by decide +kernel
theorem dX5_valley_24 : decode cX5_valley 24 = .ok (.aload_n 0, 1) := by decide +kernel
theorem dX5_valley_25 : decode cX5_valley 25 = .ok (.getfield 30, 3) := by decide +kernel
theorem dX5_valley_28 : decode cX5_valley 28 = .ok (.invokevirtual 75, 3) := by decide +kernel
theorem dX5_valley_31 : decode cX5_valley 31 = .ok (.aload_n 0, 1) := by decide +kernel
theorem dX5_valley_32 : decode cX5_valley 32 = .ok (.getfield 36, 3) := by decide +kernel
theorem dX5_valley_35 : decode cX5_valley 35 = .ok (.aload_n 0, 1) := by decide +kernel
theorem dX5_valley_36 : decode cX5_valley 36 = .ok (.getfield 26, 3) := by decide +kernel
theorem dX5_valley_39 : decode cX5_valley 39 = .ok (.invokevirtual 79, 3) := by decide +kernel
theorem dX5_valley_42 : decode cX5_valley 42 = .ok (.aload_n 0, 1) := by decide +kernel
theorem dX5_valley_43 : decode cX5_valley 43 = .ok (.iconst 0, 1) := by decide +kernel
theorem dX5_valley_44 : decode cX5_valley 44 = .ok (.putfield 53, 3) := by decide +kernel
theorem dX5_valley_47 : decode cX5_valley 47 = .ok (.aload_n 0, 1) := by decide +kernel
theorem dX5_valley_48 : decode cX5_valley 48 = .ok (.getfield 10, 3) := by decide +kernel
theorem dX5_valley_51 : decode cX5_valley 51 = .ok (.invokevirtual 68, 3) := by decide +kernel
theorem dX5_valley_54 : decode cX5_valley 54 = .ok (.iload_n 1, 1) := by decide +kernel
theorem dX5_valley_55 : decode cX5_valley 55 = .ok (.ireturn, 1) := by decide +kernel
set_option maxRecDepth 20000 in
theorem ggX5_looks_X5_isDish : GoodIn wsX5_looks wsX5_isDish := goodIn_r _ [6, 1, 7, 8, 35, 36, 37, 38, 39, 40, 41, 42, 43, 44, 45, 46, 47, 48, 49, 50, 51, 52] (by decide +kernel) (by decide +kernel)
set_option maxRecDepth 20000 in
theorem gX5_looks_X5_isDish : GoodIn wsX5_looks (wsV RX5 82 RX5 yX5_isDish wsX5_isDish) := goodIn_app (goodIn_of _ (by decide +kernel)) ggX5_looks_X5_isDish
set_option maxRecDepth 20000 in
theorem ggX5_looks_X5_isHour : GoodIn wsX5_looks wsX5_isHour := goodIn_r _ [11] (by decide +kernel) (by decide +kernel)
set_option maxRecDepth 20000 in
theorem gX5_looks_X5_isHour : GoodIn wsX5_looks (va_wsS RX5 86 yX5_isHour wsX5_isHour) := goodIn_app (goodIn_of _ (by decide +kernel)) ggX5_looks_X5_isHour
set_option maxRecDepth 20000 in
theorem ggX5_looks_X0_placeSeen : GoodIn wsX5_looks wsX0_placeSeen := goodIn_r _ [16, 17, 18, 19, 20, 21, 22, 23, 24, 25, 26, 27, 28, 29, 5, 30, 31, 32, 33, 34, 46, 47, 48, 49, 50, 51, 52] (by decide +kernel) (by decide +kernel)
set_option maxRecDepth 20000 in
theorem gX5_looks_X0_placeSeen : GoodIn wsX5_looks (wsV RX5 89 RX0 yX0_placeSeen wsX0_placeSeen) := goodIn_app (goodIn_of _ (by decide +kernel)) ggX5_looks_X0_placeSeen
theorem dX5_looks_0 : decode cX5_looks 0 = .ok (.aload_n 0, 1) := by decide +kernel
theorem dX5_looks_1 : decode cX5_looks 1 = .ok (.iload_n 1, 1) := by decide +kernel
theorem dX5_looks_2 : decode cX5_looks 2 = .ok (.invokevirtual 82, 3) := by decide +kernel
theorem dX5_looks_5 : decode cX5_looks 5 = .ok (.ifCond .eq 22, 3) := by decide +kernel
theorem dX5_looks_8 : decode cX5_looks 8 = .ok (.iload_n 2, 1) := by decide +kernel
theorem dX5_looks_9 : decode cX5_looks 9 = .ok (.invokestatic 86, 3) := by decide +kernel
theorem dX5_looks_12 : decode cX5_looks 12 = .ok (.ifCond .eq 15, 3) := by decide +kernel
theorem dX5_looks_15 : decode cX5_looks 15 = .ok (.aload_n 0, 1) := by decide +kernel
theorem dX5_looks_16 : decode cX5_looks 16 = .ok (.getfield 36, 3) := by decide +kernel
theorem dX5_looks_19 : decode cX5_looks 19 = .ok (.iload_n 1, 1) := by decide +kernel
theorem dX5_looks_20 : decode cX5_looks 20 = .ok (.iload_n 2, 1) := by decide +kernel
theorem dX5_looks_21 : decode cX5_looks 21 = .ok (.invokevirtual 89, 3) := by decide +kernel
theorem dX5_looks_24 : decode cX5_looks 24 = .ok (.goto 4, 3) := by decide +kernel
theorem dX5_looks_27 : decode cX5_looks 27 = .ok (.iconst (-1), 1) := by decide +kernel
theorem dX5_looks_28 : decode cX5_looks 28 = .ok (.ireturn, 1) := by decide +kernel
set_option maxRecDepth 20000 in
theorem ggX5_hears_X5_isDish : GoodIn wsX5_hears wsX5_isDish := goodIn_r _ [7, 2, 8, 9, 52, 53, 54, 55, 56, 57, 58, 59, 60, 61, 62, 63, 64, 65, 66, 67, 68, 69] (by decide +kernel) (by decide +kernel)
set_option maxRecDepth 20000 in
theorem gX5_hears_X5_isDish : GoodIn wsX5_hears (wsV RX5 82 RX5 yX5_isDish wsX5_isDish) := goodIn_app (goodIn_of _ (by decide +kernel)) ggX5_hears_X5_isDish
set_option maxRecDepth 20000 in
theorem ggX5_hears_X5_isHour : GoodIn wsX5_hears wsX5_isHour := goodIn_r _ [12] (by decide +kernel) (by decide +kernel)
set_option maxRecDepth 20000 in
theorem gX5_hears_X5_isHour : GoodIn wsX5_hears (va_wsS RX5 86 yX5_isHour wsX5_isHour) := goodIn_app (goodIn_of _ (by decide +kernel)) ggX5_hears_X5_isHour
set_option maxRecDepth 20000 in
theorem ggX5_hears_X0_placeSeen : GoodIn wsX5_hears wsX0_placeSeen := goodIn_r _ [17, 18, 19, 20, 21, 22, 23, 24, 25, 26, 27, 28, 29, 30, 6, 31, 32, 33, 34, 35, 63, 64, 65, 66, 67, 68, 69] (by decide +kernel) (by decide +kernel)
set_option maxRecDepth 20000 in
theorem gX5_hears_X0_placeSeen : GoodIn wsX5_hears (wsV RX5 89 RX0 yX0_placeSeen wsX0_placeSeen) := goodIn_app (goodIn_of _ (by decide +kernel)) ggX5_hears_X0_placeSeen
set_option maxRecDepth 20000 in
theorem ggX5_hears_X4_notesSpoken : GoodIn wsX5_hears wsX4_notesSpoken := goodIn_r _ [40, 41, 42, 43, 20, 21, 22, 23, 24, 25, 26, 27, 28, 29, 30, 6, 31, 70, 71, 72, 73, 67, 68, 69] (by decide +kernel) (by decide +kernel)
set_option maxRecDepth 20000 in
theorem gX5_hears_X4_notesSpoken : GoodIn wsX5_hears (wsV RX5 93 RX4 yX4_notesSpoken wsX4_notesSpoken) := goodIn_app (goodIn_of _ (by decide +kernel)) ggX5_hears_X4_notesSpoken
set_option maxRecDepth 20000 in
theorem ggX5_hears_X4_notesOfNoises : GoodIn wsX5_hears wsX4_notesOfNoises := goodIn_r _ [47, 48, 42, 43, 20, 21, 22, 23, 24, 25, 26, 27, 28, 29, 30, 6, 31, 49, 50, 39, 51, 70, 71, 72, 73, 67, 68, 69] (by decide +kernel) (by decide +kernel)
set_option maxRecDepth 20000 in
theorem gX5_hears_X4_notesOfNoises : GoodIn wsX5_hears (wsV RX5 96 RX4 yX4_notesOfNoises wsX4_notesOfNoises) := goodIn_app (goodIn_of _ (by decide +kernel)) ggX5_hears_X4_notesOfNoises
theorem dX5_hears_0 : decode cX5_hears 0 = .ok (.aload_n 0, 1) := by decide +kernel
theorem dX5_hears_1 : decode cX5_hears 1 = .ok (.iload_n 1, 1) := by decide +kernel
theorem dX5_hears_2 : decode cX5_hears 2 = .ok (.invokevirtual 82, 3) := by decide +kernel
theorem dX5_hears_5 : decode cX5_hears 5 = .ok (.ifCond .eq 10, 3) := by decide +kernel
theorem dX5_hears_8 : decode cX5_hears 8 = .ok (.iload_n 2, 1) := by decide +kernel
theorem dX5_hears_9 : decode cX5_hears 9 = .ok (.invokestatic 86, 3) := by decide +kernel
theorem dX5_hears_12 : decode cX5_hears 12 = .ok (.ifCond .ne 5, 3) := by decide +kernel
theorem dX5_hears_15 : decode cX5_hears 15 = .ok (.iconst (-1), 1) := by decide +kernel
theorem dX5_hears_16 : decode cX5_hears 16 = .ok (.ireturn, 1) := by decide +kernel
theorem dX5_hears_17 : decode cX5_hears 17 = .ok (.aload_n 0, 1) := by decide +kernel
theorem dX5_hears_18 : decode cX5_hears 18 = .ok (.getfield 26, 3) := by decide +kernel
theorem dX5_hears_21 : decode cX5_hears 21 = .ok (.aload_n 0, 1) := by decide +kernel
theorem dX5_hears_22 : decode cX5_hears 22 = .ok (.getfield 36, 3) := by decide +kernel
theorem dX5_hears_25 : decode cX5_hears 25 = .ok (.iload_n 1, 1) := by decide +kernel
theorem dX5_hears_26 : decode cX5_hears 26 = .ok (.iload_n 2, 1) := by decide +kernel
theorem dX5_hears_27 : decode cX5_hears 27 = .ok (.invokevirtual 89, 3) := by decide +kernel
theorem dX5_hears_30 : decode cX5_hears 30 = .ok (.iload_n 2, 1) := by decide +kernel
theorem dX5_hears_31 : decode cX5_hears 31 = .ok (.invokevirtual 93, 3) := by decide +kernel
theorem dX5_hears_34 : decode cX5_hears 34 = .ok (.aload_n 0, 1) := by decide +kernel
theorem dX5_hears_35 : decode cX5_hears 35 = .ok (.getfield 26, 3) := by decide +kernel
theorem dX5_hears_38 : decode cX5_hears 38 = .ok (.iload_n 2, 1) := by decide +kernel
theorem dX5_hears_39 : decode cX5_hears 39 = .ok (.invokevirtual 96, 3) := by decide +kernel
theorem dX5_hears_42 : decode cX5_hears 42 = .ok (.ior, 1) := by decide +kernel
theorem dX5_hears_43 : decode cX5_hears 43 = .ok (.ireturn, 1) := by decide +kernel
set_option maxRecDepth 20000 in
theorem ggX5_asker_X5_isAsker : GoodIn wsX5_asker wsX5_isAsker := goodIn_r _ [7, 1, 2, 8, 25, 26, 27, 28, 29, 30, 31, 32, 33, 34, 35, 36, 37, 38, 39, 40, 41, 42] (by decide +kernel) (by decide +kernel)
set_option maxRecDepth 20000 in
theorem gX5_asker_X5_isAsker : GoodIn wsX5_asker (wsV RX5 100 RX5 yX5_isAsker wsX5_isAsker) := goodIn_app (goodIn_of _ (by decide +kernel)) ggX5_asker_X5_isAsker
set_option maxRecDepth 20000 in
theorem ggX5_asker_X5_isBit : GoodIn wsX5_asker wsX5_isBit := goodIn_r _ [11] (by decide +kernel) (by decide +kernel)
set_option maxRecDepth 20000 in
theorem gX5_asker_X5_isBit : GoodIn wsX5_asker (va_wsS RX5 103 yX5_isBit wsX5_isBit) := goodIn_app (goodIn_of _ (by decide +kernel)) ggX5_asker_X5_isBit
set_option maxRecDepth 20000 in
theorem ggX5_asker_X2_number : GoodIn wsX5_asker wsX2_number := goodIn_r _ [16, 17, 18, 19, 20, 15, 21, 22, 23, 6, 24, 40, 41, 42] (by decide +kernel) (by decide +kernel)
set_option maxRecDepth 20000 in
theorem gX5_asker_X2_number : GoodIn wsX5_asker (wsV RX5 110 RX2 yX2_number wsX2_number) := goodIn_app (goodIn_of _ (by decide +kernel)) ggX5_asker_X2_number
theorem dX5_asker_0 : decode cX5_asker 0 = .ok (.aload_n 0, 1) := by decide +kernel
theorem dX5_asker_1 : decode cX5_asker 1 = .ok (.iload_n 1, 1) := by decide +kernel
theorem dX5_asker_2 : decode cX5_asker 2 = .ok (.invokevirtual 100, 3) := by decide +kernel
theorem dX5_asker_5 : decode cX5_asker 5 = .ok (.ifCond .eq 25, 3) := by decide +kernel
theorem dX5_asker_8 : decode cX5_asker 8 = .ok (.iload_n 2, 1) := by decide +kernel
theorem dX5_asker_9 : decode cX5_asker 9 = .ok (.invokestatic 103, 3) := by decide +kernel
theorem dX5_asker_12 : decode cX5_asker 12 = .ok (.ifCond .eq 18, 3) := by decide +kernel
theorem dX5_asker_15 : decode cX5_asker 15 = .ok (.aload_n 0, 1) := by decide +kernel
theorem dX5_asker_16 : decode cX5_asker 16 = .ok (.getfield 26, 3) := by decide +kernel
theorem dX5_asker_19 : decode cX5_asker 19 = .ok (.getfield 106, 3) := by decide +kernel
theorem dX5_asker_22 : decode cX5_asker 22 = .ok (.iload_n 1, 1) := by decide +kernel
theorem dX5_asker_23 : decode cX5_asker 23 = .ok (.iload_n 2, 1) := by decide +kernel
theorem dX5_asker_24 : decode cX5_asker 24 = .ok (.invokevirtual 110, 3) := by decide +kernel
theorem dX5_asker_27 : decode cX5_asker 27 = .ok (.goto 4, 3) := by decide +kernel
theorem dX5_asker_30 : decode cX5_asker 30 = .ok (.iconst (-1), 1) := by decide +kernel
theorem dX5_asker_31 : decode cX5_asker 31 = .ok (.ireturn, 1) := by decide +kernel
set_option maxRecDepth 20000 in
theorem ggX5_turn_X5_isDish : GoodIn wsX5_turn wsX5_isDish := goodIn_r _ [7, 1, 2, 8, 57, 58, 59, 60, 61, 62, 63, 64, 65, 66, 67, 68, 69, 70, 71, 72, 73, 74] (by decide +kernel) (by decide +kernel)
set_option maxRecDepth 20000 in
theorem gX5_turn_X5_isDish : GoodIn wsX5_turn (wsV RX5 82 RX5 yX5_isDish wsX5_isDish) := goodIn_app (goodIn_of _ (by decide +kernel)) ggX5_turn_X5_isDish
set_option maxRecDepth 20000 in
theorem ggX5_turn_X2_number : GoodIn wsX5_turn wsX2_number := goodIn_r _ [13, 14, 15, 16, 17, 12, 18, 19, 20, 6, 21, 72, 73, 74] (by decide +kernel) (by decide +kernel)
set_option maxRecDepth 20000 in
theorem gX5_turn_X2_number : GoodIn wsX5_turn (wsV RX5 110 RX2 yX2_number wsX2_number) := goodIn_app (goodIn_of _ (by decide +kernel)) ggX5_turn_X2_number
set_option maxRecDepth 20000 in
theorem ggX5_turn_X2_set : GoodIn wsX5_turn wsX2_set := goodIn_r _ [25, 14, 15, 16, 17, 12, 18, 19, 26, 6, 27, 72, 73, 74] (by decide +kernel) (by decide +kernel)
set_option maxRecDepth 20000 in
theorem gX5_turn_X2_set : GoodIn wsX5_turn (wsV RX5 118 RX2 yX2_set wsX2_set) := goodIn_app (goodIn_of _ (by decide +kernel)) ggX5_turn_X2_set
set_option maxRecDepth 20000 in
theorem ggX5_turn_X0_remember : GoodIn wsX5_turn wsX0_remember := goodIn_r _ [32, 33, 34, 35, 36, 12, 37, 19, 38, 39, 40, 41, 42, 14, 20, 6, 21, 26, 27, 43, 44, 45, 46, 47, 48, 49, 50, 51, 52, 53, 54, 55, 56, 23, 24, 25, 15, 16, 17, 18, 68, 69, 70, 71, 72, 73, 74] (by decide +kernel) (by decide +kernel)
set_option maxRecDepth 20000 in
theorem gX5_turn_X0_remember : GoodIn wsX5_turn (wsV RX5 122 RX0 yX0_remember wsX0_remember) := goodIn_app (goodIn_of _ (by decide +kernel)) ggX5_turn_X0_remember
theorem dX5_turn_0 : decode cX5_turn 0 = .ok (.aload_n 0, 1) := by decide +kernel
theorem dX5_turn_1 : decode cX5_turn 1 = .ok (.iload_n 1, 1) := by decide +kernel
theorem dX5_turn_2 : decode cX5_turn 2 = .ok (.invokevirtual 82, 3) := by decide +kernel
theorem dX5_turn_5 : decode cX5_turn 5 = .ok (.ifCond .eq 13, 3) := by decide +kernel
theorem dX5_turn_8 : decode cX5_turn 8 = .ok (.iload_n 2, 1) := by decide +kernel
theorem dX5_turn_9 : decode cX5_turn 9 = .ok (.ifCond .lt 9, 3) := by decide +kernel
theorem dX5_turn_12 : decode cX5_turn 12 = .ok (.iload_n 2, 1) := by decide +kernel
theorem dX5_turn_13 : decode cX5_turn 13 = .ok (.bipush 8, 2) := by decide +kernel
theorem dX5_turn_15 : decode cX5_turn 15 = .ok (.if_icmp .lt 5, 3) := by decide +kernel
theorem dX5_turn_18 : decode cX5_turn 18 = .ok (.iconst (-1), 1) := by decide +kernel
theorem dX5_turn_19 : decode cX5_turn 19 = .ok (.ireturn, 1) := by decide +kernel
theorem dX5_turn_20 : decode cX5_turn 20 = .ok (.aload_n 0, 1) := by decide +kernel
theorem dX5_turn_21 : decode cX5_turn 21 = .ok (.getfield 36, 3) := by decide +kernel
theorem dX5_turn_24 : decode cX5_turn 24 = .ok (.getfield 115, 3) := by decide +kernel
theorem dX5_turn_27 : decode cX5_turn 27 = .ok (.iload_n 1, 1) := by decide +kernel
theorem dX5_turn_28 : decode cX5_turn 28 = .ok (.iconst 0, 1) := by decide +kernel
theorem dX5_turn_29 : decode cX5_turn 29 = .ok (.invokevirtual 110, 3) := by decide +kernel
theorem dX5_turn_32 : decode cX5_turn 32 = .ok (.istore_n 3, 1) := by decide +kernel
theorem dX5_turn_33 : decode cX5_turn 33 = .ok (.iload_n 3, 1) := by decide +kernel
theorem dX5_turn_34 : decode cX5_turn 34 = .ok (.iload_n 2, 1) := by decide +kernel
theorem dX5_turn_35 : decode cX5_turn 35 = .ok (.if_icmp .ne 6, 3) := by decide +kernel
theorem dX5_turn_38 : decode cX5_turn 38 = .ok (.bipush (-2), 2) := by decide +kernel
theorem dX5_turn_40 : decode cX5_turn 40 = .ok (.ireturn, 1) := by decide +kernel
theorem dX5_turn_41 : decode cX5_turn 41 = .ok (.aload_n 0, 1) := by decide +kernel
theorem dX5_turn_42 : decode cX5_turn 42 = .ok (.getfield 36, 3) := by decide +kernel
theorem dX5_turn_45 : decode cX5_turn 45 = .ok (.getfield 115, 3) := by decide +kernel
theorem dX5_turn_48 : decode cX5_turn 48 = .ok (.iload_n 1, 1) := by decide +kernel
theorem dX5_turn_49 : decode cX5_turn 49 = .ok (.iconst 0, 1) := by decide +kernel
theorem dX5_turn_50 : decode cX5_turn 50 = .ok (.iload_n 2, 1) := by decide +kernel
theorem dX5_turn_51 : decode cX5_turn 51 = .ok (.invokevirtual 118, 3) := by decide +kernel
theorem dX5_turn_54 : decode cX5_turn 54 = .ok (.aload_n 0, 1) := by decide +kernel
theorem dX5_turn_55 : decode cX5_turn 55 = .ok (.getfield 36, 3) := by decide +kernel
theorem dX5_turn_58 : decode cX5_turn 58 = .ok (.iload_n 1, 1) := by decide +kernel
theorem dX5_turn_59 : decode cX5_turn 59 = .ok (.iload_n 3, 1) := by decide +kernel
theorem dX5_turn_60 : decode cX5_turn 60 = .ok (.invokevirtual 122, 3) := by decide +kernel
theorem dX5_turn_63 : decode cX5_turn 63 = .ok (.iload_n 3, 1) := by decide +kernel
theorem dX5_turn_64 : decode cX5_turn 64 = .ok (.ireturn, 1) := by decide +kernel
set_option maxRecDepth 20000 in
theorem ggX5_lend_X5_isDish : GoodIn wsX5_lend wsX5_isDish := goodIn_r _ [8, 1, 9, 3, 64, 65, 66, 67, 68, 69, 70, 71, 72, 73, 74, 75, 76, 77, 78, 79, 80, 81] (by decide +kernel) (by decide +kernel)
set_option maxRecDepth 20000 in
theorem gX5_lend_X5_isDish : GoodIn wsX5_lend (wsV RX5 82 RX5 yX5_isDish wsX5_isDish) := goodIn_app (goodIn_of _ (by decide +kernel)) ggX5_lend_X5_isDish
set_option maxRecDepth 20000 in
theorem ggX5_lend_X5_isHour : GoodIn wsX5_lend wsX5_isHour := goodIn_r _ [12] (by decide +kernel) (by decide +kernel)
set_option maxRecDepth 20000 in
theorem gX5_lend_X5_isHour : GoodIn wsX5_lend (va_wsS RX5 86 yX5_isHour wsX5_isHour) := goodIn_app (goodIn_of _ (by decide +kernel)) ggX5_lend_X5_isHour
set_option maxRecDepth 20000 in
theorem ggX5_lend_X5_isAsker : GoodIn wsX5_lend wsX5_isAsker := goodIn_r _ [16, 17, 18, 3, 64, 65, 66, 67, 68, 69, 70, 71, 72, 73, 74, 82, 83, 84, 85, 79, 80, 81] (by decide +kernel) (by decide +kernel)
set_option maxRecDepth 20000 in
theorem gX5_lend_X5_isAsker : GoodIn wsX5_lend (wsV RX5 100 RX5 yX5_isAsker wsX5_isAsker) := goodIn_app (goodIn_of _ (by decide +kernel)) ggX5_lend_X5_isAsker
set_option maxRecDepth 20000 in
theorem ggX5_lend_X2_isFull : GoodIn wsX5_lend wsX2_isFull := goodIn_r _ [23, 24, 25, 79, 80, 81] (by decide +kernel) (by decide +kernel)
set_option maxRecDepth 20000 in
theorem gX5_lend_X2_isFull : GoodIn wsX5_lend (wsV RX5 129 RX2 yX2_isFull wsX2_isFull) := goodIn_app (goodIn_of _ (by decide +kernel)) ggX5_lend_X2_isFull
set_option maxRecDepth 20000 in
theorem ggX5_lend_X2_add : GoodIn wsX5_lend wsX2_add := goodIn_r _ [29, 24, 30, 20, 21, 22, 23, 25, 31, 32, 33, 34, 35, 36, 37, 38, 39, 40, 7, 41, 79, 80, 81] (by decide +kernel) (by decide +kernel)
set_option maxRecDepth 20000 in
theorem gX5_lend_X2_add : GoodIn wsX5_lend (wsV RX5 133 RX2 yX2_add wsX2_add) := goodIn_app (goodIn_of _ (by decide +kernel)) ggX5_lend_X2_add
set_option maxRecDepth 20000 in
theorem ggX5_lend_X0_remember : GoodIn wsX5_lend wsX0_remember := goodIn_r _ [46, 47, 48, 20, 21, 22, 23, 24, 25, 49, 50, 51, 52, 35, 53, 7, 54, 40, 41, 55, 56, 57, 58, 59, 60, 61, 62, 63, 27, 28, 29, 30, 31, 32, 33, 34, 36, 37, 38, 39, 75, 76, 77, 78, 79, 80, 81] (by decide +kernel) (by decide +kernel)
set_option maxRecDepth 20000 in
theorem gX5_lend_X0_remember : GoodIn wsX5_lend (wsV RX5 122 RX0 yX0_remember wsX0_remember) := goodIn_app (goodIn_of _ (by decide +kernel)) ggX5_lend_X0_remember
theorem dX5_lend_0 : decode cX5_lend 0 = .ok (.aload_n 0, 1) := by decide +kernel
theorem dX5_lend_1 : decode cX5_lend 1 = .ok (.iload_n 1, 1) := by decide +kernel
theorem dX5_lend_2 : decode cX5_lend 2 = .ok (.invokevirtual 82, 3) := by decide +kernel
theorem dX5_lend_5 : decode cX5_lend 5 = .ok (.ifCond .eq 18, 3) := by decide +kernel
theorem dX5_lend_8 : decode cX5_lend 8 = .ok (.iload_n 2, 1) := by decide +kernel
theorem dX5_lend_9 : decode cX5_lend 9 = .ok (.invokestatic 86, 3) := by decide +kernel
theorem dX5_lend_12 : decode cX5_lend 12 = .ok (.ifCond .eq 11, 3) := by decide +kernel
theorem dX5_lend_15 : decode cX5_lend 15 = .ok (.aload_n 0, 1) := by decide +kernel
theorem dX5_lend_16 : decode cX5_lend 16 = .ok (.iload_n 3, 1) := by decide +kernel
theorem dX5_lend_17 : decode cX5_lend 17 = .ok (.invokevirtual 100, 3) := by decide +kernel
theorem dX5_lend_20 : decode cX5_lend 20 = .ok (.ifCond .ne 5, 3) := by decide +kernel
theorem dX5_lend_23 : decode cX5_lend 23 = .ok (.iconst (-1), 1) := by decide +kernel
theorem dX5_lend_24 : decode cX5_lend 24 = .ok (.ireturn, 1) := by decide +kernel
theorem dX5_lend_25 : decode cX5_lend 25 = .ok (.aload_n 0, 1) := by decide +kernel
theorem dX5_lend_26 : decode cX5_lend 26 = .ok (.getfield 36, 3) := by decide +kernel
theorem dX5_lend_29 : decode cX5_lend 29 = .ok (.getfield 126, 3) := by decide +kernel
theorem dX5_lend_32 : decode cX5_lend 32 = .ok (.invokevirtual 129, 3) := by decide +kernel
theorem dX5_lend_35 : decode cX5_lend 35 = .ok (.ifCond .eq 6, 3) := by decide +kernel
theorem dX5_lend_38 : decode cX5_lend 38 = .ok (.bipush (-3), 2) := by decide +kernel
theorem dX5_lend_40 : decode cX5_lend 40 = .ok (.ireturn, 1) := by decide +kernel
theorem dX5_lend_41 : decode cX5_lend 41 = .ok (.aload_n 0, 1) := by decide +kernel
theorem dX5_lend_42 : decode cX5_lend 42 = .ok (.getfield 36, 3) := by decide +kernel
theorem dX5_lend_45 : decode cX5_lend 45 = .ok (.getfield 126, 3) := by decide +kernel
theorem dX5_lend_48 : decode cX5_lend 48 = .ok (.iload_n 1, 1) := by decide +kernel
theorem dX5_lend_49 : decode cX5_lend 49 = .ok (.iload_n 2, 1) := by decide +kernel
theorem dX5_lend_50 : decode cX5_lend 50 = .ok (.iload_n 3, 1) := by decide +kernel
theorem dX5_lend_51 : decode cX5_lend 51 = .ok (.iconst 0, 1) := by decide +kernel
theorem dX5_lend_52 : decode cX5_lend 52 = .ok (.invokevirtual 133, 3) := by decide +kernel
theorem dX5_lend_55 : decode cX5_lend 55 = .ok (.aload_n 0, 1) := by decide +kernel
theorem dX5_lend_56 : decode cX5_lend 56 = .ok (.getfield 36, 3) := by decide +kernel
theorem dX5_lend_59 : decode cX5_lend 59 = .ok (.iconst (-1), 1) := by decide +kernel
theorem dX5_lend_60 : decode cX5_lend 60 = .ok (.iconst 0, 1) := by decide +kernel
theorem dX5_lend_61 : decode cX5_lend 61 = .ok (.invokevirtual 122, 3) := by decide +kernel
theorem dX5_lend_64 : decode cX5_lend 64 = .ok (.aload_n 0, 1) := by decide +kernel
theorem dX5_lend_65 : decode cX5_lend 65 = .ok (.getfield 36, 3) := by decide +kernel
theorem dX5_lend_68 : decode cX5_lend 68 = .ok (.getfield 126, 3) := by decide +kernel
theorem dX5_lend_71 : decode cX5_lend 71 = .ok (.getfield 136, 3) := by decide +kernel
theorem dX5_lend_74 : decode cX5_lend 74 = .ok (.ireturn, 1) := by decide +kernel
set_option maxRecDepth 20000 in
theorem ggX5_lent_X2_number : GoodIn wsX5_lent wsX2_number := goodIn_r _ [8, 9, 10, 11, 12, 7, 13, 14, 15, 16, 17, 33, 34, 35] (by decide +kernel) (by decide +kernel)
set_option maxRecDepth 20000 in
theorem gX5_lent_X2_number : GoodIn wsX5_lent (wsV RX5 110 RX2 yX2_number wsX2_number) := goodIn_app (goodIn_of _ (by decide +kernel)) ggX5_lent_X2_number
theorem dX5_lent_0 : decode cX5_lent 0 = .ok (.iload_n 1, 1) := by decide +kernel
theorem dX5_lent_1 : decode cX5_lent 1 = .ok (.ifCond .lt 26, 3) := by decide +kernel
theorem dX5_lent_4 : decode cX5_lent 4 = .ok (.iload_n 1, 1) := by decide +kernel
theorem dX5_lent_5 : decode cX5_lent 5 = .ok (.aload_n 0, 1) := by decide +kernel
theorem dX5_lent_6 : decode cX5_lent 6 = .ok (.getfield 36, 3) := by decide +kernel
theorem dX5_lent_9 : decode cX5_lent 9 = .ok (.getfield 126, 3) := by decide +kernel
theorem dX5_lent_12 : decode cX5_lent 12 = .ok (.getfield 136, 3) := by decide +kernel
theorem dX5_lent_15 : decode cX5_lent 15 = .ok (.if_icmp .ge 12, 3) := by decide +kernel
theorem dX5_lent_18 : decode cX5_lent 18 = .ok (.iload_n 2, 1) := by decide +kernel
theorem dX5_lent_19 : decode cX5_lent 19 = .ok (.ifCond .lt 8, 3) := by decide +kernel
theorem dX5_lent_22 : decode cX5_lent 22 = .ok (.iload_n 2, 1) := by decide +kernel
theorem dX5_lent_23 : decode cX5_lent 23 = .ok (.iconst 2, 1) := by decide +kernel
theorem dX5_lent_24 : decode cX5_lent 24 = .ok (.if_icmp .le 5, 3) := by decide +kernel
theorem dX5_lent_27 : decode cX5_lent 27 = .ok (.iconst (-1), 1) := by decide +kernel
theorem dX5_lent_28 : decode cX5_lent 28 = .ok (.ireturn, 1) := by decide +kernel
theorem dX5_lent_29 : decode cX5_lent 29 = .ok (.aload_n 0, 1) := by decide +kernel
theorem dX5_lent_30 : decode cX5_lent 30 = .ok (.getfield 36, 3) := by decide +kernel
theorem dX5_lent_33 : decode cX5_lent 33 = .ok (.getfield 126, 3) := by decide +kernel
theorem dX5_lent_36 : decode cX5_lent 36 = .ok (.iload_n 1, 1) := by decide +kernel
theorem dX5_lent_37 : decode cX5_lent 37 = .ok (.iload_n 2, 1) := by decide +kernel
theorem dX5_lent_38 : decode cX5_lent 38 = .ok (.invokevirtual 110, 3) := by decide +kernel
theorem dX5_lent_41 : decode cX5_lent 41 = .ok (.ireturn, 1) := by decide +kernel
set_option maxRecDepth 20000 in
theorem ggX5_twice_X5_isBit : GoodIn wsX5_twice wsX5_isBit := goodIn_r _ [5] (by decide +kernel) (by decide +kernel)
set_option maxRecDepth 20000 in
theorem gX5_twice_X5_isBit : GoodIn wsX5_twice (va_wsS RX5 103 yX5_isBit wsX5_isBit) := goodIn_app (goodIn_of _ (by decide +kernel)) ggX5_twice_X5_isBit
set_option maxRecDepth 20000 in
theorem ggX5_twice_X0_firstLentTwice : GoodIn wsX5_twice wsX0_firstLentTwice := goodIn_r _ [10, 11, 12, 13, 14, 15, 16, 17, 18, 19, 20, 21, 22, 23, 24, 4, 25, 55, 56, 57, 58, 59, 60, 61] (by decide +kernel) (by decide +kernel)
set_option maxRecDepth 20000 in
theorem gX5_twice_X0_firstLentTwice : GoodIn wsX5_twice (wsV RX5 139 RX0 yX0_firstLentTwice wsX0_firstLentTwice) := goodIn_app (goodIn_of _ (by decide +kernel)) ggX5_twice_X0_firstLentTwice
set_option maxRecDepth 20000 in
theorem ggX5_twice_X5_lentInVain : GoodIn wsX5_twice wsX5_lentInVain := goodIn_r _ [29, 1, 30, 31, 32, 33, 34, 14, 15, 16, 17, 18, 19, 20, 21, 22, 23, 24, 4, 25, 35, 36, 37, 9, 38, 39, 13, 40, 41, 42, 43, 44, 45, 46, 47, 48, 49, 50, 51, 52, 53, 54, 55, 56, 57, 58, 59, 60, 61, 62, 63, 64, 65] (by decide +kernel) (by decide +kernel)
set_option maxRecDepth 20000 in
theorem gX5_twice_X5_lentInVain : GoodIn wsX5_twice (wsV RX5 143 RX5 yX5_lentInVain wsX5_lentInVain) := goodIn_app (goodIn_of _ (by decide +kernel)) ggX5_twice_X5_lentInVain
theorem dX5_twice_0 : decode cX5_twice 0 = .ok (.iload_n 1, 1) := by decide +kernel
theorem dX5_twice_1 : decode cX5_twice 1 = .ok (.invokestatic 103, 3) := by decide +kernel
theorem dX5_twice_4 : decode cX5_twice 4 = .ok (.ifCond .ne 5, 3) := by decide +kernel
theorem dX5_twice_7 : decode cX5_twice 7 = .ok (.iconst (-1), 1) := by decide +kernel
theorem dX5_twice_8 : decode cX5_twice 8 = .ok (.ireturn, 1) := by decide +kernel
theorem dX5_twice_9 : decode cX5_twice 9 = .ok (.iload_n 1, 1) := by decide +kernel
theorem dX5_twice_10 : decode cX5_twice 10 = .ok (.ifCond .ne 13, 3) := by decide +kernel
theorem dX5_twice_13 : decode cX5_twice 13 = .ok (.aload_n 0, 1) := by decide +kernel
theorem dX5_twice_14 : decode cX5_twice 14 = .ok (.getfield 36, 3) := by decide +kernel
theorem dX5_twice_17 : decode cX5_twice 17 = .ok (.invokevirtual 139, 3) := by decide +kernel
theorem dX5_twice_20 : decode cX5_twice 20 = .ok (.goto 7, 3) := by decide +kernel
theorem dX5_twice_23 : decode cX5_twice 23 = .ok (.aload_n 0, 1) := by decide +kernel
theorem dX5_twice_24 : decode cX5_twice 24 = .ok (.invokevirtual 143, 3) := by decide +kernel
theorem dX5_twice_27 : decode cX5_twice 27 = .ok (.ireturn, 1) := by decide +kernel
set_option maxRecDepth 20000 in
theorem ggX5_undo_X0_takeBack : GoodIn wsX5_undo wsX0_takeBack := goodIn_r _ [8, 9, 10, 11, 12, 13, 14, 15, 16, 17, 18, 19, 20, 21, 22, 23, 24, 25, 26, 27, 28, 29, 30, 31, 32, 33, 34, 35, 36, 37, 38, 39, 40, 52, 53, 54, 55, 56, 57, 58] (by decide +kernel) (by decide +kernel)
set_option maxRecDepth 20000 in
theorem gX5_undo_X0_takeBack : GoodIn wsX5_undo (wsV RX5 149 RX0 yX0_takeBack wsX0_takeBack) := goodIn_app (goodIn_of _ (by decide +kernel)) ggX5_undo_X0_takeBack
theorem dX5_undo_0 : decode cX5_undo 0 = .ok (.aload_n 0, 1) := by decide +kernel
theorem dX5_undo_1 : decode cX5_undo 1 = .ok (.getfield 36, 3) := by decide +kernel
theorem dX5_undo_4 : decode cX5_undo 4 = .ok (.getfield 146, 3) := by decide +kernel
theorem dX5_undo_7 : decode cX5_undo 7 = .ok (.getfield 136, 3) := by decide +kernel
theorem dX5_undo_10 : decode cX5_undo 10 = .ok (.ifCond .ne 6, 3) := by decide +kernel
theorem dX5_undo_13 : decode cX5_undo 13 = .ok (.bipush (-2), 2) := by decide +kernel
theorem dX5_undo_15 : decode cX5_undo 15 = .ok (.ireturn, 1) := by decide +kernel
theorem dX5_undo_16 : decode cX5_undo 16 = .ok (.aload_n 0, 1) := by decide +kernel
theorem dX5_undo_17 : decode cX5_undo 17 = .ok (.getfield 36, 3) := by decide +kernel
theorem dX5_undo_20 : decode cX5_undo 20 = .ok (.invokevirtual 149, 3) := by decide +kernel
theorem dX5_undo_23 : decode cX5_undo 23 = .ok (.aload_n 0, 1) := by decide +kernel
theorem dX5_undo_24 : decode cX5_undo 24 = .ok (.getfield 36, 3) := by decide +kernel
theorem dX5_undo_27 : decode cX5_undo 27 = .ok (.getfield 146, 3) := by decide +kernel
theorem dX5_undo_30 : decode cX5_undo 30 = .ok (.getfield 136, 3) := by decide +kernel
theorem dX5_undo_33 : decode cX5_undo 33 = .ok (.ireturn, 1) := by decide +kernel
set_option maxRecDepth 20000 in
theorem ggX5_best_X5_areHours : GoodIn wsX5_best wsX5_areHours := goodIn_r _ [4, 5, 6, 3, 7] (by decide +kernel) (by decide +kernel)
set_option maxRecDepth 20000 in
theorem gX5_best_X5_areHours : GoodIn wsX5_best (va_wsS RX5 152 yX5_areHours wsX5_areHours) := goodIn_app (goodIn_of _ (by decide +kernel)) ggX5_best_X5_areHours
set_option maxRecDepth 20000 in
theorem ggX5_best_X5_isBit : GoodIn wsX5_best wsX5_isBit := goodIn_r _ [10] (by decide +kernel) (by decide +kernel)
set_option maxRecDepth 20000 in
theorem gX5_best_X5_isBit : GoodIn wsX5_best (va_wsS RX5 103 yX5_isBit wsX5_isBit) := goodIn_app (goodIn_of _ (by decide +kernel)) ggX5_best_X5_isBit
set_option maxRecDepth 20000 in
theorem ggX5_best_X5_bestAskers : GoodIn wsX5_best wsX5_bestAskers := goodIn_r _ [14, 15, 16, 17, 18, 19, 20, 3, 21, 22, 23, 24, 25, 26, 27, 28, 29, 30, 31, 32, 33, 34, 35, 36, 37, 38, 39, 40, 41, 42, 43, 44, 45, 46, 47, 48, 49, 50, 51, 52, 53, 54, 55, 56, 57, 58, 59, 60, 61, 62, 63, 64, 65, 66, 67, 68, 69, 70, 71, 72, 73, 74, 75, 76, 77, 78, 79, 80, 81, 82, 83, 84, 85] (by decide +kernel) (by decide +kernel)
set_option maxRecDepth 20000 in
theorem gX5_best_X5_bestAskers : GoodIn wsX5_best (wsV RX5 156 RX5 yX5_bestAskers wsX5_bestAskers) := goodIn_app (goodIn_of _ (by decide +kernel)) ggX5_best_X5_bestAskers
set_option maxRecDepth 20000 in
theorem ggX5_best_X5_sureOf : GoodIn wsX5_best wsX5_sureOf := goodIn_r _ [55, 15, 16, 17, 56, 57, 3, 58, 59, 35, 36, 37, 38, 39, 40, 41, 42, 43, 44, 45, 46, 64, 65, 66, 67, 68, 69, 70, 71, 72, 73, 74, 75, 76, 77, 78, 79, 80, 81] (by decide +kernel) (by decide +kernel)
set_option maxRecDepth 20000 in
theorem gX5_best_X5_sureOf : GoodIn wsX5_best (wsV RX5 159 RX5 yX5_sureOf wsX5_sureOf) := goodIn_app (goodIn_of _ (by decide +kernel)) ggX5_best_X5_sureOf
theorem dX5_best_0 : decode cX5_best 0 = .ok (.iload_n 1, 1) := by decide +kernel
theorem dX5_best_1 : decode cX5_best 1 = .ok (.iload_n 2, 1) := by decide +kernel
theorem dX5_best_2 : decode cX5_best 2 = .ok (.invokestatic 152, 3) := by decide +kernel
theorem dX5_best_5 : decode cX5_best 5 = .ok (.ifCond .eq 10, 3) := by decide +kernel
theorem dX5_best_8 : decode cX5_best 8 = .ok (.iload_n 3, 1) := by decide +kernel
theorem dX5_best_9 : decode cX5_best 9 = .ok (.invokestatic 103, 3) := by decide +kernel
theorem dX5_best_12 : decode cX5_best 12 = .ok (.ifCond .ne 5, 3) := by decide +kernel
theorem dX5_best_15 : decode cX5_best 15 = .ok (.iconst (-1), 1) := by decide +kernel
theorem dX5_best_16 : decode cX5_best 16 = .ok (.ireturn, 1) := by decide +kernel
theorem dX5_best_17 : decode cX5_best 17 = .ok (.aload_n 0, 1) := by decide +kernel
theorem dX5_best_18 : decode cX5_best 18 = .ok (.iload_n 1, 1) := by decide +kernel
theorem dX5_best_19 : decode cX5_best 19 = .ok (.iload_n 2, 1) := by decide +kernel
theorem dX5_best_20 : decode cX5_best 20 = .ok (.invokevirtual 156, 3) := by decide +kernel
theorem dX5_best_23 : decode cX5_best 23 = .ok (.istore 4, 2) := by decide +kernel
theorem dX5_best_25 : decode cX5_best 25 = .ok (.iload_n 3, 1) := by decide +kernel
theorem dX5_best_26 : decode cX5_best 26 = .ok (.ifCond .ne 12, 3) := by decide +kernel
theorem dX5_best_29 : decode cX5_best 29 = .ok (.aload_n 0, 1) := by decide +kernel
theorem dX5_best_30 : decode cX5_best 30 = .ok (.iload 4, 2) := by decide +kernel
theorem dX5_best_32 : decode cX5_best 32 = .ok (.invokevirtual 159, 3) := by decide +kernel
theorem dX5_best_35 : decode cX5_best 35 = .ok (.goto 5, 3) := by decide +kernel
theorem dX5_best_38 : decode cX5_best 38 = .ok (.iload 4, 2) := by decide +kernel
theorem dX5_best_40 : decode cX5_best 40 = .ok (.ireturn, 1) := by decide +kernel
set_option maxRecDepth 20000 in
theorem ggX5_chance_X5_areHours : GoodIn wsX5_chance wsX5_areHours := goodIn_r _ [7, 8, 9, 6, 10] (by decide +kernel) (by decide +kernel)
set_option maxRecDepth 20000 in
theorem gX5_chance_X5_areHours : GoodIn wsX5_chance (va_wsS RX5 152 yX5_areHours wsX5_areHours) := goodIn_app (goodIn_of _ (by decide +kernel)) ggX5_chance_X5_areHours
set_option maxRecDepth 20000 in
theorem ggX5_chance_X5_isBit : GoodIn wsX5_chance wsX5_isBit := goodIn_r _ [13] (by decide +kernel) (by decide +kernel)
set_option maxRecDepth 20000 in
theorem gX5_chance_X5_isBit : GoodIn wsX5_chance (va_wsS RX5 103 yX5_isBit wsX5_isBit) := goodIn_app (goodIn_of _ (by decide +kernel)) ggX5_chance_X5_isBit
set_option maxRecDepth 20000 in
theorem ggX5_chance_X5_placesSeenByAny : GoodIn wsX5_chance wsX5_placesSeenByAny := goodIn_r _ [17, 18, 19, 3, 20, 21, 22, 23, 24, 25, 26, 27, 28, 29, 30, 31, 32, 33, 34, 35, 36, 37, 38, 39, 40, 41, 6, 42, 43, 44, 45, 46, 57, 58, 59, 60, 61, 62, 63, 64, 65, 66, 67, 75, 76, 77, 78, 72, 73, 74] (by decide +kernel) (by decide +kernel)
set_option maxRecDepth 20000 in
theorem gX5_chance_X5_placesSeenByAny : GoodIn wsX5_chance (wsV RX5 162 RX5 yX5_placesSeenByAny wsX5_placesSeenByAny) := goodIn_app (goodIn_of _ (by decide +kernel)) ggX5_chance_X5_placesSeenByAny
set_option maxRecDepth 20000 in
theorem ggX5_chance_X2_number : GoodIn wsX5_chance wsX2_number := goodIn_r _ [34, 35, 36, 37, 38, 33, 39, 40, 41, 6, 42, 72, 73, 74] (by decide +kernel) (by decide +kernel)
set_option maxRecDepth 20000 in
theorem gX5_chance_X2_number : GoodIn wsX5_chance (wsV RX5 110 RX2 yX2_number wsX2_number) := goodIn_app (goodIn_of _ (by decide +kernel)) ggX5_chance_X2_number
set_option maxRecDepth 20000 in
theorem ggX5_chance_X5_hasBit : GoodIn wsX5_chance wsX5_hasBit := goodIn_r _ [50] (by decide +kernel) (by decide +kernel)
set_option maxRecDepth 20000 in
theorem gX5_chance_X5_hasBit : GoodIn wsX5_chance (va_wsS RX5 165 yX5_hasBit wsX5_hasBit) := goodIn_app (goodIn_of _ (by decide +kernel)) ggX5_chance_X5_hasBit
set_option maxRecDepth 20000 in
theorem ggX5_chance_X5_inLeastTerms : GoodIn wsX5_chance wsX5_inLeastTerms := goodIn_r _ [53, 54, 55, 6, 56] (by decide +kernel) (by decide +kernel)
set_option maxRecDepth 20000 in
theorem gX5_chance_X5_inLeastTerms : GoodIn wsX5_chance (va_wsS RX5 168 yX5_inLeastTerms wsX5_inLeastTerms) := goodIn_app (goodIn_of _ (by decide +kernel)) ggX5_chance_X5_inLeastTerms
theorem dX5_chance_0 : decode cX5_chance 0 = .ok (.iload_n 1, 1) := by decide +kernel
theorem dX5_chance_1 : decode cX5_chance 1 = .ok (.iload_n 2, 1) := by decide +kernel
theorem dX5_chance_2 : decode cX5_chance 2 = .ok (.invokestatic 152, 3) := by decide +kernel
theorem dX5_chance_5 : decode cX5_chance 5 = .ok (.ifCond .eq 10, 3) := by decide +kernel
theorem dX5_chance_8 : decode cX5_chance 8 = .ok (.iload_n 3, 1) := by decide +kernel
theorem dX5_chance_9 : decode cX5_chance 9 = .ok (.invokestatic 103, 3) := by decide +kernel
theorem dX5_chance_12 : decode cX5_chance 12 = .ok (.ifCond .ne 5, 3) := by decide +kernel
theorem dX5_chance_15 : decode cX5_chance 15 = .ok (.iconst (-1), 1) := by decide +kernel
theorem dX5_chance_16 : decode cX5_chance 16 = .ok (.ireturn, 1) := by decide +kernel
theorem dX5_chance_17 : decode cX5_chance 17 = .ok (.aload_n 0, 1) := by decide +kernel
theorem dX5_chance_18 : decode cX5_chance 18 = .ok (.iload_n 1, 1) := by decide +kernel
theorem dX5_chance_19 : decode cX5_chance 19 = .ok (.iload_n 2, 1) := by decide +kernel
theorem dX5_chance_20 : decode cX5_chance 20 = .ok (.invokevirtual 162, 3) := by decide +kernel
theorem dX5_chance_23 : decode cX5_chance 23 = .ok (.istore 4, 2) := by decide +kernel
theorem dX5_chance_25 : decode cX5_chance 25 = .ok (.iconst 1, 1) := by decide +kernel
theorem dX5_chance_26 : decode cX5_chance 26 = .ok (.istore 5, 2) := by decide +kernel
theorem dX5_chance_28 : decode cX5_chance 28 = .ok (.iconst 1, 1) := by decide +kernel
theorem dX5_chance_29 : decode cX5_chance 29 = .ok (.istore 6, 2) := by decide +kernel
theorem dX5_chance_31 : decode cX5_chance 31 = .ok (.iconst 0, 1) := by decide +kernel
theorem dX5_chance_32 : decode cX5_chance 32 = .ok (.istore 7, 2) := by decide +kernel
theorem dX5_chance_34 : decode cX5_chance 34 = .ok (.iload 7, 2) := by decide +kernel
theorem dX5_chance_36 : decode cX5_chance 36 = .ok (.aload_n 0, 1) := by decide +kernel
theorem dX5_chance_37 : decode cX5_chance 37 = .ok (.getfield 26, 3) := by decide +kernel
theorem dX5_chance_40 : decode cX5_chance 40 = .ok (.getfield 106, 3) := by decide +kernel
theorem dX5_chance_43 : decode cX5_chance 43 = .ok (.getfield 136, 3) := by decide +kernel
theorem dX5_chance_46 : decode cX5_chance 46 = .ok (.if_icmp .ge 58, 3) := by decide +kernel
theorem dX5_chance_49 : decode cX5_chance 49 = .ok (.iload 4, 2) := by decide +kernel
theorem dX5_chance_51 : decode cX5_chance 51 = .ok (.aload_n 0, 1) := by decide +kernel
theorem dX5_chance_52 : decode cX5_chance 52 = .ok (.getfield 26, 3) := by decide +kernel
theorem dX5_chance_55 : decode cX5_chance 55 = .ok (.getfield 106, 3) := by decide +kernel
theorem dX5_chance_58 : decode cX5_chance 58 = .ok (.iload 7, 2) := by decide +kernel
theorem dX5_chance_60 : decode cX5_chance 60 = .ok (.iconst 0, 1) := by decide +kernel
theorem dX5_chance_61 : decode cX5_chance 61 = .ok (.invokevirtual 110, 3) := by decide +kernel
theorem dX5_chance_64 : decode cX5_chance 64 = .ok (.invokestatic 165, 3) := by decide +kernel
theorem dX5_chance_67 : decode cX5_chance 67 = .ok (.ifCond .eq 31, 3) := by decide +kernel
theorem dX5_chance_70 : decode cX5_chance 70 = .ok (.iload 5, 2) := by decide +kernel
theorem dX5_chance_72 : decode cX5_chance 72 = .ok (.bipush 10, 2) := by decide +kernel
theorem dX5_chance_74 : decode cX5_chance 74 = .ok (.imul, 1) := by decide +kernel
theorem dX5_chance_75 : decode cX5_chance 75 = .ok (.istore 5, 2) := by decide +kernel
theorem dX5_chance_77 : decode cX5_chance 77 = .ok (.iload 6, 2) := by decide +kernel
theorem dX5_chance_79 : decode cX5_chance 79 = .ok (.bipush 10, 2) := by decide +kernel
theorem dX5_chance_81 : decode cX5_chance 81 = .ok (.aload_n 0, 1) := by decide +kernel
theorem dX5_chance_82 : decode cX5_chance 82 = .ok (.getfield 26, 3) := by decide +kernel
theorem dX5_chance_85 : decode cX5_chance 85 = .ok (.getfield 106, 3) := by decide +kernel
theorem dX5_chance_88 : decode cX5_chance 88 = .ok (.iload 7, 2) := by decide +kernel
theorem dX5_chance_90 : decode cX5_chance 90 = .ok (.iconst 1, 1) := by decide +kernel
theorem dX5_chance_91 : decode cX5_chance 91 = .ok (.invokevirtual 110, 3) := by decide +kernel
theorem dX5_chance_94 : decode cX5_chance 94 = .ok (.isub, 1) := by decide +kernel
theorem dX5_chance_95 : decode cX5_chance 95 = .ok (.imul, 1) := by decide +kernel
theorem dX5_chance_96 : decode cX5_chance 96 = .ok (.istore 6, 2) := by decide +kernel
theorem dX5_chance_98 : decode cX5_chance 98 = .ok (.iinc 7 1, 3) := by decide +kernel
theorem dX5_chance_101 : decode cX5_chance 101 = .ok (.goto (-67), 3) := by decide +kernel
theorem dX5_chance_104 : decode cX5_chance 104 = .ok (.iload 5, 2) := by decide +kernel
theorem dX5_chance_106 : decode cX5_chance 106 = .ok (.iload 6, 2) := by decide +kernel
theorem dX5_chance_108 : decode cX5_chance 108 = .ok (.isub, 1) := by decide +kernel
theorem dX5_chance_109 : decode cX5_chance 109 = .ok (.iload 5, 2) := by decide +kernel
theorem dX5_chance_111 : decode cX5_chance 111 = .ok (.iload_n 3, 1) := by decide +kernel
theorem dX5_chance_112 : decode cX5_chance 112 = .ok (.invokestatic 168, 3) := by decide +kernel
theorem dX5_chance_115 : decode cX5_chance 115 = .ok (.ireturn, 1) := by decide +kernel
set_option maxRecDepth 20000 in
theorem ggX5_apart_X5_areHours : GoodIn wsX5_apart wsX5_areHours := goodIn_r _ [4, 5, 6, 3, 7] (by decide +kernel) (by decide +kernel)
set_option maxRecDepth 20000 in
theorem gX5_apart_X5_areHours : GoodIn wsX5_apart (va_wsS RX5 152 yX5_areHours wsX5_areHours) := goodIn_app (goodIn_of _ (by decide +kernel)) ggX5_apart_X5_areHours
set_option maxRecDepth 20000 in
theorem ggX5_apart_X5_isBit : GoodIn wsX5_apart wsX5_isBit := goodIn_r _ [10] (by decide +kernel) (by decide +kernel)
set_option maxRecDepth 20000 in
theorem gX5_apart_X5_isBit : GoodIn wsX5_apart (va_wsS RX5 103 yX5_isBit wsX5_isBit) := goodIn_app (goodIn_of _ (by decide +kernel)) ggX5_apart_X5_isBit
set_option maxRecDepth 20000 in
theorem ggX5_apart_X5_fewestApart : GoodIn wsX5_apart wsX5_fewestApart := goodIn_r _ [14, 15, 16, 17, 18, 19, 20, 21, 22, 23, 24, 25, 26, 27, 28, 29, 30, 31, 32, 33, 34, 35, 36, 37, 38, 39, 40, 3, 41, 42, 43, 44, 45, 46, 47, 48, 49, 50, 51, 52, 53, 54, 55, 56, 57, 58, 59, 60, 61, 62, 63, 64, 65, 66, 67, 68, 69, 70, 71, 72, 73, 74, 75, 76, 77, 78, 79, 80, 81] (by decide +kernel) (by decide +kernel)
set_option maxRecDepth 20000 in
theorem gX5_apart_X5_fewestApart : GoodIn wsX5_apart (wsV RX5 172 RX5 yX5_fewestApart wsX5_fewestApart) := goodIn_app (goodIn_of _ (by decide +kernel)) ggX5_apart_X5_fewestApart
set_option maxRecDepth 20000 in
theorem ggX5_apart_J6_bitCount_0f7a4 : GoodIn wsX5_apart wsJ6_bitCount_0f7a4 := goodIn_r _ [52, 53, 54, 55] (by decide +kernel) (by decide +kernel)
set_option maxRecDepth 20000 in
theorem gX5_apart_J6_bitCount_0f7a4 : GoodIn wsX5_apart (va_wsS RX5 175 yJ6_bitCount_0f7a4 wsJ6_bitCount_0f7a4) := goodIn_app (goodIn_of _ (by decide +kernel)) ggX5_apart_J6_bitCount_0f7a4
theorem dX5_apart_0 : decode cX5_apart 0 = .ok (.iload_n 1, 1) := by decide +kernel
theorem dX5_apart_1 : decode cX5_apart 1 = .ok (.iload_n 2, 1) := by decide +kernel
theorem dX5_apart_2 : decode cX5_apart 2 = .ok (.invokestatic 152, 3) := by decide +kernel
theorem dX5_apart_5 : decode cX5_apart 5 = .ok (.ifCond .eq 10, 3) := by decide +kernel
theorem dX5_apart_8 : decode cX5_apart 8 = .ok (.iload_n 3, 1) := by decide +kernel
theorem dX5_apart_9 : decode cX5_apart 9 = .ok (.invokestatic 103, 3) := by decide +kernel
theorem dX5_apart_12 : decode cX5_apart 12 = .ok (.ifCond .ne 5, 3) := by decide +kernel
theorem dX5_apart_15 : decode cX5_apart 15 = .ok (.iconst (-1), 1) := by decide +kernel
theorem dX5_apart_16 : decode cX5_apart 16 = .ok (.ireturn, 1) := by decide +kernel
theorem dX5_apart_17 : decode cX5_apart 17 = .ok (.aload_n 0, 1) := by decide +kernel
theorem dX5_apart_18 : decode cX5_apart 18 = .ok (.iload_n 1, 1) := by decide +kernel
theorem dX5_apart_19 : decode cX5_apart 19 = .ok (.iload_n 2, 1) := by decide +kernel
theorem dX5_apart_20 : decode cX5_apart 20 = .ok (.invokevirtual 172, 3) := by decide +kernel
theorem dX5_apart_23 : decode cX5_apart 23 = .ok (.istore 4, 2) := by decide +kernel
theorem dX5_apart_25 : decode cX5_apart 25 = .ok (.iload 4, 2) := by decide +kernel
theorem dX5_apart_27 : decode cX5_apart 27 = .ok (.bipush (-9), 2) := by decide +kernel
theorem dX5_apart_29 : decode cX5_apart 29 = .ok (.if_icmp .ne 6, 3) := by decide +kernel
theorem dX5_apart_32 : decode cX5_apart 32 = .ok (.bipush (-9), 2) := by decide +kernel
theorem dX5_apart_34 : decode cX5_apart 34 = .ok (.ireturn, 1) := by decide +kernel
theorem dX5_apart_35 : decode cX5_apart 35 = .ok (.iload_n 3, 1) := by decide +kernel
theorem dX5_apart_36 : decode cX5_apart 36 = .ok (.ifCond .ne 11, 3) := by decide +kernel
theorem dX5_apart_39 : decode cX5_apart 39 = .ok (.iload 4, 2) := by decide +kernel
theorem dX5_apart_41 : decode cX5_apart 41 = .ok (.invokestatic 175, 3) := by decide +kernel
theorem dX5_apart_44 : decode cX5_apart 44 = .ok (.goto 5, 3) := by decide +kernel
theorem dX5_apart_47 : decode cX5_apart 47 = .ok (.iload 4, 2) := by decide +kernel
theorem dX5_apart_49 : decode cX5_apart 49 = .ok (.ireturn, 1) := by decide +kernel
set_option maxRecDepth 20000 in
theorem ggX5_heard_X5_isHour : GoodIn wsX5_heard wsX5_isHour := goodIn_r _ [7] (by decide +kernel) (by decide +kernel)
set_option maxRecDepth 20000 in
theorem gX5_heard_X5_isHour : GoodIn wsX5_heard (va_wsS RX5 86 yX5_isHour wsX5_isHour) := goodIn_app (goodIn_of _ (by decide +kernel)) ggX5_heard_X5_isHour
set_option maxRecDepth 20000 in
theorem ggX5_heard_X5_isDish : GoodIn wsX5_heard wsX5_isDish := goodIn_r _ [11, 1, 12, 3, 42, 43, 44, 45, 46, 47, 48, 49, 50, 51, 52, 53, 54, 55, 56, 57, 58, 59] (by decide +kernel) (by decide +kernel)
set_option maxRecDepth 20000 in
theorem gX5_heard_X5_isDish : GoodIn wsX5_heard (wsV RX5 82 RX5 yX5_isDish wsX5_isDish) := goodIn_app (goodIn_of _ (by decide +kernel)) ggX5_heard_X5_isDish
set_option maxRecDepth 20000 in
theorem ggX5_heard_X5_isNote : GoodIn wsX5_heard wsX5_isNote := goodIn_r _ [15] (by decide +kernel) (by decide +kernel)
set_option maxRecDepth 20000 in
theorem gX5_heard_X5_isNote : GoodIn wsX5_heard (va_wsS RX5 180 yX5_isNote wsX5_isNote) := goodIn_app (goodIn_of _ (by decide +kernel)) ggX5_heard_X5_isNote
set_option maxRecDepth 20000 in
theorem ggX5_heard_X5_isBit : GoodIn wsX5_heard wsX5_isBit := goodIn_r _ [18] (by decide +kernel) (by decide +kernel)
set_option maxRecDepth 20000 in
theorem gX5_heard_X5_isBit : GoodIn wsX5_heard (va_wsS RX5 103 yX5_isBit wsX5_isBit) := goodIn_app (goodIn_of _ (by decide +kernel)) ggX5_heard_X5_isBit
set_option maxRecDepth 20000 in
theorem ggX5_heard_X2_isFull : GoodIn wsX5_heard wsX2_isFull := goodIn_r _ [23, 24, 25, 57, 58, 59] (by decide +kernel) (by decide +kernel)
set_option maxRecDepth 20000 in
theorem gX5_heard_X2_isFull : GoodIn wsX5_heard (wsV RX5 129 RX2 yX2_isFull wsX2_isFull) := goodIn_app (goodIn_of _ (by decide +kernel)) ggX5_heard_X2_isFull
set_option maxRecDepth 20000 in
theorem ggX5_heard_X2_add : GoodIn wsX5_heard wsX2_add := goodIn_r _ [29, 24, 30, 20, 21, 22, 23, 25, 31, 32, 33, 34, 35, 36, 37, 38, 39, 40, 6, 41, 57, 58, 59] (by decide +kernel) (by decide +kernel)
set_option maxRecDepth 20000 in
theorem gX5_heard_X2_add : GoodIn wsX5_heard (wsV RX5 133 RX2 yX2_add wsX2_add) := goodIn_app (goodIn_of _ (by decide +kernel)) ggX5_heard_X2_add
theorem dX5_heard_0 : decode cX5_heard 0 = .ok (.iload_n 1, 1) := by decide +kernel
theorem dX5_heard_1 : decode cX5_heard 1 = .ok (.invokestatic 86, 3) := by decide +kernel
theorem dX5_heard_4 : decode cX5_heard 4 = .ok (.ifCond .eq 26, 3) := by decide +kernel
theorem dX5_heard_7 : decode cX5_heard 7 = .ok (.aload_n 0, 1) := by decide +kernel
theorem dX5_heard_8 : decode cX5_heard 8 = .ok (.iload_n 2, 1) := by decide +kernel
theorem dX5_heard_9 : decode cX5_heard 9 = .ok (.invokevirtual 82, 3) := by decide +kernel
theorem dX5_heard_12 : decode cX5_heard 12 = .ok (.ifCond .eq 18, 3) := by decide +kernel
theorem dX5_heard_15 : decode cX5_heard 15 = .ok (.iload_n 3, 1) := by decide +kernel
theorem dX5_heard_16 : decode cX5_heard 16 = .ok (.invokestatic 180, 3) := by decide +kernel
theorem dX5_heard_19 : decode cX5_heard 19 = .ok (.ifCond .eq 11, 3) := by decide +kernel
theorem dX5_heard_22 : decode cX5_heard 22 = .ok (.iload 4, 2) := by decide +kernel
theorem dX5_heard_24 : decode cX5_heard 24 = .ok (.invokestatic 103, 3) := by decide +kernel
theorem dX5_heard_27 : decode cX5_heard 27 = .ok (.ifCond .ne 5, 3) := by decide +kernel
theorem dX5_heard_30 : decode cX5_heard 30 = .ok (.iconst (-1), 1) := by decide +kernel
theorem dX5_heard_31 : decode cX5_heard 31 = .ok (.ireturn, 1) := by decide +kernel
theorem dX5_heard_32 : decode cX5_heard 32 = .ok (.aload_n 0, 1) := by decide +kernel
theorem dX5_heard_33 : decode cX5_heard 33 = .ok (.getfield 36, 3) := by decide +kernel
theorem dX5_heard_36 : decode cX5_heard 36 = .ok (.getfield 183, 3) := by decide +kernel
theorem dX5_heard_39 : decode cX5_heard 39 = .ok (.invokevirtual 129, 3) := by decide +kernel
theorem dX5_heard_42 : decode cX5_heard 42 = .ok (.ifCond .eq 6, 3) := by decide +kernel
theorem dX5_heard_45 : decode cX5_heard 45 = .ok (.bipush (-3), 2) := by decide +kernel
theorem dX5_heard_47 : decode cX5_heard 47 = .ok (.ireturn, 1) := by decide +kernel
theorem dX5_heard_48 : decode cX5_heard 48 = .ok (.aload_n 0, 1) := by decide +kernel
theorem dX5_heard_49 : decode cX5_heard 49 = .ok (.getfield 36, 3) := by decide +kernel
theorem dX5_heard_52 : decode cX5_heard 52 = .ok (.getfield 183, 3) := by decide +kernel
theorem dX5_heard_55 : decode cX5_heard 55 = .ok (.iload_n 1, 1) := by decide +kernel
theorem dX5_heard_56 : decode cX5_heard 56 = .ok (.iload_n 2, 1) := by decide +kernel
theorem dX5_heard_57 : decode cX5_heard 57 = .ok (.iload_n 3, 1) := by decide +kernel
theorem dX5_heard_58 : decode cX5_heard 58 = .ok (.iload 4, 2) := by decide +kernel
theorem dX5_heard_60 : decode cX5_heard 60 = .ok (.invokevirtual 133, 3) := by decide +kernel
theorem dX5_heard_63 : decode cX5_heard 63 = .ok (.aload_n 0, 1) := by decide +kernel
theorem dX5_heard_64 : decode cX5_heard 64 = .ok (.getfield 36, 3) := by decide +kernel
theorem dX5_heard_67 : decode cX5_heard 67 = .ok (.getfield 183, 3) := by decide +kernel
theorem dX5_heard_70 : decode cX5_heard 70 = .ok (.getfield 136, 3) := by decide +kernel
theorem dX5_heard_73 : decode cX5_heard 73 = .ok (.ireturn, 1) := by decide +kernel
set_option maxRecDepth 20000 in
theorem ggX5_forget_X2_empty : GoodIn wsX5_forget wsX2_empty := goodIn_r _ [8, 9, 25, 26, 27] (by decide +kernel) (by decide +kernel)
set_option maxRecDepth 20000 in
theorem gX5_forget_X2_empty : GoodIn wsX5_forget (wsV RX5 186 RX2 yX2_empty wsX2_empty) := goodIn_app (goodIn_of _ (by decide +kernel)) ggX5_forget_X2_empty
theorem dX5_forget_0 : decode cX5_forget 0 = .ok (.aload_n 0, 1) := by decide +kernel
theorem dX5_forget_1 : decode cX5_forget 1 = .ok (.getfield 36, 3) := by decide +kernel
theorem dX5_forget_4 : decode cX5_forget 4 = .ok (.getfield 183, 3) := by decide +kernel
theorem dX5_forget_7 : decode cX5_forget 7 = .ok (.getfield 136, 3) := by decide +kernel
theorem dX5_forget_10 : decode cX5_forget 10 = .ok (.istore_n 1, 1) := by decide +kernel
theorem dX5_forget_11 : decode cX5_forget 11 = .ok (.aload_n 0, 1) := by decide +kernel
theorem dX5_forget_12 : decode cX5_forget 12 = .ok (.getfield 36, 3) := by decide +kernel
theorem dX5_forget_15 : decode cX5_forget 15 = .ok (.getfield 183, 3) := by decide +kernel
theorem dX5_forget_18 : decode cX5_forget 18 = .ok (.invokevirtual 186, 3) := by decide +kernel
theorem dX5_forget_21 : decode cX5_forget 21 = .ok (.iload_n 1, 1) := by decide +kernel
theorem dX5_forget_22 : decode cX5_forget 22 = .ok (.ireturn, 1) := by decide +kernel
set_option maxRecDepth 20000 in
theorem ggX5_sky_X5_isNote : GoodIn wsX5_sky wsX5_isNote := goodIn_r _ [5] (by decide +kernel) (by decide +kernel)
set_option maxRecDepth 20000 in
theorem gX5_sky_X5_isNote : GoodIn wsX5_sky (va_wsS RX5 180 yX5_isNote wsX5_isNote) := goodIn_app (goodIn_of _ (by decide +kernel)) ggX5_sky_X5_isNote
set_option maxRecDepth 20000 in
theorem ggX5_sky_X0_isHeardElsewhere : GoodIn wsX5_sky wsX0_isHeardElsewhere := goodIn_r _ [10, 11, 12, 13, 14, 15, 16, 17, 18, 19, 20, 21, 22, 23, 24, 4, 25, 26, 27, 28, 9, 29, 30, 31, 32, 33, 34, 35, 36, 37, 38, 54, 55, 56, 57, 58, 59, 60] (by decide +kernel) (by decide +kernel)
set_option maxRecDepth 20000 in
theorem gX5_sky_X0_isHeardElsewhere : GoodIn wsX5_sky (wsV RX5 187 RX0 yX0_isHeardElsewhere wsX0_isHeardElsewhere) := goodIn_app (goodIn_of _ (by decide +kernel)) ggX5_sky_X0_isHeardElsewhere
set_option maxRecDepth 20000 in
theorem ggX5_sky_X0_hoursLogged : GoodIn wsX5_sky wsX0_hoursLogged := goodIn_r _ [42, 11, 12, 13, 14, 15, 16, 17, 18, 19, 20, 21, 22, 23, 24, 4, 25, 35, 36, 37, 9, 38, 26, 27, 28, 29, 30, 31, 32, 33, 34, 54, 55, 56, 57, 58, 59, 60] (by decide +kernel) (by decide +kernel)
set_option maxRecDepth 20000 in
theorem gX5_sky_X0_hoursLogged : GoodIn wsX5_sky (wsV RX5 190 RX0 yX0_hoursLogged wsX0_hoursLogged) := goodIn_app (goodIn_of _ (by decide +kernel)) ggX5_sky_X0_hoursLogged
theorem dX5_sky_0 : decode cX5_sky 0 = .ok (.iload_n 1, 1) := by decide +kernel
theorem dX5_sky_1 : decode cX5_sky 1 = .ok (.invokestatic 180, 3) := by decide +kernel
theorem dX5_sky_4 : decode cX5_sky 4 = .ok (.ifCond .ne 5, 3) := by decide +kernel
theorem dX5_sky_7 : decode cX5_sky 7 = .ok (.iconst (-1), 1) := by decide +kernel
theorem dX5_sky_8 : decode cX5_sky 8 = .ok (.ireturn, 1) := by decide +kernel
theorem dX5_sky_9 : decode cX5_sky 9 = .ok (.iconst 0, 1) := by decide +kernel
theorem dX5_sky_10 : decode cX5_sky 10 = .ok (.istore_n 2, 1) := by decide +kernel
theorem dX5_sky_11 : decode cX5_sky 11 = .ok (.iconst 0, 1) := by decide +kernel
theorem dX5_sky_12 : decode cX5_sky 12 = .ok (.istore_n 3, 1) := by decide +kernel
theorem dX5_sky_13 : decode cX5_sky 13 = .ok (.iload_n 3, 1) := by decide +kernel
theorem dX5_sky_14 : decode cX5_sky 14 = .ok (.bipush 8, 2) := by decide +kernel
theorem dX5_sky_16 : decode cX5_sky 16 = .ok (.if_icmp .ge 40, 3) := by decide +kernel
theorem dX5_sky_19 : decode cX5_sky 19 = .ok (.aload_n 0, 1) := by decide +kernel
theorem dX5_sky_20 : decode cX5_sky 20 = .ok (.getfield 36, 3) := by decide +kernel
theorem dX5_sky_23 : decode cX5_sky 23 = .ok (.iload_n 1, 1) := by decide +kernel
theorem dX5_sky_24 : decode cX5_sky 24 = .ok (.iload_n 3, 1) := by decide +kernel
theorem dX5_sky_25 : decode cX5_sky 25 = .ok (.invokevirtual 187, 3) := by decide +kernel
theorem dX5_sky_28 : decode cX5_sky 28 = .ok (.ifCond .ne 22, 3) := by decide +kernel
theorem dX5_sky_31 : decode cX5_sky 31 = .ok (.aload_n 0, 1) := by decide +kernel
theorem dX5_sky_32 : decode cX5_sky 32 = .ok (.getfield 36, 3) := by decide +kernel
theorem dX5_sky_35 : decode cX5_sky 35 = .ok (.iload_n 1, 1) := by decide +kernel
theorem dX5_sky_36 : decode cX5_sky 36 = .ok (.iload_n 3, 1) := by decide +kernel
theorem dX5_sky_37 : decode cX5_sky 37 = .ok (.iconst 0, 1) := by decide +kernel
theorem dX5_sky_38 : decode cX5_sky 38 = .ok (.invokevirtual 190, 3) := by decide +kernel
theorem dX5_sky_41 : decode cX5_sky 41 = .ok (.ifCond .ne 9, 3) := by decide +kernel
theorem dX5_sky_44 : decode cX5_sky 44 = .ok (.iload_n 2, 1) := by decide +kernel
theorem dX5_sky_45 : decode cX5_sky 45 = .ok (.iconst 1, 1) := by decide +kernel
theorem dX5_sky_46 : decode cX5_sky 46 = .ok (.iload_n 3, 1) := by decide +kernel
theorem dX5_sky_47 : decode cX5_sky 47 = .ok (.ishl, 1) := by decide +kernel
theorem dX5_sky_48 : decode cX5_sky 48 = .ok (.ior, 1) := by decide +kernel
theorem dX5_sky_49 : decode cX5_sky 49 = .ok (.istore_n 2, 1) := by decide +kernel
theorem dX5_sky_50 : decode cX5_sky 50 = .ok (.iinc 3 1, 3) := by decide +kernel
theorem dX5_sky_53 : decode cX5_sky 53 = .ok (.goto (-40), 3) := by decide +kernel
theorem dX5_sky_56 : decode cX5_sky 56 = .ok (.iload_n 2, 1) := by decide +kernel
theorem dX5_sky_57 : decode cX5_sky 57 = .ok (.ireturn, 1) := by decide +kernel
set_option maxRecDepth 20000 in
theorem ggX5_ours_X5_isNote : GoodIn wsX5_ours wsX5_isNote := goodIn_r _ [5] (by decide +kernel) (by decide +kernel)
set_option maxRecDepth 20000 in
theorem gX5_ours_X5_isNote : GoodIn wsX5_ours (va_wsS RX5 180 yX5_isNote wsX5_isNote) := goodIn_app (goodIn_of _ (by decide +kernel)) ggX5_ours_X5_isNote
set_option maxRecDepth 20000 in
theorem ggX5_ours_X0_fitsLaw : GoodIn wsX5_ours wsX0_fitsLaw := goodIn_r _ [10, 11, 12, 13, 14, 15, 16, 17, 18, 19, 20, 21, 22, 23, 24, 4, 25, 26, 27, 28, 29, 30, 31, 32, 9, 33, 45, 46, 47, 48, 49, 50, 51] (by decide +kernel) (by decide +kernel)
set_option maxRecDepth 20000 in
theorem gX5_ours_X0_fitsLaw : GoodIn wsX5_ours (wsV RX5 193 RX0 yX0_fitsLaw wsX0_fitsLaw) := goodIn_app (goodIn_of _ (by decide +kernel)) ggX5_ours_X0_fitsLaw
theorem dX5_ours_0 : decode cX5_ours 0 = .ok (.iload_n 1, 1) := by decide +kernel
theorem dX5_ours_1 : decode cX5_ours 1 = .ok (.invokestatic 180, 3) := by decide +kernel
theorem dX5_ours_4 : decode cX5_ours 4 = .ok (.ifCond .eq 12, 3) := by decide +kernel
theorem dX5_ours_7 : decode cX5_ours 7 = .ok (.iload_n 2, 1) := by decide +kernel
theorem dX5_ours_8 : decode cX5_ours 8 = .ok (.ifCond .lt 8, 3) := by decide +kernel
theorem dX5_ours_11 : decode cX5_ours 11 = .ok (.iload_n 2, 1) := by decide +kernel
theorem dX5_ours_12 : decode cX5_ours 12 = .ok (.iconst 2, 1) := by decide +kernel
theorem dX5_ours_13 : decode cX5_ours 13 = .ok (.if_icmp .le 5, 3) := by decide +kernel
theorem dX5_ours_16 : decode cX5_ours 16 = .ok (.iconst (-1), 1) := by decide +kernel
theorem dX5_ours_17 : decode cX5_ours 17 = .ok (.ireturn, 1) := by decide +kernel
theorem dX5_ours_18 : decode cX5_ours 18 = .ok (.iconst 0, 1) := by decide +kernel
theorem dX5_ours_19 : decode cX5_ours 19 = .ok (.istore_n 3, 1) := by decide +kernel
theorem dX5_ours_20 : decode cX5_ours 20 = .ok (.bipush (-9), 2) := by decide +kernel
theorem dX5_ours_22 : decode cX5_ours 22 = .ok (.istore 4, 2) := by decide +kernel
theorem dX5_ours_24 : decode cX5_ours 24 = .ok (.bipush (-9), 2) := by decide +kernel
theorem dX5_ours_26 : decode cX5_ours 26 = .ok (.istore 5, 2) := by decide +kernel
theorem dX5_ours_28 : decode cX5_ours 28 = .ok (.iconst 1, 1) := by decide +kernel
theorem dX5_ours_29 : decode cX5_ours 29 = .ok (.istore 6, 2) := by decide +kernel
theorem dX5_ours_31 : decode cX5_ours 31 = .ok (.iload 6, 2) := by decide +kernel
theorem dX5_ours_33 : decode cX5_ours 33 = .ok (.bipush 12, 2) := by decide +kernel
theorem dX5_ours_35 : decode cX5_ours 35 = .ok (.if_icmp .gt 69, 3) := by decide +kernel
theorem dX5_ours_38 : decode cX5_ours 38 = .ok (.iconst 0, 1) := by decide +kernel
theorem dX5_ours_39 : decode cX5_ours 39 = .ok (.istore 7, 2) := by decide +kernel
theorem dX5_ours_41 : decode cX5_ours 41 = .ok (.iload 7, 2) := by decide +kernel
theorem dX5_ours_43 : decode cX5_ours 43 = .ok (.iload 6, 2) := by decide +kernel
theorem dX5_ours_45 : decode cX5_ours 45 = .ok (.if_icmp .ge 53, 3) := by decide +kernel
theorem dX5_ours_48 : decode cX5_ours 48 = .ok (.aload_n 0, 1) := by decide +kernel
theorem dX5_ours_49 : decode cX5_ours 49 = .ok (.getfield 36, 3) := by decide +kernel
theorem dX5_ours_52 : decode cX5_ours 52 = .ok (.iload_n 1, 1) := by decide +kernel
theorem dX5_ours_53 : decode cX5_ours 53 = .ok (.iload 6, 2) := by decide +kernel
theorem dX5_ours_55 : decode cX5_ours 55 = .ok (.iload 7, 2) := by decide +kernel
theorem dX5_ours_57 : decode cX5_ours 57 = .ok (.invokevirtual 193, 3) := by decide +kernel
theorem dX5_ours_60 : decode cX5_ours 60 = .ok (.ifCond .eq 32, 3) := by decide +kernel
theorem dX5_ours_63 : decode cX5_ours 63 = .ok (.iload_n 3, 1) := by decide +kernel
theorem dX5_ours_64 : decode cX5_ours 64 = .ok (.ifCond .ne 8, 3) := by decide +kernel
theorem dX5_ours_67 : decode cX5_ours 67 = .ok (.iload 6, 2) := by decide +kernel
theorem dX5_ours_69 : decode cX5_ours 69 = .ok (.goto 5, 3) := by decide +kernel
theorem dX5_ours_72 : decode cX5_ours 72 = .ok (.iload 4, 2) := by decide +kernel
theorem dX5_ours_74 : decode cX5_ours 74 = .ok (.istore 4, 2) := by decide +kernel
theorem dX5_ours_76 : decode cX5_ours 76 = .ok (.iload_n 3, 1) := by decide +kernel
theorem dX5_ours_77 : decode cX5_ours 77 = .ok (.ifCond .ne 8, 3) := by decide +kernel
theorem dX5_ours_80 : decode cX5_ours 80 = .ok (.iload 7, 2) := by decide +kernel
theorem dX5_ours_82 : decode cX5_ours 82 = .ok (.goto 5, 3) := by decide +kernel
theorem dX5_ours_85 : decode cX5_ours 85 = .ok (.iload 5, 2) := by decide +kernel
theorem dX5_ours_87 : decode cX5_ours 87 = .ok (.istore 5, 2) := by decide +kernel
theorem dX5_ours_89 : decode cX5_ours 89 = .ok (.iinc 3 1, 3) := by decide +kernel
theorem dX5_ours_92 : decode cX5_ours 92 = .ok (.iinc 7 1, 3) := by decide +kernel
theorem dX5_ours_95 : decode cX5_ours 95 = .ok (.goto (-54), 3) := by decide +kernel
theorem dX5_ours_98 : decode cX5_ours 98 = .ok (.iinc 6 1, 3) := by decide +kernel
theorem dX5_ours_101 : decode cX5_ours 101 = .ok (.goto (-70), 3) := by decide +kernel
theorem dX5_ours_104 : decode cX5_ours 104 = .ok (.iload_n 2, 1) := by decide +kernel
theorem dX5_ours_105 : decode cX5_ours 105 = .ok (.ifCond .ne 7, 3) := by decide +kernel
theorem dX5_ours_108 : decode cX5_ours 108 = .ok (.iload_n 3, 1) := by decide +kernel
theorem dX5_ours_109 : decode cX5_ours 109 = .ok (.goto 15, 3) := by decide +kernel
theorem dX5_ours_112 : decode cX5_ours 112 = .ok (.iload_n 2, 1) := by decide +kernel
theorem dX5_ours_113 : decode cX5_ours 113 = .ok (.iconst 1, 1) := by decide +kernel
theorem dX5_ours_114 : decode cX5_ours 114 = .ok (.if_icmp .ne 8, 3) := by decide +kernel
theorem dX5_ours_117 : decode cX5_ours 117 = .ok (.iload 4, 2) := by decide +kernel
theorem dX5_ours_119 : decode cX5_ours 119 = .ok (.goto 5, 3) := by decide +kernel
theorem dX5_ours_122 : decode cX5_ours 122 = .ok (.iload 5, 2) := by decide +kernel
theorem dX5_ours_124 : decode cX5_ours 124 = .ok (.ireturn, 1) := by decide +kernel
set_option maxRecDepth 20000 in
theorem ggX5_could_X5_isNote : GoodIn wsX5_could wsX5_isNote := goodIn_r _ [4] (by decide +kernel) (by decide +kernel)
set_option maxRecDepth 20000 in
theorem gX5_could_X5_isNote : GoodIn wsX5_could (va_wsS RX5 180 yX5_isNote wsX5_isNote) := goodIn_app (goodIn_of _ (by decide +kernel)) ggX5_could_X5_isNote
set_option maxRecDepth 20000 in
theorem ggX5_could_X5_speakersThatFit : GoodIn wsX5_could wsX5_speakersThatFit := goodIn_r _ [8, 9, 10, 11, 12, 13, 14, 15, 16, 17, 18, 19, 20, 21, 22, 23, 24, 25, 26, 27, 28, 29, 30, 31, 32, 3, 33, 34, 35, 36, 37, 38, 39, 40, 41, 42, 43, 44, 45, 46, 47, 48, 49, 50, 51, 52, 53, 54, 55, 56, 57, 58, 59, 60, 61, 62, 63, 64, 65, 66, 67, 68] (by decide +kernel) (by decide +kernel)
set_option maxRecDepth 20000 in
theorem gX5_could_X5_speakersThatFit : GoodIn wsX5_could (wsV RX5 197 RX5 yX5_speakersThatFit wsX5_speakersThatFit) := goodIn_app (goodIn_of _ (by decide +kernel)) ggX5_could_X5_speakersThatFit
theorem dX5_could_0 : decode cX5_could 0 = .ok (.iload_n 1, 1) := by decide +kernel
theorem dX5_could_1 : decode cX5_could 1 = .ok (.invokestatic 180, 3) := by decide +kernel
theorem dX5_could_4 : decode cX5_could 4 = .ok (.ifCond .eq 11, 3) := by decide +kernel
theorem dX5_could_7 : decode cX5_could 7 = .ok (.aload_n 0, 1) := by decide +kernel
theorem dX5_could_8 : decode cX5_could 8 = .ok (.iload_n 1, 1) := by decide +kernel
theorem dX5_could_9 : decode cX5_could 9 = .ok (.invokevirtual 197, 3) := by decide +kernel
theorem dX5_could_12 : decode cX5_could 12 = .ok (.goto 4, 3) := by decide +kernel
theorem dX5_could_15 : decode cX5_could 15 = .ok (.iconst (-1), 1) := by decide +kernel
theorem dX5_could_16 : decode cX5_could 16 = .ok (.ireturn, 1) := by decide +kernel
set_option maxRecDepth 20000 in
theorem ggX5_must_X5_isNote : GoodIn wsX5_must wsX5_isNote := goodIn_r _ [5] (by decide +kernel) (by decide +kernel)
set_option maxRecDepth 20000 in
theorem gX5_must_X5_isNote : GoodIn wsX5_must (va_wsS RX5 180 yX5_isNote wsX5_isNote) := goodIn_app (goodIn_of _ (by decide +kernel)) ggX5_must_X5_isNote
set_option maxRecDepth 20000 in
theorem ggX5_must_X5_isDish : GoodIn wsX5_must wsX5_isDish := goodIn_r _ [9, 1, 10, 11, 61, 62, 63, 64, 65, 66, 67, 68, 69, 70, 71, 72, 73, 74, 75, 76, 77, 78] (by decide +kernel) (by decide +kernel)
set_option maxRecDepth 20000 in
theorem gX5_must_X5_isDish : GoodIn wsX5_must (wsV RX5 82 RX5 yX5_isDish wsX5_isDish) := goodIn_app (goodIn_of _ (by decide +kernel)) ggX5_must_X5_isDish
set_option maxRecDepth 20000 in
theorem ggX5_must_X5_isHour : GoodIn wsX5_must wsX5_isHour := goodIn_r _ [14] (by decide +kernel) (by decide +kernel)
set_option maxRecDepth 20000 in
theorem gX5_must_X5_isHour : GoodIn wsX5_must (va_wsS RX5 86 yX5_isHour wsX5_isHour) := goodIn_app (goodIn_of _ (by decide +kernel)) ggX5_must_X5_isHour
set_option maxRecDepth 20000 in
theorem ggX5_must_X5_speakersThatFit : GoodIn wsX5_must wsX5_speakersThatFit := goodIn_r _ [18, 1, 19, 20, 21, 22, 23, 24, 25, 26, 27, 28, 29, 30, 31, 32, 33, 34, 35, 36, 37, 38, 39, 40, 41, 4, 42, 43, 44, 45, 46, 47, 48, 49, 50, 51, 52, 53, 54, 55, 56, 57, 58, 59, 61, 62, 63, 64, 65, 66, 67, 68, 69, 70, 71, 72, 73, 74, 75, 76, 77, 78] (by decide +kernel) (by decide +kernel)
set_option maxRecDepth 20000 in
theorem gX5_must_X5_speakersThatFit : GoodIn wsX5_must (wsV RX5 197 RX5 yX5_speakersThatFit wsX5_speakersThatFit) := goodIn_app (goodIn_of _ (by decide +kernel)) ggX5_must_X5_speakersThatFit
set_option maxRecDepth 20000 in
theorem ggX5_must_X0_placeSeen : GoodIn wsX5_must wsX0_placeSeen := goodIn_r _ [46, 47, 30, 31, 32, 33, 34, 35, 36, 37, 38, 39, 40, 41, 4, 42, 48, 49, 50, 51, 72, 73, 74, 75, 76, 77, 78] (by decide +kernel) (by decide +kernel)
set_option maxRecDepth 20000 in
theorem gX5_must_X0_placeSeen : GoodIn wsX5_must (wsV RX5 89 RX0 yX0_placeSeen wsX0_placeSeen) := goodIn_app (goodIn_of _ (by decide +kernel)) ggX5_must_X0_placeSeen
set_option maxRecDepth 20000 in
theorem ggX5_must_X0_spansThatFit : GoodIn wsX5_must wsX0_spansThatFit := goodIn_r _ [23, 24, 25, 26, 22, 27, 28, 29, 30, 31, 32, 33, 34, 35, 36, 37, 38, 39, 40, 41, 4, 42, 43, 44, 45, 46, 47, 48, 49, 50, 51, 52, 53, 54, 55, 56, 57, 58, 59, 72, 73, 74, 75, 76, 77, 78] (by decide +kernel) (by decide +kernel)
set_option maxRecDepth 20000 in
theorem gX5_must_X0_spansThatFit : GoodIn wsX5_must (wsV RX5 200 RX0 yX0_spansThatFit wsX0_spansThatFit) := goodIn_app (goodIn_of _ (by decide +kernel)) ggX5_must_X0_spansThatFit
theorem dX5_must_0 : decode cX5_must 0 = .ok (.iload_n 1, 1) := by decide +kernel
theorem dX5_must_1 : decode cX5_must 1 = .ok (.invokestatic 180, 3) := by decide +kernel
theorem dX5_must_4 : decode cX5_must 4 = .ok (.ifCond .eq 18, 3) := by decide +kernel
theorem dX5_must_7 : decode cX5_must 7 = .ok (.aload_n 0, 1) := by decide +kernel
theorem dX5_must_8 : decode cX5_must 8 = .ok (.iload_n 2, 1) := by decide +kernel
theorem dX5_must_9 : decode cX5_must 9 = .ok (.invokevirtual 82, 3) := by decide +kernel
theorem dX5_must_12 : decode cX5_must 12 = .ok (.ifCond .eq 10, 3) := by decide +kernel
theorem dX5_must_15 : decode cX5_must 15 = .ok (.iload_n 3, 1) := by decide +kernel
theorem dX5_must_16 : decode cX5_must 16 = .ok (.invokestatic 86, 3) := by decide +kernel
theorem dX5_must_19 : decode cX5_must 19 = .ok (.ifCond .ne 5, 3) := by decide +kernel
theorem dX5_must_22 : decode cX5_must 22 = .ok (.iconst (-1), 1) := by decide +kernel
theorem dX5_must_23 : decode cX5_must 23 = .ok (.ireturn, 1) := by decide +kernel
theorem dX5_must_24 : decode cX5_must 24 = .ok (.aload_n 0, 1) := by decide +kernel
theorem dX5_must_25 : decode cX5_must 25 = .ok (.iload_n 1, 1) := by decide +kernel
theorem dX5_must_26 : decode cX5_must 26 = .ok (.invokevirtual 197, 3) := by decide +kernel
theorem dX5_must_29 : decode cX5_must 29 = .ok (.istore 4, 2) := by decide +kernel
theorem dX5_must_31 : decode cX5_must 31 = .ok (.iload 4, 2) := by decide +kernel
theorem dX5_must_33 : decode cX5_must 33 = .ok (.ifCond .ne 6, 3) := by decide +kernel
theorem dX5_must_36 : decode cX5_must 36 = .ok (.bipush (-9), 2) := by decide +kernel
theorem dX5_must_38 : decode cX5_must 38 = .ok (.ireturn, 1) := by decide +kernel
theorem dX5_must_39 : decode cX5_must 39 = .ok (.aload_n 0, 1) := by decide +kernel
theorem dX5_must_40 : decode cX5_must 40 = .ok (.getfield 36, 3) := by decide +kernel
theorem dX5_must_43 : decode cX5_must 43 = .ok (.iload_n 1, 1) := by decide +kernel
theorem dX5_must_44 : decode cX5_must 44 = .ok (.aload_n 0, 1) := by decide +kernel
theorem dX5_must_45 : decode cX5_must 45 = .ok (.getfield 36, 3) := by decide +kernel
theorem dX5_must_48 : decode cX5_must 48 = .ok (.iload_n 2, 1) := by decide +kernel
theorem dX5_must_49 : decode cX5_must 49 = .ok (.iload_n 3, 1) := by decide +kernel
theorem dX5_must_50 : decode cX5_must 50 = .ok (.invokevirtual 89, 3) := by decide +kernel
theorem dX5_must_53 : decode cX5_must 53 = .ok (.iconst 1, 1) := by decide +kernel
theorem dX5_must_54 : decode cX5_must 54 = .ok (.iload_n 3, 1) := by decide +kernel
theorem dX5_must_55 : decode cX5_must 55 = .ok (.ishl, 1) := by decide +kernel
theorem dX5_must_56 : decode cX5_must 56 = .ok (.invokevirtual 200, 3) := by decide +kernel
theorem dX5_must_59 : decode cX5_must 59 = .ok (.istore 5, 2) := by decide +kernel
theorem dX5_must_61 : decode cX5_must 61 = .ok (.iload 5, 2) := by decide +kernel
theorem dX5_must_63 : decode cX5_must 63 = .ok (.iload 4, 2) := by decide +kernel
theorem dX5_must_65 : decode cX5_must 65 = .ok (.if_icmp .ne 7, 3) := by decide +kernel
theorem dX5_must_68 : decode cX5_must 68 = .ok (.iconst 1, 1) := by decide +kernel
theorem dX5_must_69 : decode cX5_must 69 = .ok (.goto 14, 3) := by decide +kernel
theorem dX5_must_72 : decode cX5_must 72 = .ok (.iload 5, 2) := by decide +kernel
theorem dX5_must_74 : decode cX5_must 74 = .ok (.ifCond .ne 7, 3) := by decide +kernel
theorem dX5_must_77 : decode cX5_must 77 = .ok (.iconst 0, 1) := by decide +kernel
theorem dX5_must_78 : decode cX5_must 78 = .ok (.goto 5, 3) := by decide +kernel
theorem dX5_must_81 : decode cX5_must 81 = .ok (.bipush (-5), 2) := by decide +kernel
theorem dX5_must_83 : decode cX5_must 83 = .ok (.ireturn, 1) := by decide +kernel
set_option maxRecDepth 20000 in
theorem ggX5_second_X5_isDish : GoodIn wsX5_second wsX5_isDish := goodIn_r _ [8, 1, 2, 3, 43, 44, 45, 46, 47, 48, 49, 50, 51, 52, 53, 54, 55, 56, 57, 58, 59, 60] (by decide +kernel) (by decide +kernel)
set_option maxRecDepth 20000 in
theorem gX5_second_X5_isDish : GoodIn wsX5_second (wsV RX5 82 RX5 yX5_isDish wsX5_isDish) := goodIn_app (goodIn_of _ (by decide +kernel)) ggX5_second_X5_isDish
set_option maxRecDepth 20000 in
theorem ggX5_second_X5_isHour : GoodIn wsX5_second wsX5_isHour := goodIn_r _ [11] (by decide +kernel) (by decide +kernel)
set_option maxRecDepth 20000 in
theorem gX5_second_X5_isHour : GoodIn wsX5_second (va_wsS RX5 86 yX5_isHour wsX5_isHour) := goodIn_app (goodIn_of _ (by decide +kernel)) ggX5_second_X5_isHour
set_option maxRecDepth 20000 in
theorem ggX5_second_X0_placeSeen : GoodIn wsX5_second wsX0_placeSeen := goodIn_r _ [16, 17, 18, 19, 20, 21, 22, 23, 24, 25, 26, 27, 28, 29, 7, 30, 31, 32, 33, 34, 54, 55, 56, 57, 58, 59, 60] (by decide +kernel) (by decide +kernel)
set_option maxRecDepth 20000 in
theorem gX5_second_X0_placeSeen : GoodIn wsX5_second (wsV RX5 89 RX0 yX0_placeSeen wsX0_placeSeen) := goodIn_app (goodIn_of _ (by decide +kernel)) ggX5_second_X0_placeSeen
set_option maxRecDepth 20000 in
theorem ggX5_second_X0_placesSeen : GoodIn wsX5_second wsX0_placesSeen := goodIn_r _ [38, 39, 13, 14, 15, 16, 17, 18, 19, 20, 21, 22, 23, 24, 25, 26, 27, 28, 29, 7, 30, 31, 32, 33, 34, 54, 55, 56, 57, 58, 59, 60] (by decide +kernel) (by decide +kernel)
set_option maxRecDepth 20000 in
theorem gX5_second_X0_placesSeen : GoodIn wsX5_second (wsV RX5 203 RX0 yX0_placesSeen wsX0_placesSeen) := goodIn_app (goodIn_of _ (by decide +kernel)) ggX5_second_X0_placesSeen
set_option maxRecDepth 20000 in
theorem ggX5_second_X5_hasBit : GoodIn wsX5_second wsX5_hasBit := goodIn_r _ [42] (by decide +kernel) (by decide +kernel)
set_option maxRecDepth 20000 in
theorem gX5_second_X5_hasBit : GoodIn wsX5_second (va_wsS RX5 165 yX5_hasBit wsX5_hasBit) := goodIn_app (goodIn_of _ (by decide +kernel)) ggX5_second_X5_hasBit
theorem dX5_second_0 : decode cX5_second 0 = .ok (.aload_n 0, 1) := by decide +kernel
theorem dX5_second_1 : decode cX5_second 1 = .ok (.iload_n 1, 1) := by decide +kernel
theorem dX5_second_2 : decode cX5_second 2 = .ok (.invokevirtual 82, 3) := by decide +kernel
theorem dX5_second_5 : decode cX5_second 5 = .ok (.ifCond .eq 10, 3) := by decide +kernel
theorem dX5_second_8 : decode cX5_second 8 = .ok (.iload_n 2, 1) := by decide +kernel
theorem dX5_second_9 : decode cX5_second 9 = .ok (.invokestatic 86, 3) := by decide +kernel
theorem dX5_second_12 : decode cX5_second 12 = .ok (.ifCond .ne 5, 3) := by decide +kernel
theorem dX5_second_15 : decode cX5_second 15 = .ok (.iconst (-1), 1) := by decide +kernel
theorem dX5_second_16 : decode cX5_second 16 = .ok (.ireturn, 1) := by decide +kernel
theorem dX5_second_17 : decode cX5_second 17 = .ok (.aload_n 0, 1) := by decide +kernel
theorem dX5_second_18 : decode cX5_second 18 = .ok (.getfield 36, 3) := by decide +kernel
theorem dX5_second_21 : decode cX5_second 21 = .ok (.iload_n 1, 1) := by decide +kernel
theorem dX5_second_22 : decode cX5_second 22 = .ok (.iload_n 2, 1) := by decide +kernel
theorem dX5_second_23 : decode cX5_second 23 = .ok (.invokevirtual 89, 3) := by decide +kernel
theorem dX5_second_26 : decode cX5_second 26 = .ok (.istore_n 3, 1) := by decide +kernel
theorem dX5_second_27 : decode cX5_second 27 = .ok (.iconst 0, 1) := by decide +kernel
theorem dX5_second_28 : decode cX5_second 28 = .ok (.istore 4, 2) := by decide +kernel
theorem dX5_second_30 : decode cX5_second 30 = .ok (.iconst 0, 1) := by decide +kernel
theorem dX5_second_31 : decode cX5_second 31 = .ok (.istore 5, 2) := by decide +kernel
theorem dX5_second_33 : decode cX5_second 33 = .ok (.iload 5, 2) := by decide +kernel
theorem dX5_second_35 : decode cX5_second 35 = .ok (.aload_n 0, 1) := by decide +kernel
theorem dX5_second_36 : decode cX5_second 36 = .ok (.getfield 36, 3) := by decide +kernel
theorem dX5_second_39 : decode cX5_second 39 = .ok (.getfield 115, 3) := by decide +kernel
theorem dX5_second_42 : decode cX5_second 42 = .ok (.getfield 136, 3) := by decide +kernel
theorem dX5_second_45 : decode cX5_second 45 = .ok (.if_icmp .ge 37, 3) := by decide +kernel
theorem dX5_second_48 : decode cX5_second 48 = .ok (.iload 5, 2) := by decide +kernel
theorem dX5_second_50 : decode cX5_second 50 = .ok (.iload_n 1, 1) := by decide +kernel
theorem dX5_second_51 : decode cX5_second 51 = .ok (.if_icmp .eq 25, 3) := by decide +kernel
theorem dX5_second_54 : decode cX5_second 54 = .ok (.aload_n 0, 1) := by decide +kernel
theorem dX5_second_55 : decode cX5_second 55 = .ok (.getfield 36, 3) := by decide +kernel
theorem dX5_second_58 : decode cX5_second 58 = .ok (.iload 5, 2) := by decide +kernel
theorem dX5_second_60 : decode cX5_second 60 = .ok (.iload_n 2, 1) := by decide +kernel
theorem dX5_second_61 : decode cX5_second 61 = .ok (.bipush 23, 2) := by decide +kernel
theorem dX5_second_63 : decode cX5_second 63 = .ok (.invokevirtual 203, 3) := by decide +kernel
theorem dX5_second_66 : decode cX5_second 66 = .ok (.iload_n 3, 1) := by decide +kernel
theorem dX5_second_67 : decode cX5_second 67 = .ok (.invokestatic 165, 3) := by decide +kernel
theorem dX5_second_70 : decode cX5_second 70 = .ok (.ifCond .eq 6, 3) := by decide +kernel
theorem dX5_second_73 : decode cX5_second 73 = .ok (.iinc 4 1, 3) := by decide +kernel
theorem dX5_second_76 : decode cX5_second 76 = .ok (.iinc 5 1, 3) := by decide +kernel
theorem dX5_second_79 : decode cX5_second 79 = .ok (.goto (-46), 3) := by decide +kernel
theorem dX5_second_82 : decode cX5_second 82 = .ok (.iload 4, 2) := by decide +kernel
theorem dX5_second_84 : decode cX5_second 84 = .ok (.ireturn, 1) := by decide +kernel
set_option maxRecDepth 20000 in
theorem ggX5_mark_X5_isNote : GoodIn wsX5_mark wsX5_isNote := goodIn_r _ [5] (by decide +kernel) (by decide +kernel)
set_option maxRecDepth 20000 in
theorem gX5_mark_X5_isNote : GoodIn wsX5_mark (va_wsS RX5 180 yX5_isNote wsX5_isNote) := goodIn_app (goodIn_of _ (by decide +kernel)) ggX5_mark_X5_isNote
set_option maxRecDepth 20000 in
theorem ggX5_mark_X5_markAsNote : GoodIn wsX5_mark wsX5_markAsNote := goodIn_r _ [9, 10, 71, 72, 73, 74, 75, 76, 77, 78, 79, 80, 81] (by decide +kernel) (by decide +kernel)
set_option maxRecDepth 20000 in
theorem gX5_mark_X5_markAsNote : GoodIn wsX5_mark (wsV RX5 207 RX5 yX5_markAsNote wsX5_markAsNote) := goodIn_app (goodIn_of _ (by decide +kernel)) ggX5_mark_X5_markAsNote
set_option maxRecDepth 20000 in
theorem ggX5_mark_X5_markAsVoice : GoodIn wsX5_mark wsX5_markAsVoice := goodIn_r _ [14, 10, 15, 16, 17, 6, 7, 8, 4, 9, 18, 19, 20, 21, 22, 23, 24, 25, 26, 27, 28, 29, 30, 31, 32, 33, 34, 71, 72, 73, 74, 75, 76, 77, 78, 79, 80, 81, 82, 83, 84, 85, 86, 87, 88] (by decide +kernel) (by decide +kernel)
set_option maxRecDepth 20000 in
theorem gX5_mark_X5_markAsVoice : GoodIn wsX5_mark (wsV RX5 210 RX5 yX5_markAsVoice wsX5_markAsVoice) := goodIn_app (goodIn_of _ (by decide +kernel)) ggX5_mark_X5_markAsVoice
set_option maxRecDepth 20000 in
theorem ggX5_mark_X5_markAsHum : GoodIn wsX5_mark wsX5_markAsHum := goodIn_r _ [38, 10, 39, 16, 40, 6, 7, 8, 4, 9, 18, 19, 20, 21, 22, 23, 24, 25, 26, 27, 28, 29, 30, 31, 32, 33, 34, 71, 72, 73, 74, 75, 76, 77, 78, 79, 80, 81, 82, 83, 84, 85, 86, 87, 88] (by decide +kernel) (by decide +kernel)
set_option maxRecDepth 20000 in
theorem gX5_mark_X5_markAsHum : GoodIn wsX5_mark (wsV RX5 213 RX5 yX5_markAsHum wsX5_markAsHum) := goodIn_app (goodIn_of _ (by decide +kernel)) ggX5_mark_X5_markAsHum
set_option maxRecDepth 20000 in
theorem ggX5_mark_X5_markAsCall : GoodIn wsX5_mark wsX5_markAsCall := goodIn_r _ [44, 10, 45, 11, 12, 13, 4, 14, 15, 16, 17, 6, 7, 8, 9, 18, 19, 20, 21, 22, 23, 24, 25, 26, 27, 28, 29, 30, 31, 32, 33, 34, 71, 72, 73, 74, 75, 76, 77, 78, 79, 80, 81, 82, 83, 84, 85, 86, 87, 88] (by decide +kernel) (by decide +kernel)
set_option maxRecDepth 20000 in
theorem gX5_mark_X5_markAsCall : GoodIn wsX5_mark (wsV RX5 216 RX5 yX5_markAsCall wsX5_markAsCall) := goodIn_app (goodIn_of _ (by decide +kernel)) ggX5_mark_X5_markAsCall
set_option maxRecDepth 20000 in
theorem ggX5_mark_X5_markAsKettle : GoodIn wsX5_mark wsX5_markAsKettle := goodIn_r _ [49, 10, 50, 51, 35, 36, 37, 4, 38, 39, 16, 40, 6, 7, 8, 9, 18, 19, 20, 21, 22, 23, 24, 25, 26, 27, 28, 29, 30, 31, 32, 33, 34, 52, 53, 54, 55, 56, 57, 58, 59, 60, 61, 62, 63, 71, 72, 73, 74, 75, 76, 77, 78, 79, 80, 81, 82, 83, 84, 85, 86, 87, 88, 89, 90, 91, 92] (by decide +kernel) (by decide +kernel)
set_option maxRecDepth 20000 in
theorem gX5_mark_X5_markAsKettle : GoodIn wsX5_mark (wsV RX5 219 RX5 yX5_markAsKettle wsX5_markAsKettle) := goodIn_app (goodIn_of _ (by decide +kernel)) ggX5_mark_X5_markAsKettle
set_option maxRecDepth 20000 in
theorem ggX5_mark_X5_markAsEcho : GoodIn wsX5_mark wsX5_markAsEcho := goodIn_r _ [67, 10, 68, 51, 69, 70, 6, 7, 8, 4, 9, 71, 72, 73, 74, 75, 76, 77, 78, 79, 80, 81, 89, 90, 91, 92, 86, 87, 88] (by decide +kernel) (by decide +kernel)
set_option maxRecDepth 20000 in
theorem gX5_mark_X5_markAsEcho : GoodIn wsX5_mark (wsV RX5 222 RX5 yX5_markAsEcho wsX5_markAsEcho) := goodIn_app (goodIn_of _ (by decide +kernel)) ggX5_mark_X5_markAsEcho
theorem dX5_mark_0 : decode cX5_mark 0 = .ok (.iload_n 2, 1) := by decide +kernel
theorem dX5_mark_1 : decode cX5_mark 1 = .ok (.invokestatic 180, 3) := by decide +kernel
theorem dX5_mark_4 : decode cX5_mark 4 = .ok (.ifCond .ne 6, 3) := by decide +kernel
theorem dX5_mark_7 : decode cX5_mark 7 = .ok (.ldc 206, 2) := by decide +kernel
theorem dX5_mark_9 : decode cX5_mark 9 = .ok (.ireturn, 1) := by decide +kernel
theorem dX5_mark_10 : decode cX5_mark 10 = .ok (.iload_n 1, 1) := by decide +kernel
theorem dX5_mark_11 : decode cX5_mark 11 = .ok (.tableswitch 73 0 5 #[37, 43, 49, 55, 61, 67], 37) := by decide +kernel
theorem dX5_mark_48 : decode cX5_mark 48 = .ok (.aload_n 0, 1) := by decide +kernel
theorem dX5_mark_49 : decode cX5_mark 49 = .ok (.iload_n 2, 1) := by decide +kernel
theorem dX5_mark_50 : decode cX5_mark 50 = .ok (.invokevirtual 207, 3) := by decide +kernel
theorem dX5_mark_53 : decode cX5_mark 53 = .ok (.ireturn, 1) := by decide +kernel
theorem dX5_mark_54 : decode cX5_mark 54 = .ok (.aload_n 0, 1) := by decide +kernel
theorem dX5_mark_55 : decode cX5_mark 55 = .ok (.iload_n 2, 1) := by decide +kernel
theorem dX5_mark_56 : decode cX5_mark 56 = .ok (.invokevirtual 210, 3) := by decide +kernel
theorem dX5_mark_59 : decode cX5_mark 59 = .ok (.ireturn, 1) := by decide +kernel
theorem dX5_mark_60 : decode cX5_mark 60 = .ok (.aload_n 0, 1) := by decide +kernel
theorem dX5_mark_61 : decode cX5_mark 61 = .ok (.iload_n 2, 1) := by decide +kernel
theorem dX5_mark_62 : decode cX5_mark 62 = .ok (.invokevirtual 213, 3) := by decide +kernel
theorem dX5_mark_65 : decode cX5_mark 65 = .ok (.ireturn, 1) := by decide +kernel
theorem dX5_mark_66 : decode cX5_mark 66 = .ok (.aload_n 0, 1) := by decide +kernel
theorem dX5_mark_67 : decode cX5_mark 67 = .ok (.iload_n 2, 1) := by decide +kernel
theorem dX5_mark_68 : decode cX5_mark 68 = .ok (.invokevirtual 216, 3) := by decide +kernel
theorem dX5_mark_71 : decode cX5_mark 71 = .ok (.ireturn, 1) := by decide +kernel
theorem dX5_mark_72 : decode cX5_mark 72 = .ok (.aload_n 0, 1) := by decide +kernel
theorem dX5_mark_73 : decode cX5_mark 73 = .ok (.iload_n 2, 1) := by decide +kernel
theorem dX5_mark_74 : decode cX5_mark 74 = .ok (.invokevirtual 219, 3) := by decide +kernel
theorem dX5_mark_77 : decode cX5_mark 77 = .ok (.ireturn, 1) := by decide +kernel
theorem dX5_mark_78 : decode cX5_mark 78 = .ok (.aload_n 0, 1) := by decide +kernel
theorem dX5_mark_79 : decode cX5_mark 79 = .ok (.iload_n 2, 1) := by decide +kernel
theorem dX5_mark_80 : decode cX5_mark 80 = .ok (.invokevirtual 222, 3) := by decide +kernel
theorem dX5_mark_83 : decode cX5_mark 83 = .ok (.ireturn, 1) := by decide +kernel
theorem dX5_mark_84 : decode cX5_mark 84 = .ok (.ldc 206, 2) := by decide +kernel
theorem dX5_mark_86 : decode cX5_mark 86 = .ok (.ireturn, 1) := by decide +kernel
set_option maxRecDepth 20000 in
theorem ggX5_keep_X5_isImage : GoodIn wsX5_keep wsX5_isImage := goodIn_r _ [8] (by decide +kernel) (by decide +kernel)
set_option maxRecDepth 20000 in
theorem gX5_keep_X5_isImage : GoodIn wsX5_keep (va_wsS RX5 225 yX5_isImage wsX5_isImage) := goodIn_app (goodIn_of _ (by decide +kernel)) ggX5_keep_X5_isImage
set_option maxRecDepth 20000 in
theorem ggX5_keep_X5_imageOf : GoodIn wsX5_keep wsX5_imageOf := goodIn_r _ [12, 13, 14, 40, 41, 42, 43, 44, 45, 46, 47, 48, 49, 50] (by decide +kernel) (by decide +kernel)
set_option maxRecDepth 20000 in
theorem gX5_keep_X5_imageOf : GoodIn wsX5_keep (wsV RX5 228 RX5 yX5_imageOf wsX5_imageOf) := goodIn_app (goodIn_of _ (by decide +kernel)) ggX5_keep_X5_imageOf
set_option maxRecDepth 20000 in
theorem ggX5_keep_X0_copyFrom : GoodIn wsX5_keep wsX0_copyFrom := goodIn_r _ [19, 20, 21, 22, 23, 24, 25, 26, 27, 28, 29, 30, 31, 32, 33, 34, 35, 36, 7, 37, 38, 39, 51, 52, 53, 54, 55, 56, 57] (by decide +kernel) (by decide +kernel)
set_option maxRecDepth 20000 in
theorem gX5_keep_X0_copyFrom : GoodIn wsX5_keep (wsV RX5 232 RX0 yX0_copyFrom wsX0_copyFrom) := goodIn_app (goodIn_of _ (by decide +kernel)) ggX5_keep_X0_copyFrom
theorem dX5_keep_0 : decode cX5_keep 0 = .ok (.iload_n 1, 1) := by decide +kernel
theorem dX5_keep_1 : decode cX5_keep 1 = .ok (.invokestatic 225, 3) := by decide +kernel
theorem dX5_keep_4 : decode cX5_keep 4 = .ok (.ifCond .ne 5, 3) := by decide +kernel
theorem dX5_keep_7 : decode cX5_keep 7 = .ok (.iconst (-1), 1) := by decide +kernel
theorem dX5_keep_8 : decode cX5_keep 8 = .ok (.ireturn, 1) := by decide +kernel
theorem dX5_keep_9 : decode cX5_keep 9 = .ok (.aload_n 0, 1) := by decide +kernel
theorem dX5_keep_10 : decode cX5_keep 10 = .ok (.iload_n 1, 1) := by decide +kernel
theorem dX5_keep_11 : decode cX5_keep 11 = .ok (.invokevirtual 228, 3) := by decide +kernel
theorem dX5_keep_14 : decode cX5_keep 14 = .ok (.aload_n 0, 1) := by decide +kernel
theorem dX5_keep_15 : decode cX5_keep 15 = .ok (.getfield 36, 3) := by decide +kernel
theorem dX5_keep_18 : decode cX5_keep 18 = .ok (.invokevirtual 232, 3) := by decide +kernel
theorem dX5_keep_21 : decode cX5_keep 21 = .ok (.aload_n 0, 1) := by decide +kernel
theorem dX5_keep_22 : decode cX5_keep 22 = .ok (.dup, 1) := by decide +kernel
theorem dX5_keep_23 : decode cX5_keep 23 = .ok (.getfield 53, 3) := by decide +kernel
theorem dX5_keep_26 : decode cX5_keep 26 = .ok (.iconst 1, 1) := by decide +kernel
theorem dX5_keep_27 : decode cX5_keep 27 = .ok (.iload_n 1, 1) := by decide +kernel
theorem dX5_keep_28 : decode cX5_keep 28 = .ok (.ishl, 1) := by decide +kernel
theorem dX5_keep_29 : decode cX5_keep 29 = .ok (.ior, 1) := by decide +kernel
theorem dX5_keep_30 : decode cX5_keep 30 = .ok (.putfield 53, 3) := by decide +kernel
theorem dX5_keep_33 : decode cX5_keep 33 = .ok (.aload_n 0, 1) := by decide +kernel
theorem dX5_keep_34 : decode cX5_keep 34 = .ok (.getfield 36, 3) := by decide +kernel
theorem dX5_keep_37 : decode cX5_keep 37 = .ok (.getfield 126, 3) := by decide +kernel
theorem dX5_keep_40 : decode cX5_keep 40 = .ok (.getfield 136, 3) := by decide +kernel
theorem dX5_keep_43 : decode cX5_keep 43 = .ok (.ireturn, 1) := by decide +kernel
set_option maxRecDepth 20000 in
theorem ggX5_back_X5_isImage : GoodIn wsX5_back wsX5_isImage := goodIn_r _ [8] (by decide +kernel) (by decide +kernel)
set_option maxRecDepth 20000 in
theorem gX5_back_X5_isImage : GoodIn wsX5_back (va_wsS RX5 225 yX5_isImage wsX5_isImage) := goodIn_app (goodIn_of _ (by decide +kernel)) ggX5_back_X5_isImage
set_option maxRecDepth 20000 in
theorem ggX5_back_X5_hasBit : GoodIn wsX5_back wsX5_hasBit := goodIn_r _ [11] (by decide +kernel) (by decide +kernel)
set_option maxRecDepth 20000 in
theorem gX5_back_X5_hasBit : GoodIn wsX5_back (va_wsS RX5 165 yX5_hasBit wsX5_hasBit) := goodIn_app (goodIn_of _ (by decide +kernel)) ggX5_back_X5_hasBit
set_option maxRecDepth 20000 in
theorem ggX5_back_X5_imageOf : GoodIn wsX5_back wsX5_imageOf := goodIn_r _ [15, 16, 17, 43, 44, 45, 46, 47, 48, 49, 50, 51, 52, 53] (by decide +kernel) (by decide +kernel)
set_option maxRecDepth 20000 in
theorem gX5_back_X5_imageOf : GoodIn wsX5_back (wsV RX5 228 RX5 yX5_imageOf wsX5_imageOf) := goodIn_app (goodIn_of _ (by decide +kernel)) ggX5_back_X5_imageOf
set_option maxRecDepth 20000 in
theorem ggX5_back_X0_copyFrom : GoodIn wsX5_back wsX0_copyFrom := goodIn_r _ [22, 23, 24, 25, 26, 27, 28, 29, 30, 31, 32, 33, 34, 35, 36, 37, 38, 39, 7, 40, 41, 42, 54, 55, 56, 57, 58, 59, 60] (by decide +kernel) (by decide +kernel)
set_option maxRecDepth 20000 in
theorem gX5_back_X0_copyFrom : GoodIn wsX5_back (wsV RX5 232 RX0 yX0_copyFrom wsX0_copyFrom) := goodIn_app (goodIn_of _ (by decide +kernel)) ggX5_back_X0_copyFrom
theorem dX5_back_0 : decode cX5_back 0 = .ok (.iload_n 1, 1) := by decide +kernel
theorem dX5_back_1 : decode cX5_back 1 = .ok (.invokestatic 225, 3) := by decide +kernel
theorem dX5_back_4 : decode cX5_back 4 = .ok (.ifCond .ne 5, 3) := by decide +kernel
theorem dX5_back_7 : decode cX5_back 7 = .ok (.iconst (-1), 1) := by decide +kernel
theorem dX5_back_8 : decode cX5_back 8 = .ok (.ireturn, 1) := by decide +kernel
theorem dX5_back_9 : decode cX5_back 9 = .ok (.aload_n 0, 1) := by decide +kernel
theorem dX5_back_10 : decode cX5_back 10 = .ok (.getfield 53, 3) := by decide +kernel
theorem dX5_back_13 : decode cX5_back 13 = .ok (.iload_n 1, 1) := by decide +kernel
theorem dX5_back_14 : decode cX5_back 14 = .ok (.invokestatic 165, 3) := by decide +kernel
theorem dX5_back_17 : decode cX5_back 17 = .ok (.ifCond .ne 6, 3) := by decide +kernel
theorem dX5_back_20 : decode cX5_back 20 = .ok (.bipush (-2), 2) := by decide +kernel
theorem dX5_back_22 : decode cX5_back 22 = .ok (.ireturn, 1) := by decide +kernel
theorem dX5_back_23 : decode cX5_back 23 = .ok (.aload_n 0, 1) := by decide +kernel
theorem dX5_back_24 : decode cX5_back 24 = .ok (.getfield 36, 3) := by decide +kernel
theorem dX5_back_27 : decode cX5_back 27 = .ok (.aload_n 0, 1) := by decide +kernel
theorem dX5_back_28 : decode cX5_back 28 = .ok (.iload_n 1, 1) := by decide +kernel
theorem dX5_back_29 : decode cX5_back 29 = .ok (.invokevirtual 228, 3) := by decide +kernel
theorem dX5_back_32 : decode cX5_back 32 = .ok (.invokevirtual 232, 3) := by decide +kernel
theorem dX5_back_35 : decode cX5_back 35 = .ok (.aload_n 0, 1) := by decide +kernel
theorem dX5_back_36 : decode cX5_back 36 = .ok (.getfield 36, 3) := by decide +kernel
theorem dX5_back_39 : decode cX5_back 39 = .ok (.getfield 126, 3) := by decide +kernel
theorem dX5_back_42 : decode cX5_back 42 = .ok (.getfield 136, 3) := by decide +kernel
theorem dX5_back_45 : decode cX5_back 45 = .ok (.ireturn, 1) := by decide +kernel
theorem dX5_count_0 : decode cX5_count 0 = .ok (.iload_n 1, 1) := by decide +kernel
theorem dX5_count_1 : decode cX5_count 1 = .ok (.tableswitch 132 0 7 #[47, 58, 69, 80, 91, 102, 113, 124], 47) := by decide +kernel
theorem dX5_count_48 : decode cX5_count 48 = .ok (.aload_n 0, 1) := by decide +kernel
theorem dX5_count_49 : decode cX5_count 49 = .ok (.getfield 36, 3) := by decide +kernel
theorem dX5_count_52 : decode cX5_count 52 = .ok (.getfield 115, 3) := by decide +kernel
theorem dX5_count_55 : decode cX5_count 55 = .ok (.getfield 136, 3) := by decide +kernel
theorem dX5_count_58 : decode cX5_count 58 = .ok (.ireturn, 1) := by decide +kernel
theorem dX5_count_59 : decode cX5_count 59 = .ok (.aload_n 0, 1) := by decide +kernel
theorem dX5_count_60 : decode cX5_count 60 = .ok (.getfield 26, 3) := by decide +kernel
theorem dX5_count_63 : decode cX5_count 63 = .ok (.getfield 235, 3) := by decide +kernel
theorem dX5_count_66 : decode cX5_count 66 = .ok (.getfield 136, 3) := by decide +kernel
theorem dX5_count_69 : decode cX5_count 69 = .ok (.ireturn, 1) := by decide +kernel
theorem dX5_count_70 : decode cX5_count 70 = .ok (.aload_n 0, 1) := by decide +kernel
theorem dX5_count_71 : decode cX5_count 71 = .ok (.getfield 26, 3) := by decide +kernel
theorem dX5_count_74 : decode cX5_count 74 = .ok (.getfield 238, 3) := by decide +kernel
theorem dX5_count_77 : decode cX5_count 77 = .ok (.getfield 136, 3) := by decide +kernel
theorem dX5_count_80 : decode cX5_count 80 = .ok (.ireturn, 1) := by decide +kernel
theorem dX5_count_81 : decode cX5_count 81 = .ok (.aload_n 0, 1) := by decide +kernel
theorem dX5_count_82 : decode cX5_count 82 = .ok (.getfield 26, 3) := by decide +kernel
theorem dX5_count_85 : decode cX5_count 85 = .ok (.getfield 106, 3) := by decide +kernel
theorem dX5_count_88 : decode cX5_count 88 = .ok (.getfield 136, 3) := by decide +kernel
theorem dX5_count_91 : decode cX5_count 91 = .ok (.ireturn, 1) := by decide +kernel
theorem dX5_count_92 : decode cX5_count 92 = .ok (.aload_n 0, 1) := by decide +kernel
theorem dX5_count_93 : decode cX5_count 93 = .ok (.getfield 36, 3) := by decide +kernel
theorem dX5_count_96 : decode cX5_count 96 = .ok (.getfield 126, 3) := by decide +kernel
theorem dX5_count_99 : decode cX5_count 99 = .ok (.getfield 136, 3) := by decide +kernel
theorem dX5_count_102 : decode cX5_count 102 = .ok (.ireturn, 1) := by decide +kernel
theorem dX5_count_103 : decode cX5_count 103 = .ok (.aload_n 0, 1) := by decide +kernel
theorem dX5_count_104 : decode cX5_count 104 = .ok (.getfield 36, 3) := by decide +kernel
theorem dX5_count_107 : decode cX5_count 107 = .ok (.getfield 183, 3) := by decide +kernel
theorem dX5_count_110 : decode cX5_count 110 = .ok (.getfield 136, 3) := by decide +kernel
theorem dX5_count_113 : decode cX5_count 113 = .ok (.ireturn, 1) := by decide +kernel
theorem dX5_count_114 : decode cX5_count 114 = .ok (.aload_n 0, 1) := by decide +kernel
theorem dX5_count_115 : decode cX5_count 115 = .ok (.getfield 36, 3) := by decide +kernel
theorem dX5_count_118 : decode cX5_count 118 = .ok (.getfield 146, 3) := by decide +kernel
theorem dX5_count_121 : decode cX5_count 121 = .ok (.getfield 136, 3) := by decide +kernel
theorem dX5_count_124 : decode cX5_count 124 = .ok (.ireturn, 1) := by decide +kernel
theorem dX5_count_125 : decode cX5_count 125 = .ok (.aload_n 0, 1) := by decide +kernel
theorem dX5_count_126 : decode cX5_count 126 = .ok (.getfield 10, 3) := by decide +kernel
theorem dX5_count_129 : decode cX5_count 129 = .ok (.getfield 65, 3) := by decide +kernel
theorem dX5_count_132 : decode cX5_count 132 = .ok (.ireturn, 1) := by decide +kernel
theorem dX5_count_133 : decode cX5_count 133 = .ok (.iconst (-1), 1) := by decide +kernel
theorem dX5_count_134 : decode cX5_count 134 = .ok (.ireturn, 1) := by decide +kernel
theorem dX5_trace_0 : decode cX5_trace 0 = .ok (.aload_n 0, 1) := by decide +kernel
theorem dX5_trace_1 : decode cX5_trace 1 = .ok (.getfield 57, 3) := by decide +kernel
theorem dX5_trace_4 : decode cX5_trace 4 = .ok (.lreturn, 1) := by decide +kernel
theorem dX5_isDish_0 : decode cX5_isDish 0 = .ok (.iload_n 1, 1) := by decide +kernel
theorem dX5_isDish_1 : decode cX5_isDish 1 = .ok (.ifCond .lt 21, 3) := by decide +kernel
theorem dX5_isDish_4 : decode cX5_isDish 4 = .ok (.iload_n 1, 1) := by decide +kernel
theorem dX5_isDish_5 : decode cX5_isDish 5 = .ok (.aload_n 0, 1) := by decide +kernel
theorem dX5_isDish_6 : decode cX5_isDish 6 = .ok (.getfield 36, 3) := by decide +kernel
theorem dX5_isDish_9 : decode cX5_isDish 9 = .ok (.getfield 115, 3) := by decide +kernel
theorem dX5_isDish_12 : decode cX5_isDish 12 = .ok (.getfield 136, 3) := by decide +kernel
theorem dX5_isDish_15 : decode cX5_isDish 15 = .ok (.if_icmp .ge 7, 3) := by decide +kernel
theorem dX5_isDish_18 : decode cX5_isDish 18 = .ok (.iconst 1, 1) := by decide +kernel
theorem dX5_isDish_19 : decode cX5_isDish 19 = .ok (.goto 4, 3) := by decide +kernel
theorem dX5_isDish_22 : decode cX5_isDish 22 = .ok (.iconst 0, 1) := by decide +kernel
theorem dX5_isDish_23 : decode cX5_isDish 23 = .ok (.ireturn, 1) := by decide +kernel
theorem dX5_isAsker_0 : decode cX5_isAsker 0 = .ok (.iload_n 1, 1) := by decide +kernel
theorem dX5_isAsker_1 : decode cX5_isAsker 1 = .ok (.ifCond .lt 21, 3) := by decide +kernel
theorem dX5_isAsker_4 : decode cX5_isAsker 4 = .ok (.iload_n 1, 1) := by decide +kernel
theorem dX5_isAsker_5 : decode cX5_isAsker 5 = .ok (.aload_n 0, 1) := by decide +kernel
theorem dX5_isAsker_6 : decode cX5_isAsker 6 = .ok (.getfield 26, 3) := by decide +kernel
theorem dX5_isAsker_9 : decode cX5_isAsker 9 = .ok (.getfield 106, 3) := by decide +kernel
theorem dX5_isAsker_12 : decode cX5_isAsker 12 = .ok (.getfield 136, 3) := by decide +kernel
theorem dX5_isAsker_15 : decode cX5_isAsker 15 = .ok (.if_icmp .ge 7, 3) := by decide +kernel
theorem dX5_isAsker_18 : decode cX5_isAsker 18 = .ok (.iconst 1, 1) := by decide +kernel
theorem dX5_isAsker_19 : decode cX5_isAsker 19 = .ok (.goto 4, 3) := by decide +kernel
theorem dX5_isAsker_22 : decode cX5_isAsker 22 = .ok (.iconst 0, 1) := by decide +kernel
theorem dX5_isAsker_23 : decode cX5_isAsker 23 = .ok (.ireturn, 1) := by decide +kernel
theorem dX5_isHour_0 : decode cX5_isHour 0 = .ok (.iload_n 0, 1) := by decide +kernel
theorem dX5_isHour_1 : decode cX5_isHour 1 = .ok (.ifCond .lt 13, 3) := by decide +kernel
theorem dX5_isHour_4 : decode cX5_isHour 4 = .ok (.iload_n 0, 1) := by decide +kernel
theorem dX5_isHour_5 : decode cX5_isHour 5 = .ok (.bipush 24, 2) := by decide +kernel
theorem dX5_isHour_7 : decode cX5_isHour 7 = .ok (.if_icmp .ge 7, 3) := by decide +kernel
theorem dX5_isHour_10 : decode cX5_isHour 10 = .ok (.iconst 1, 1) := by decide +kernel
theorem dX5_isHour_11 : decode cX5_isHour 11 = .ok (.goto 4, 3) := by decide +kernel
theorem dX5_isHour_14 : decode cX5_isHour 14 = .ok (.iconst 0, 1) := by decide +kernel
theorem dX5_isHour_15 : decode cX5_isHour 15 = .ok (.ireturn, 1) := by decide +kernel
set_option maxRecDepth 20000 in
theorem ggX5_areHours_X5_isHour : GoodIn wsX5_areHours wsX5_isHour := goodIn_r _ [4] (by decide +kernel) (by decide +kernel)
set_option maxRecDepth 20000 in
theorem gX5_areHours_X5_isHour : GoodIn wsX5_areHours (va_wsS RX5 86 yX5_isHour wsX5_isHour) := goodIn_app (goodIn_of _ (by decide +kernel)) ggX5_areHours_X5_isHour
theorem dX5_areHours_0 : decode cX5_areHours 0 = .ok (.iload_n 0, 1) := by decide +kernel
theorem dX5_areHours_1 : decode cX5_areHours 1 = .ok (.invokestatic 86, 3) := by decide +kernel
theorem dX5_areHours_4 : decode cX5_areHours 4 = .ok (.ifCond .eq 19, 3) := by decide +kernel
theorem dX5_areHours_7 : decode cX5_areHours 7 = .ok (.iload_n 1, 1) := by decide +kernel
theorem dX5_areHours_8 : decode cX5_areHours 8 = .ok (.invokestatic 86, 3) := by decide +kernel
theorem dX5_areHours_11 : decode cX5_areHours 11 = .ok (.ifCond .eq 12, 3) := by decide +kernel
theorem dX5_areHours_14 : decode cX5_areHours 14 = .ok (.iload_n 0, 1) := by decide +kernel
theorem dX5_areHours_15 : decode cX5_areHours 15 = .ok (.iload_n 1, 1) := by decide +kernel
theorem dX5_areHours_16 : decode cX5_areHours 16 = .ok (.if_icmp .gt 7, 3) := by decide +kernel
theorem dX5_areHours_19 : decode cX5_areHours 19 = .ok (.iconst 1, 1) := by decide +kernel
theorem dX5_areHours_20 : decode cX5_areHours 20 = .ok (.goto 4, 3) := by decide +kernel
theorem dX5_areHours_23 : decode cX5_areHours 23 = .ok (.iconst 0, 1) := by decide +kernel
theorem dX5_areHours_24 : decode cX5_areHours 24 = .ok (.ireturn, 1) := by decide +kernel
theorem dX5_isNote_0 : decode cX5_isNote 0 = .ok (.iload_n 0, 1) := by decide +kernel
theorem dX5_isNote_1 : decode cX5_isNote 1 = .ok (.ifCond .lt 13, 3) := by decide +kernel
theorem dX5_isNote_4 : decode cX5_isNote 4 = .ok (.iload_n 0, 1) := by decide +kernel
theorem dX5_isNote_5 : decode cX5_isNote 5 = .ok (.bipush 10, 2) := by decide +kernel
theorem dX5_isNote_7 : decode cX5_isNote 7 = .ok (.if_icmp .ge 7, 3) := by decide +kernel
theorem dX5_isNote_10 : decode cX5_isNote 10 = .ok (.iconst 1, 1) := by decide +kernel
theorem dX5_isNote_11 : decode cX5_isNote 11 = .ok (.goto 4, 3) := by decide +kernel
theorem dX5_isNote_14 : decode cX5_isNote 14 = .ok (.iconst 0, 1) := by decide +kernel
theorem dX5_isNote_15 : decode cX5_isNote 15 = .ok (.ireturn, 1) := by decide +kernel
theorem dX5_isBit_0 : decode cX5_isBit 0 = .ok (.iload_n 0, 1) := by decide +kernel
theorem dX5_isBit_1 : decode cX5_isBit 1 = .ok (.ifCond .eq 8, 3) := by decide +kernel
theorem dX5_isBit_4 : decode cX5_isBit 4 = .ok (.iload_n 0, 1) := by decide +kernel
theorem dX5_isBit_5 : decode cX5_isBit 5 = .ok (.iconst 1, 1) := by decide +kernel
theorem dX5_isBit_6 : decode cX5_isBit 6 = .ok (.if_icmp .ne 7, 3) := by decide +kernel
theorem dX5_isBit_9 : decode cX5_isBit 9 = .ok (.iconst 1, 1) := by decide +kernel
theorem dX5_isBit_10 : decode cX5_isBit 10 = .ok (.goto 4, 3) := by decide +kernel
theorem dX5_isBit_13 : decode cX5_isBit 13 = .ok (.iconst 0, 1) := by decide +kernel
theorem dX5_isBit_14 : decode cX5_isBit 14 = .ok (.ireturn, 1) := by decide +kernel
theorem dX5_isImage_0 : decode cX5_isImage 0 = .ok (.iload_n 0, 1) := by decide +kernel
theorem dX5_isImage_1 : decode cX5_isImage 1 = .ok (.ifCond .lt 12, 3) := by decide +kernel
theorem dX5_isImage_4 : decode cX5_isImage 4 = .ok (.iload_n 0, 1) := by decide +kernel
theorem dX5_isImage_5 : decode cX5_isImage 5 = .ok (.iconst 2, 1) := by decide +kernel
theorem dX5_isImage_6 : decode cX5_isImage 6 = .ok (.if_icmp .ge 7, 3) := by decide +kernel
theorem dX5_isImage_9 : decode cX5_isImage 9 = .ok (.iconst 1, 1) := by decide +kernel
theorem dX5_isImage_10 : decode cX5_isImage 10 = .ok (.goto 4, 3) := by decide +kernel
theorem dX5_isImage_13 : decode cX5_isImage 13 = .ok (.iconst 0, 1) := by decide +kernel
theorem dX5_isImage_14 : decode cX5_isImage 14 = .ok (.ireturn, 1) := by decide +kernel
theorem dX5_hasBit_0 : decode cX5_hasBit 0 = .ok (.iload_n 0, 1) := by decide +kernel
theorem dX5_hasBit_1 : decode cX5_hasBit 1 = .ok (.iload_n 1, 1) := by decide +kernel
theorem dX5_hasBit_2 : decode cX5_hasBit 2 = .ok (.ishr, 1) := by decide +kernel
theorem dX5_hasBit_3 : decode cX5_hasBit 3 = .ok (.iconst 1, 1) := by decide +kernel
theorem dX5_hasBit_4 : decode cX5_hasBit 4 = .ok (.iand, 1) := by decide +kernel
theorem dX5_hasBit_5 : decode cX5_hasBit 5 = .ok (.iconst 1, 1) := by decide +kernel
theorem dX5_hasBit_6 : decode cX5_hasBit 6 = .ok (.if_icmp .ne 7, 3) := by decide +kernel
theorem dX5_hasBit_9 : decode cX5_hasBit 9 = .ok (.iconst 1, 1) := by decide +kernel
theorem dX5_hasBit_10 : decode cX5_hasBit 10 = .ok (.goto 4, 3) := by decide +kernel
theorem dX5_hasBit_13 : decode cX5_hasBit 13 = .ok (.iconst 0, 1) := by decide +kernel
theorem dX5_hasBit_14 : decode cX5_hasBit 14 = .ok (.ireturn, 1) := by decide +kernel
theorem dX5_at_0 : decode cX5_at 0 = .ok (.aload_n 0, 1) := by decide +kernel
theorem dX5_at_1 : decode cX5_at 1 = .ok (.ifnull 19, 3) := by decide +kernel
theorem dX5_at_4 : decode cX5_at 4 = .ok (.iload_n 1, 1) := by decide +kernel
theorem dX5_at_5 : decode cX5_at 5 = .ok (.ifCond .lt 15, 3) := by decide +kernel
theorem dX5_at_8 : decode cX5_at 8 = .ok (.iload_n 1, 1) := by decide +kernel
theorem dX5_at_9 : decode cX5_at 9 = .ok (.aload_n 0, 1) := by decide +kernel
theorem dX5_at_10 : decode cX5_at 10 = .ok (.arraylength, 1) := by decide +kernel
theorem dX5_at_11 : decode cX5_at 11 = .ok (.if_icmp .ge 9, 3) := by decide +kernel
theorem dX5_at_14 : decode cX5_at 14 = .ok (.aload_n 0, 1) := by decide +kernel
theorem dX5_at_15 : decode cX5_at 15 = .ok (.iload_n 1, 1) := by decide +kernel
theorem dX5_at_16 : decode cX5_at 16 = .ok (.iaload, 1) := by decide +kernel
theorem dX5_at_17 : decode cX5_at 17 = .ok (.goto 4, 3) := by decide +kernel
theorem dX5_at_20 : decode cX5_at 20 = .ok (.iconst (-1), 1) := by decide +kernel
theorem dX5_at_21 : decode cX5_at 21 = .ok (.ireturn, 1) := by decide +kernel
theorem dX5_put_0 : decode cX5_put 0 = .ok (.aload_n 0, 1) := by decide +kernel
theorem dX5_put_1 : decode cX5_put 1 = .ok (.ifnull 17, 3) := by decide +kernel
theorem dX5_put_4 : decode cX5_put 4 = .ok (.iload_n 1, 1) := by decide +kernel
theorem dX5_put_5 : decode cX5_put 5 = .ok (.ifCond .lt 13, 3) := by decide +kernel
theorem dX5_put_8 : decode cX5_put 8 = .ok (.iload_n 1, 1) := by decide +kernel
theorem dX5_put_9 : decode cX5_put 9 = .ok (.aload_n 0, 1) := by decide +kernel
theorem dX5_put_10 : decode cX5_put 10 = .ok (.arraylength, 1) := by decide +kernel
theorem dX5_put_11 : decode cX5_put 11 = .ok (.if_icmp .ge 7, 3) := by decide +kernel
theorem dX5_put_14 : decode cX5_put 14 = .ok (.aload_n 0, 1) := by decide +kernel
theorem dX5_put_15 : decode cX5_put 15 = .ok (.iload_n 1, 1) := by decide +kernel
theorem dX5_put_16 : decode cX5_put 16 = .ok (.iload_n 2, 1) := by decide +kernel
theorem dX5_put_17 : decode cX5_put 17 = .ok (.iastore, 1) := by decide +kernel
theorem dX5_put_18 : decode cX5_put 18 = .ok (.return_, 1) := by decide +kernel
set_option maxRecDepth 20000 in
theorem ggX5_lentInVain_X2_number : GoodIn wsX5_lentInVain wsX2_number := goodIn_r _ [10, 11, 12, 13, 14, 9, 15, 16, 17, 18, 19, 46, 47, 48] (by decide +kernel) (by decide +kernel)
set_option maxRecDepth 20000 in
theorem gX5_lentInVain_X2_number : GoodIn wsX5_lentInVain (wsV RX5 110 RX2 yX2_number wsX2_number) := goodIn_app (goodIn_of _ (by decide +kernel)) ggX5_lentInVain_X2_number
set_option maxRecDepth 20000 in
theorem ggX5_lentInVain_X0_placeSeen : GoodIn wsX5_lentInVain wsX0_placeSeen := goodIn_r _ [24, 25, 26, 7, 8, 9, 10, 11, 12, 13, 14, 15, 16, 17, 18, 19, 27, 28, 29, 30, 42, 43, 44, 45, 46, 47, 48] (by decide +kernel) (by decide +kernel)
set_option maxRecDepth 20000 in
theorem gX5_lentInVain_X0_placeSeen : GoodIn wsX5_lentInVain (wsV RX5 89 RX0 yX0_placeSeen wsX0_placeSeen) := goodIn_app (goodIn_of _ (by decide +kernel)) ggX5_lentInVain_X0_placeSeen
theorem dX5_lentInVain_0 : decode cX5_lentInVain 0 = .ok (.iconst 0, 1) := by decide +kernel
theorem dX5_lentInVain_1 : decode cX5_lentInVain 1 = .ok (.istore_n 1, 1) := by decide +kernel
theorem dX5_lentInVain_2 : decode cX5_lentInVain 2 = .ok (.iconst 0, 1) := by decide +kernel
theorem dX5_lentInVain_3 : decode cX5_lentInVain 3 = .ok (.istore_n 2, 1) := by decide +kernel
theorem dX5_lentInVain_4 : decode cX5_lentInVain 4 = .ok (.iload_n 2, 1) := by decide +kernel
theorem dX5_lentInVain_5 : decode cX5_lentInVain 5 = .ok (.aload_n 0, 1) := by decide +kernel
theorem dX5_lentInVain_6 : decode cX5_lentInVain 6 = .ok (.getfield 36, 3) := by decide +kernel
theorem dX5_lentInVain_9 : decode cX5_lentInVain 9 = .ok (.getfield 126, 3) := by decide +kernel
theorem dX5_lentInVain_12 : decode cX5_lentInVain 12 = .ok (.getfield 136, 3) := by decide +kernel
theorem dX5_lentInVain_15 : decode cX5_lentInVain 15 = .ok (.if_icmp .ge 71, 3) := by decide +kernel
theorem dX5_lentInVain_18 : decode cX5_lentInVain 18 = .ok (.aload_n 0, 1) := by decide +kernel
theorem dX5_lentInVain_19 : decode cX5_lentInVain 19 = .ok (.getfield 36, 3) := by decide +kernel
theorem dX5_lentInVain_22 : decode cX5_lentInVain 22 = .ok (.aload_n 0, 1) := by decide +kernel
theorem dX5_lentInVain_23 : decode cX5_lentInVain 23 = .ok (.getfield 36, 3) := by decide +kernel
theorem dX5_lentInVain_26 : decode cX5_lentInVain 26 = .ok (.getfield 126, 3) := by decide +kernel
theorem dX5_lentInVain_29 : decode cX5_lentInVain 29 = .ok (.iload_n 2, 1) := by decide +kernel
theorem dX5_lentInVain_30 : decode cX5_lentInVain 30 = .ok (.iconst 0, 1) := by decide +kernel
theorem dX5_lentInVain_31 : decode cX5_lentInVain 31 = .ok (.invokevirtual 110, 3) := by decide +kernel
theorem dX5_lentInVain_34 : decode cX5_lentInVain 34 = .ok (.aload_n 0, 1) := by decide +kernel
theorem dX5_lentInVain_35 : decode cX5_lentInVain 35 = .ok (.getfield 36, 3) := by decide +kernel
theorem dX5_lentInVain_38 : decode cX5_lentInVain 38 = .ok (.getfield 126, 3) := by decide +kernel
theorem dX5_lentInVain_41 : decode cX5_lentInVain 41 = .ok (.iload_n 2, 1) := by decide +kernel
theorem dX5_lentInVain_42 : decode cX5_lentInVain 42 = .ok (.iconst 1, 1) := by decide +kernel
theorem dX5_lentInVain_43 : decode cX5_lentInVain 43 = .ok (.invokevirtual 110, 3) := by decide +kernel
theorem dX5_lentInVain_46 : decode cX5_lentInVain 46 = .ok (.invokevirtual 89, 3) := by decide +kernel
theorem dX5_lentInVain_49 : decode cX5_lentInVain 49 = .ok (.istore_n 3, 1) := by decide +kernel
theorem dX5_lentInVain_50 : decode cX5_lentInVain 50 = .ok (.iload_n 3, 1) := by decide +kernel
theorem dX5_lentInVain_51 : decode cX5_lentInVain 51 = .ok (.aload_n 0, 1) := by decide +kernel

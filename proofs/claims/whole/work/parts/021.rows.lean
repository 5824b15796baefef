set_option maxRecDepth 20000 in
theorem ggX0_init_X3_init : GoodIn wsX0_init wsX3_init := goodIn_r _ [4, 5, 6, 7, 8, 9, 10, 11, 12, 13, 14, 15, 16, 17, 18, 19, 20, 21, 22, 23, 24, 25, 26, 27, 28, 29] (by decide +kernel) (by decide +kernel)
set_option maxRecDepth 20000 in
theorem gX0_init_X3_init : GoodIn wsX0_init (wsX3_init) := ggX0_init_X3_init
theorem dX0_init_0 : decode cX0_init 0 = .ok (.aload_n 0, 1) := by decide +kernel
theorem dX0_init_1 : decode cX0_init 1 = .ok (.iconst 4, 1) := by decide +kernel
theorem dX0_init_2 : decode cX0_init 2 = .ok (.iconst 4, 1) := by decide +kernel
theorem dX0_init_3 : decode cX0_init 3 = .ok (.invokespecial 3, 3) := by decide +kernel
theorem dX0_init_6 : decode cX0_init 6 = .ok (.return_, 1) := by decide +kernel
theorem dX1_init_0 : decode cX1_init 0 = .ok (.aload_n 0, 1) := by decide +kernel
theorem dX1_init_1 : decode cX1_init 1 = .ok (.invokespecial 1, 3) := by decide +kernel
theorem dX1_init_4 : decode cX1_init 4 = .ok (.aload_n 0, 1) := by decide +kernel
theorem dX1_init_5 : decode cX1_init 5 = .ok (.iload_n 1, 1) := by decide +kernel
theorem dX1_init_6 : decode cX1_init 6 = .ok (.putfield 7, 3) := by decide +kernel
theorem dX1_init_9 : decode cX1_init 9 = .ok (.aload_n 0, 1) := by decide +kernel
theorem dX1_init_10 : decode cX1_init 10 = .ok (.iload_n 2, 1) := by decide +kernel
theorem dX1_init_11 : decode cX1_init 11 = .ok (.putfield 13, 3) := by decide +kernel
theorem dX1_init_14 : decode cX1_init 14 = .ok (.aload_n 0, 1) := by decide +kernel
theorem dX1_init_15 : decode cX1_init 15 = .ok (.iload_n 3, 1) := by decide +kernel
theorem dX1_init_16 : decode cX1_init 16 = .ok (.putfield 16, 3) := by decide +kernel
theorem dX1_init_19 : decode cX1_init 19 = .ok (.return_, 1) := by decide +kernel
set_option maxRecDepth 20000 in
theorem ggX1_tell_X1_wayMany : GoodIn wsX1_tell wsX1_wayMany := goodIn_r _ [9, 10, 11, 12, 13, 8, 14, 3, 2, 15, 16, 17, 18, 19, 32, 33, 34, 35, 36, 37, 38, 39, 40, 41, 42, 43, 44, 45, 46] (by decide +kernel) (by decide +kernel)
set_option maxRecDepth 20000 in
theorem gX1_tell_X1_wayMany_u19X0 : GoodIn wsX1_tell (va_wsU RX1 19 RX0 "KingdomAtDice$Dice" ⟨"KingdomAtDice$Dice", "wayMany", "()I"⟩ yX1_wayMany wsX1_wayMany) := goodIn_app (goodIn_of _ (by decide +kernel)) ggX1_tell_X1_wayMany
set_option maxRecDepth 20000 in
theorem gX1_tell_X1_wayMany : GoodIn wsX1_tell (wsV RX1 19 RX1 yX1_wayMany wsX1_wayMany) := goodIn_app (goodIn_of _ (by decide +kernel)) ggX1_tell_X1_wayMany
set_option maxRecDepth 20000 in
theorem gX1_tell_X1_wayMany_u19X3 : GoodIn wsX1_tell (va_wsU RX1 19 RX3 "KingdomAtDice$Dice" ⟨"KingdomAtDice$Dice", "wayMany", "()I"⟩ yX1_wayMany wsX1_wayMany) := goodIn_app (goodIn_of _ (by decide +kernel)) ggX1_tell_X1_wayMany
set_option maxRecDepth 20000 in
theorem gX1_tell_X1_wayMany_u19X4 : GoodIn wsX1_tell (va_wsU RX1 19 RX4 "KingdomAtDice$Dice" ⟨"KingdomAtDice$Dice", "wayMany", "()I"⟩ yX1_wayMany wsX1_wayMany) := goodIn_app (goodIn_of _ (by decide +kernel)) ggX1_tell_X1_wayMany
set_option maxRecDepth 20000 in
theorem ggX1_tell_X9_wayMany : GoodIn wsX1_tell wsX9_wayMany := goodIn_r _ [28, 29, 30, 31, 13, 8, 14, 3, 2, 32, 33, 34, 35, 36, 37, 38, 39, 40, 41, 42, 43, 44, 45, 46] (by decide +kernel) (by decide +kernel)
set_option maxRecDepth 20000 in
theorem gX1_tell_X9_wayMany_u19X9 : GoodIn wsX1_tell (va_wsO RX1 19 RX9 "KingdomAtDice$Dice" ⟨"KingdomAtDice$Dice", "wayMany", "()I"⟩ yX9_wayMany wsX9_wayMany) := goodIn_app (goodIn_of _ (by decide +kernel)) ggX1_tell_X9_wayMany
theorem dX1_tell_0 : decode cX1_tell 0 = .ok (.iload_n 1, 1) := by decide +kernel
theorem dX1_tell_1 : decode cX1_tell 1 = .ok (.tableswitch 46 0 2 #[27, 32, 39], 27) := by decide +kernel
theorem dX1_tell_28 : decode cX1_tell 28 = .ok (.aload_n 0, 1) := by decide +kernel
theorem dX1_tell_29 : decode cX1_tell 29 = .ok (.getfield 7, 3) := by decide +kernel
theorem dX1_tell_32 : decode cX1_tell 32 = .ok (.ireturn, 1) := by decide +kernel
theorem dX1_tell_33 : decode cX1_tell 33 = .ok (.iconst 2, 1) := by decide +kernel
theorem dX1_tell_34 : decode cX1_tell 34 = .ok (.aload_n 0, 1) := by decide +kernel
theorem dX1_tell_35 : decode cX1_tell 35 = .ok (.getfield 13, 3) := by decide +kernel
theorem dX1_tell_38 : decode cX1_tell 38 = .ok (.imul, 1) := by decide +kernel
theorem dX1_tell_39 : decode cX1_tell 39 = .ok (.ireturn, 1) := by decide +kernel
theorem dX1_tell_40 : decode cX1_tell 40 = .ok (.iconst 2, 1) := by decide +kernel
theorem dX1_tell_41 : decode cX1_tell 41 = .ok (.aload_n 0, 1) := by decide +kernel
theorem dX1_tell_42 : decode cX1_tell 42 = .ok (.getfield 16, 3) := by decide +kernel
theorem dX1_tell_45 : decode cX1_tell 45 = .ok (.imul, 1) := by decide +kernel
theorem dX1_tell_46 : decode cX1_tell 46 = .ok (.ireturn, 1) := by decide +kernel
theorem dX1_tell_47 : decode cX1_tell 47 = .ok (.aload_n 0, 1) := by decide +kernel
theorem dX1_tell_48 : decode cX1_tell 48 = .ok (.invokevirtual 19, 3) := by decide +kernel
theorem dX1_tell_51 : decode cX1_tell 51 = .ok (.ireturn, 1) := by decide +kernel
theorem dX1_faces_0 : decode cX1_faces 0 = .ok (.aload_n 0, 1) := by decide +kernel
theorem dX1_faces_1 : decode cX1_faces 1 = .ok (.getfield 16, 3) := by decide +kernel
theorem dX1_faces_4 : decode cX1_faces 4 = .ok (.aload_n 0, 1) := by decide +kernel
theorem dX1_faces_5 : decode cX1_faces 5 = .ok (.getfield 13, 3) := by decide +kernel
theorem dX1_faces_8 : decode cX1_faces 8 = .ok (.isub, 1) := by decide +kernel
theorem dX1_faces_9 : decode cX1_faces 9 = .ok (.iconst 1, 1) := by decide +kernel
theorem dX1_faces_10 : decode cX1_faces 10 = .ok (.iadd, 1) := by decide +kernel
theorem dX1_faces_11 : decode cX1_faces 11 = .ok (.ireturn, 1) := by decide +kernel
set_option maxRecDepth 20000 in
theorem ggX1_wayMany_X1_faces : GoodIn wsX1_wayMany wsX1_faces := goodIn_r _ [6, 7, 8, 14, 15, 16, 17, 18, 19, 20, 21, 22, 23, 24, 25, 26, 27, 28] (by decide +kernel) (by decide +kernel)
set_option maxRecDepth 20000 in
theorem gX1_wayMany_X1_faces_u23X0 : GoodIn wsX1_wayMany (va_wsU RX1 23 RX0 "KingdomAtDice$Dice" ⟨"KingdomAtDice$Dice", "faces", "()I"⟩ yX1_faces wsX1_faces) := goodIn_app (goodIn_of _ (by decide +kernel)) ggX1_wayMany_X1_faces
set_option maxRecDepth 20000 in
theorem gX1_wayMany_X1_faces : GoodIn wsX1_wayMany (wsV RX1 23 RX1 yX1_faces wsX1_faces) := goodIn_app (goodIn_of _ (by decide +kernel)) ggX1_wayMany_X1_faces
set_option maxRecDepth 20000 in
theorem gX1_wayMany_X1_faces_u23X3 : GoodIn wsX1_wayMany (va_wsU RX1 23 RX3 "KingdomAtDice$Dice" ⟨"KingdomAtDice$Dice", "faces", "()I"⟩ yX1_faces wsX1_faces) := goodIn_app (goodIn_of _ (by decide +kernel)) ggX1_wayMany_X1_faces
set_option maxRecDepth 20000 in
theorem gX1_wayMany_X1_faces_u23X4 : GoodIn wsX1_wayMany (va_wsU RX1 23 RX4 "KingdomAtDice$Dice" ⟨"KingdomAtDice$Dice", "faces", "()I"⟩ yX1_faces wsX1_faces) := goodIn_app (goodIn_of _ (by decide +kernel)) ggX1_wayMany_X1_faces
set_option maxRecDepth 20000 in
theorem gX1_wayMany_X1_faces_u23X9 : GoodIn wsX1_wayMany (va_wsU RX1 23 RX9 "KingdomAtDice$Dice" ⟨"KingdomAtDice$Dice", "faces", "()I"⟩ yX1_faces wsX1_faces) := goodIn_app (goodIn_of _ (by decide +kernel)) ggX1_wayMany_X1_faces
theorem dX1_wayMany_0 : decode cX1_wayMany 0 = .ok (.aload_n 0, 1) := by decide +kernel
theorem dX1_wayMany_1 : decode cX1_wayMany 1 = .ok (.invokevirtual 23, 3) := by decide +kernel
theorem dX1_wayMany_4 : decode cX1_wayMany 4 = .ok (.aload_n 0, 1) := by decide +kernel
theorem dX1_wayMany_5 : decode cX1_wayMany 5 = .ok (.invokevirtual 23, 3) := by decide +kernel
theorem dX1_wayMany_8 : decode cX1_wayMany 8 = .ok (.imul, 1) := by decide +kernel
theorem dX1_wayMany_9 : decode cX1_wayMany 9 = .ok (.ireturn, 1) := by decide +kernel
set_option maxRecDepth 20000 in
theorem ggX1_waysOf_X10_isSum : GoodIn wsX1_waysOf wsX10_isSum := goodIn_r _ [5] (by decide +kernel) (by decide +kernel)
set_option maxRecDepth 20000 in
theorem gX1_waysOf_X10_isSum_n26 : GoodIn wsX1_waysOf (wsX10_isSum) := ggX1_waysOf_X10_isSum
theorem dX1_waysOf_0 : decode cX1_waysOf 0 = .ok (.iload_n 1, 1) := by decide +kernel
theorem dX1_waysOf_1 : decode cX1_waysOf 1 = .ok (.invokestatic 26, 3) := by decide +kernel
theorem dX1_waysOf_4 : decode cX1_waysOf 4 = .ok (.ifCond .ne 5, 3) := by decide +kernel
theorem dX1_waysOf_7 : decode cX1_waysOf 7 = .ok (.iconst 0, 1) := by decide +kernel
theorem dX1_waysOf_8 : decode cX1_waysOf 8 = .ok (.ireturn, 1) := by decide +kernel
theorem dX1_waysOf_9 : decode cX1_waysOf 9 = .ok (.iconst 0, 1) := by decide +kernel
theorem dX1_waysOf_10 : decode cX1_waysOf 10 = .ok (.istore_n 2, 1) := by decide +kernel
theorem dX1_waysOf_11 : decode cX1_waysOf 11 = .ok (.aload_n 0, 1) := by decide +kernel
theorem dX1_waysOf_12 : decode cX1_waysOf 12 = .ok (.getfield 13, 3) := by decide +kernel
theorem dX1_waysOf_15 : decode cX1_waysOf 15 = .ok (.istore_n 3, 1) := by decide +kernel
theorem dX1_waysOf_16 : decode cX1_waysOf 16 = .ok (.iload_n 3, 1) := by decide +kernel
theorem dX1_waysOf_17 : decode cX1_waysOf 17 = .ok (.aload_n 0, 1) := by decide +kernel
theorem dX1_waysOf_18 : decode cX1_waysOf 18 = .ok (.getfield 16, 3) := by decide +kernel
theorem dX1_waysOf_21 : decode cX1_waysOf 21 = .ok (.if_icmp .gt 35, 3) := by decide +kernel
theorem dX1_waysOf_24 : decode cX1_waysOf 24 = .ok (.iload_n 1, 1) := by decide +kernel
theorem dX1_waysOf_25 : decode cX1_waysOf 25 = .ok (.iload_n 3, 1) := by decide +kernel
theorem dX1_waysOf_26 : decode cX1_waysOf 26 = .ok (.isub, 1) := by decide +kernel
theorem dX1_waysOf_27 : decode cX1_waysOf 27 = .ok (.istore 4, 2) := by decide +kernel
theorem dX1_waysOf_29 : decode cX1_waysOf 29 = .ok (.iload 4, 2) := by decide +kernel
theorem dX1_waysOf_31 : decode cX1_waysOf 31 = .ok (.aload_n 0, 1) := by decide +kernel
theorem dX1_waysOf_32 : decode cX1_waysOf 32 = .ok (.getfield 13, 3) := by decide +kernel
theorem dX1_waysOf_35 : decode cX1_waysOf 35 = .ok (.if_icmp .lt 15, 3) := by decide +kernel
theorem dX1_waysOf_38 : decode cX1_waysOf 38 = .ok (.iload 4, 2) := by decide +kernel
theorem dX1_waysOf_40 : decode cX1_waysOf 40 = .ok (.aload_n 0, 1) := by decide +kernel
theorem dX1_waysOf_41 : decode cX1_waysOf 41 = .ok (.getfield 16, 3) := by decide +kernel
theorem dX1_waysOf_44 : decode cX1_waysOf 44 = .ok (.if_icmp .gt 6, 3) := by decide +kernel
theorem dX1_waysOf_47 : decode cX1_waysOf 47 = .ok (.iinc 2 1, 3) := by decide +kernel
theorem dX1_waysOf_50 : decode cX1_waysOf 50 = .ok (.iinc 3 1, 3) := by decide +kernel
theorem dX1_waysOf_53 : decode cX1_waysOf 53 = .ok (.goto (-37), 3) := by decide +kernel
theorem dX1_waysOf_56 : decode cX1_waysOf 56 = .ok (.iload_n 2, 1) := by decide +kernel
theorem dX1_waysOf_57 : decode cX1_waysOf 57 = .ok (.ireturn, 1) := by decide +kernel
set_option maxRecDepth 20000 in
theorem ggX1_fall_X1_faces : GoodIn wsX1_fall wsX1_faces := goodIn_r _ [7, 8, 1, 23, 24, 25, 26, 27, 28, 29, 30, 31, 32, 33, 34, 35, 36, 37] (by decide +kernel) (by decide +kernel)
set_option maxRecDepth 20000 in
theorem gX1_fall_X1_faces_u23X0 : GoodIn wsX1_fall (va_wsU RX1 23 RX0 "KingdomAtDice$Dice" ⟨"KingdomAtDice$Dice", "faces", "()I"⟩ yX1_faces wsX1_faces) := goodIn_app (goodIn_of _ (by decide +kernel)) ggX1_fall_X1_faces
set_option maxRecDepth 20000 in
theorem gX1_fall_X1_faces : GoodIn wsX1_fall (wsV RX1 23 RX1 yX1_faces wsX1_faces) := goodIn_app (goodIn_of _ (by decide +kernel)) ggX1_fall_X1_faces
set_option maxRecDepth 20000 in
theorem gX1_fall_X1_faces_u23X3 : GoodIn wsX1_fall (va_wsU RX1 23 RX3 "KingdomAtDice$Dice" ⟨"KingdomAtDice$Dice", "faces", "()I"⟩ yX1_faces wsX1_faces) := goodIn_app (goodIn_of _ (by decide +kernel)) ggX1_fall_X1_faces
set_option maxRecDepth 20000 in
theorem gX1_fall_X1_faces_u23X4 : GoodIn wsX1_fall (va_wsU RX1 23 RX4 "KingdomAtDice$Dice" ⟨"KingdomAtDice$Dice", "faces", "()I"⟩ yX1_faces wsX1_faces) := goodIn_app (goodIn_of _ (by decide +kernel)) ggX1_fall_X1_faces
set_option maxRecDepth 20000 in
theorem gX1_fall_X1_faces_u23X9 : GoodIn wsX1_fall (va_wsU RX1 23 RX9 "KingdomAtDice$Dice" ⟨"KingdomAtDice$Dice", "faces", "()I"⟩ yX1_faces wsX1_faces) := goodIn_app (goodIn_of _ (by decide +kernel)) ggX1_fall_X1_faces
set_option maxRecDepth 20000 in
theorem ggX1_fall_X2_next : GoodIn wsX1_fall wsX2_next := goodIn_r _ [17, 18, 19, 20, 21, 22, 38] (by decide +kernel) (by decide +kernel)
set_option maxRecDepth 20000 in
theorem gX1_fall_X2_next_n32 : GoodIn wsX1_fall (wsX2_next) := ggX1_fall_X2_next
theorem dX1_fall_0 : decode cX1_fall 0 = .ok (.aload_n 0, 1) := by decide +kernel
theorem dX1_fall_1 : decode cX1_fall 1 = .ok (.getfield 13, 3) := by decide +kernel
theorem dX1_fall_4 : decode cX1_fall 4 = .ok (.aload_n 1, 1) := by decide +kernel
theorem dX1_fall_5 : decode cX1_fall 5 = .ok (.aload_n 0, 1) := by decide +kernel
theorem dX1_fall_6 : decode cX1_fall 6 = .ok (.invokevirtual 23, 3) := by decide +kernel
theorem dX1_fall_9 : decode cX1_fall 9 = .ok (.invokevirtual 32, 3) := by decide +kernel
theorem dX1_fall_12 : decode cX1_fall 12 = .ok (.iadd, 1) := by decide +kernel
theorem dX1_fall_13 : decode cX1_fall 13 = .ok (.istore_n 2, 1) := by decide +kernel
theorem dX1_fall_14 : decode cX1_fall 14 = .ok (.iload_n 2, 1) := by decide +kernel
theorem dX1_fall_15 : decode cX1_fall 15 = .ok (.aload_n 0, 1) := by decide +kernel
theorem dX1_fall_16 : decode cX1_fall 16 = .ok (.getfield 13, 3) := by decide +kernel
theorem dX1_fall_19 : decode cX1_fall 19 = .ok (.iadd, 1) := by decide +kernel
theorem dX1_fall_20 : decode cX1_fall 20 = .ok (.aload_n 1, 1) := by decide +kernel
theorem dX1_fall_21 : decode cX1_fall 21 = .ok (.aload_n 0, 1) := by decide +kernel
theorem dX1_fall_22 : decode cX1_fall 22 = .ok (.invokevirtual 23, 3) := by decide +kernel
theorem dX1_fall_25 : decode cX1_fall 25 = .ok (.invokevirtual 32, 3) := by decide +kernel
theorem dX1_fall_28 : decode cX1_fall 28 = .ok (.iadd, 1) := by decide +kernel
theorem dX1_fall_29 : decode cX1_fall 29 = .ok (.ireturn, 1) := by decide +kernel
theorem dX2_init_0 : decode cX2_init 0 = .ok (.aload_n 0, 1) := by decide +kernel
theorem dX2_init_1 : decode cX2_init 1 = .ok (.invokespecial 1, 3) := by decide +kernel
theorem dX2_init_4 : decode cX2_init 4 = .ok (.aload_n 0, 1) := by decide +kernel
theorem dX2_init_5 : decode cX2_init 5 = .ok (.lconst 0, 1) := by decide +kernel
theorem dX2_init_6 : decode cX2_init 6 = .ok (.putfield 7, 3) := by decide +kernel
theorem dX2_init_9 : decode cX2_init 9 = .ok (.return_, 1) := by decide +kernel
theorem dX2_begin_0 : decode cX2_begin 0 = .ok (.aload_n 0, 1) := by decide +kernel
theorem dX2_begin_1 : decode cX2_begin 1 = .ok (.iload_n 1, 1) := by decide +kernel
theorem dX2_begin_2 : decode cX2_begin 2 = .ok (.i2l, 1) := by decide +kernel
theorem dX2_begin_3 : decode cX2_begin 3 = .ok (.putfield 7, 3) := by decide +kernel
theorem dX2_begin_6 : decode cX2_begin 6 = .ok (.return_, 1) := by decide +kernel
theorem dX2_next_0 : decode cX2_next 0 = .ok (.aload_n 0, 1) := by decide +kernel
theorem dX2_next_1 : decode cX2_next 1 = .ok (.ldc2_w 13, 3) := by decide +kernel
theorem dX2_next_4 : decode cX2_next 4 = .ok (.aload_n 0, 1) := by decide +kernel
theorem dX2_next_5 : decode cX2_next 5 = .ok (.getfield 7, 3) := by decide +kernel
theorem dX2_next_8 : decode cX2_next 8 = .ok (.lmul, 1) := by decide +kernel
theorem dX2_next_9 : decode cX2_next 9 = .ok (.ldc2_w 15, 3) := by decide +kernel
theorem dX2_next_12 : decode cX2_next 12 = .ok (.ladd, 1) := by decide +kernel
theorem dX2_next_13 : decode cX2_next 13 = .ok (.ldc2_w 17, 3) := by decide +kernel
theorem dX2_next_16 : decode cX2_next 16 = .ok (.lrem, 1) := by decide +kernel
theorem dX2_next_17 : decode cX2_next 17 = .ok (.putfield 7, 3) := by decide +kernel
theorem dX2_next_20 : decode cX2_next 20 = .ok (.iload_n 1, 1) := by decide +kernel
theorem dX2_next_21 : decode cX2_next 21 = .ok (.ifCond .le 18, 3) := by decide +kernel
theorem dX2_next_24 : decode cX2_next 24 = .ok (.aload_n 0, 1) := by decide +kernel
theorem dX2_next_25 : decode cX2_next 25 = .ok (.getfield 7, 3) := by decide +kernel
theorem dX2_next_28 : decode cX2_next 28 = .ok (.ldc2_w 19, 3) := by decide +kernel
theorem dX2_next_31 : decode cX2_next 31 = .ok (.ldiv, 1) := by decide +kernel
theorem dX2_next_32 : decode cX2_next 32 = .ok (.iload_n 1, 1) := by decide +kernel
theorem dX2_next_33 : decode cX2_next 33 = .ok (.i2l, 1) := by decide +kernel
theorem dX2_next_34 : decode cX2_next 34 = .ok (.lrem, 1) := by decide +kernel
theorem dX2_next_35 : decode cX2_next 35 = .ok (.l2i, 1) := by decide +kernel
theorem dX2_next_36 : decode cX2_next 36 = .ok (.goto 4, 3) := by decide +kernel
theorem dX2_next_39 : decode cX2_next 39 = .ok (.iconst 0, 1) := by decide +kernel
theorem dX2_next_40 : decode cX2_next 40 = .ok (.ireturn, 1) := by decide +kernel
theorem dX2_seedNow_0 : decode cX2_seedNow 0 = .ok (.aload_n 0, 1) := by decide +kernel
theorem dX2_seedNow_1 : decode cX2_seedNow 1 = .ok (.getfield 7, 3) := by decide +kernel
theorem dX2_seedNow_4 : decode cX2_seedNow 4 = .ok (.l2i, 1) := by decide +kernel
theorem dX2_seedNow_5 : decode cX2_seedNow 5 = .ok (.ireturn, 1) := by decide +kernel
set_option maxRecDepth 20000 in
theorem ggX3_init_X1_init : GoodIn wsX3_init wsX1_init := goodIn_r _ [4, 5, 6, 7, 8, 9, 10, 11, 12, 13, 14, 15, 16, 17, 18, 19, 20, 21, 22, 23, 24, 25] (by decide +kernel) (by decide +kernel)
set_option maxRecDepth 20000 in
theorem gX3_init_X1_init : GoodIn wsX3_init (wsX1_init) := ggX3_init_X1_init
theorem dX3_init_0 : decode cX3_init 0 = .ok (.aload_n 0, 1) := by decide +kernel
theorem dX3_init_1 : decode cX3_init 1 = .ok (.iload_n 1, 1) := by decide +kernel
theorem dX3_init_2 : decode cX3_init 2 = .ok (.iload_n 2, 1) := by decide +kernel
theorem dX3_init_3 : decode cX3_init 3 = .ok (.bipush 6, 2) := by decide +kernel
theorem dX3_init_5 : decode cX3_init 5 = .ok (.invokespecial 1, 3) := by decide +kernel
theorem dX3_init_8 : decode cX3_init 8 = .ok (.return_, 1) := by decide +kernel
set_option maxRecDepth 20000 in
theorem ggX4_init_X1_init : GoodIn wsX4_init wsX1_init := goodIn_r _ [4, 5, 6, 7, 8, 9, 10, 11, 12, 13, 14, 15, 16, 17, 18, 19, 20, 21, 22, 23, 24, 25] (by decide +kernel) (by decide +kernel)
set_option maxRecDepth 20000 in
theorem gX4_init_X1_init : GoodIn wsX4_init (wsX1_init) := ggX4_init_X1_init
theorem dX4_init_0 : decode cX4_init 0 = .ok (.aload_n 0, 1) := by decide +kernel
theorem dX4_init_1 : decode cX4_init 1 = .ok (.iconst 3, 1) := by decide +kernel
theorem dX4_init_2 : decode cX4_init 2 = .ok (.iconst 1, 1) := by decide +kernel
theorem dX4_init_3 : decode cX4_init 3 = .ok (.iconst 3, 1) := by decide +kernel
theorem dX4_init_4 : decode cX4_init 4 = .ok (.invokespecial 3, 3) := by decide +kernel
theorem dX4_init_7 : decode cX4_init 7 = .ok (.return_, 1) := by decide +kernel
theorem dX5_init_0 : decode cX5_init 0 = .ok (.aload_n 0, 1) := by decide +kernel
theorem dX5_init_1 : decode cX5_init 1 = .ok (.invokespecial 3, 3) := by decide +kernel
theorem dX5_init_4 : decode cX5_init 4 = .ok (.aload_n 0, 1) := by decide +kernel
theorem dX5_init_5 : decode cX5_init 5 = .ok (.iconst 3, 1) := by decide +kernel
theorem dX5_init_6 : decode cX5_init 6 = .ok (.newarray .int, 2) := by decide +kernel
theorem dX5_init_8 : decode cX5_init 8 = .ok (.putfield 9, 3) := by decide +kernel
theorem dX5_init_11 : decode cX5_init 11 = .ok (.aload_n 0, 1) := by decide +kernel
theorem dX5_init_12 : decode cX5_init 12 = .ok (.iconst 1, 1) := by decide +kernel
theorem dX5_init_13 : decode cX5_init 13 = .ok (.putfield 15, 3) := by decide +kernel
theorem dX5_init_16 : decode cX5_init 16 = .ok (.return_, 1) := by decide +kernel
set_option maxRecDepth 20000 in
theorem ggX5_reckon_X5_outcomeOf : GoodIn wsX5_reckon wsX5_outcomeOf := goodIn_r _ [6] (by decide +kernel) (by decide +kernel)
set_option maxRecDepth 20000 in
theorem gX5_reckon_X5_outcomeOf : GoodIn wsX5_reckon (va_wsS RX5 19 yX5_outcomeOf wsX5_outcomeOf) := goodIn_app (goodIn_of _ (by decide +kernel)) ggX5_reckon_X5_outcomeOf
set_option maxRecDepth 20000 in
theorem ggX5_reckon_X1_waysOf : GoodIn wsX5_reckon wsX1_waysOf := goodIn_r _ [12, 13, 14, 15, 16, 17, 55, 56, 57, 58, 59, 60, 61, 62, 63, 64, 65, 66, 67, 68, 69] (by decide +kernel) (by decide +kernel)
set_option maxRecDepth 20000 in
theorem gX5_reckon_X1_waysOf_u23X0 : GoodIn wsX5_reckon (va_wsU RX5 23 RX0 "KingdomAtDice$Dice" ⟨"KingdomAtDice$Dice", "waysOf", "(I)I"⟩ yX1_waysOf wsX1_waysOf) := goodIn_app (goodIn_of _ (by decide +kernel)) ggX5_reckon_X1_waysOf
set_option maxRecDepth 20000 in
theorem gX5_reckon_X1_waysOf : GoodIn wsX5_reckon (wsV RX5 23 RX1 yX1_waysOf wsX1_waysOf) := goodIn_app (goodIn_of _ (by decide +kernel)) ggX5_reckon_X1_waysOf
set_option maxRecDepth 20000 in
theorem gX5_reckon_X1_waysOf_u23X3 : GoodIn wsX5_reckon (va_wsU RX5 23 RX3 "KingdomAtDice$Dice" ⟨"KingdomAtDice$Dice", "waysOf", "(I)I"⟩ yX1_waysOf wsX1_waysOf) := goodIn_app (goodIn_of _ (by decide +kernel)) ggX5_reckon_X1_waysOf
set_option maxRecDepth 20000 in
theorem gX5_reckon_X1_waysOf_u23X4 : GoodIn wsX5_reckon (va_wsU RX5 23 RX4 "KingdomAtDice$Dice" ⟨"KingdomAtDice$Dice", "waysOf", "(I)I"⟩ yX1_waysOf wsX1_waysOf) := goodIn_app (goodIn_of _ (by decide +kernel)) ggX5_reckon_X1_waysOf
set_option maxRecDepth 20000 in
theorem ggX5_reckon_X9_waysOf : GoodIn wsX5_reckon wsX9_waysOf := goodIn_r _ [26, 15, 16, 17] (by decide +kernel) (by decide +kernel)
set_option maxRecDepth 20000 in
theorem gX5_reckon_X9_waysOf_u23X9 : GoodIn wsX5_reckon (va_wsO RX5 23 RX9 "KingdomAtDice$Dice" ⟨"KingdomAtDice$Dice", "waysOf", "(I)I"⟩ yX9_waysOf wsX9_waysOf) := goodIn_app (goodIn_of _ (by decide +kernel)) ggX5_reckon_X9_waysOf
set_option maxRecDepth 20000 in
theorem ggX5_reckon_X1_wayMany : GoodIn wsX5_reckon wsX1_wayMany := goodIn_r _ [31, 32, 33, 34, 35, 11, 36, 14, 13, 37, 38, 39, 40, 41, 55, 56, 57, 58, 59, 60, 61, 62, 63, 64, 65, 66, 67, 68, 69] (by decide +kernel) (by decide +kernel)
set_option maxRecDepth 20000 in
theorem gX5_reckon_X1_wayMany_u29X0 : GoodIn wsX5_reckon (va_wsU RX5 29 RX0 "KingdomAtDice$Dice" ⟨"KingdomAtDice$Dice", "wayMany", "()I"⟩ yX1_wayMany wsX1_wayMany) := goodIn_app (goodIn_of _ (by decide +kernel)) ggX5_reckon_X1_wayMany
set_option maxRecDepth 20000 in
theorem gX5_reckon_X1_wayMany : GoodIn wsX5_reckon (wsV RX5 29 RX1 yX1_wayMany wsX1_wayMany) := goodIn_app (goodIn_of _ (by decide +kernel)) ggX5_reckon_X1_wayMany
set_option maxRecDepth 20000 in
theorem gX5_reckon_X1_wayMany_u29X3 : GoodIn wsX5_reckon (va_wsU RX5 29 RX3 "KingdomAtDice$Dice" ⟨"KingdomAtDice$Dice", "wayMany", "()I"⟩ yX1_wayMany wsX1_wayMany) := goodIn_app (goodIn_of _ (by decide +kernel)) ggX5_reckon_X1_wayMany
set_option maxRecDepth 20000 in
theorem gX5_reckon_X1_wayMany_u29X4 : GoodIn wsX5_reckon (va_wsU RX5 29 RX4 "KingdomAtDice$Dice" ⟨"KingdomAtDice$Dice", "wayMany", "()I"⟩ yX1_wayMany wsX1_wayMany) := goodIn_app (goodIn_of _ (by decide +kernel)) ggX5_reckon_X1_wayMany
set_option maxRecDepth 20000 in
theorem ggX5_reckon_X9_wayMany : GoodIn wsX5_reckon wsX9_wayMany := goodIn_r _ [49, 50, 51, 52, 35, 11, 36, 14, 13, 55, 56, 57, 58, 59, 60, 61, 62, 63, 64, 65, 66, 67, 68, 69] (by decide +kernel) (by decide +kernel)
set_option maxRecDepth 20000 in
theorem gX5_reckon_X9_wayMany_u29X9 : GoodIn wsX5_reckon (va_wsO RX5 29 RX9 "KingdomAtDice$Dice" ⟨"KingdomAtDice$Dice", "wayMany", "()I"⟩ yX9_wayMany wsX9_wayMany) := goodIn_app (goodIn_of _ (by decide +kernel)) ggX5_reckon_X9_wayMany
theorem dX5_reckon_0 : decode cX5_reckon 0 = .ok (.iconst 0, 1) := by decide +kernel
theorem dX5_reckon_1 : decode cX5_reckon 1 = .ok (.istore_n 3, 1) := by decide +kernel
theorem dX5_reckon_2 : decode cX5_reckon 2 = .ok (.iload_n 3, 1) := by decide +kernel
theorem dX5_reckon_3 : decode cX5_reckon 3 = .ok (.aload_n 0, 1) := by decide +kernel
theorem dX5_reckon_4 : decode cX5_reckon 4 = .ok (.getfield 9, 3) := by decide +kernel
theorem dX5_reckon_7 : decode cX5_reckon 7 = .ok (.arraylength, 1) := by decide +kernel
theorem dX5_reckon_8 : decode cX5_reckon 8 = .ok (.if_icmp .ge 16, 3) := by decide +kernel
theorem dX5_reckon_11 : decode cX5_reckon 11 = .ok (.aload_n 0, 1) := by decide +kernel
theorem dX5_reckon_12 : decode cX5_reckon 12 = .ok (.getfield 9, 3) := by decide +kernel
theorem dX5_reckon_15 : decode cX5_reckon 15 = .ok (.iload_n 3, 1) := by decide +kernel
theorem dX5_reckon_16 : decode cX5_reckon 16 = .ok (.iconst 0, 1) := by decide +kernel
theorem dX5_reckon_17 : decode cX5_reckon 17 = .ok (.iastore, 1) := by decide +kernel
theorem dX5_reckon_18 : decode cX5_reckon 18 = .ok (.iinc 3 1, 3) := by decide +kernel
theorem dX5_reckon_21 : decode cX5_reckon 21 = .ok (.goto (-19), 3) := by decide +kernel
theorem dX5_reckon_24 : decode cX5_reckon 24 = .ok (.iconst 2, 1) := by decide +kernel
theorem dX5_reckon_25 : decode cX5_reckon 25 = .ok (.istore_n 3, 1) := by decide +kernel
theorem dX5_reckon_26 : decode cX5_reckon 26 = .ok (.iload_n 3, 1) := by decide +kernel
theorem dX5_reckon_27 : decode cX5_reckon 27 = .ok (.bipush 12, 2) := by decide +kernel
theorem dX5_reckon_29 : decode cX5_reckon 29 = .ok (.if_icmp .gt 51, 3) := by decide +kernel
theorem dX5_reckon_32 : decode cX5_reckon 32 = .ok (.iconst 2, 1) := by decide +kernel
theorem dX5_reckon_33 : decode cX5_reckon 33 = .ok (.istore 4, 2) := by decide +kernel
theorem dX5_reckon_35 : decode cX5_reckon 35 = .ok (.iload 4, 2) := by decide +kernel
theorem dX5_reckon_37 : decode cX5_reckon 37 = .ok (.bipush 12, 2) := by decide +kernel
theorem dX5_reckon_39 : decode cX5_reckon 39 = .ok (.if_icmp .gt 35, 3) := by decide +kernel
theorem dX5_reckon_42 : decode cX5_reckon 42 = .ok (.aload_n 0, 1) := by decide +kernel
theorem dX5_reckon_43 : decode cX5_reckon 43 = .ok (.getfield 9, 3) := by decide +kernel
theorem dX5_reckon_46 : decode cX5_reckon 46 = .ok (.iload_n 3, 1) := by decide +kernel
theorem dX5_reckon_47 : decode cX5_reckon 47 = .ok (.iload 4, 2) := by decide +kernel
theorem dX5_reckon_49 : decode cX5_reckon 49 = .ok (.invokestatic 19, 3) := by decide +kernel
theorem dX5_reckon_52 : decode cX5_reckon 52 = .ok (.dup2, 1) := by decide +kernel
theorem dX5_reckon_53 : decode cX5_reckon 53 = .ok (.iaload, 1) := by decide +kernel
theorem dX5_reckon_54 : decode cX5_reckon 54 = .ok (.aload_n 1, 1) := by decide +kernel
theorem dX5_reckon_55 : decode cX5_reckon 55 = .ok (.iload_n 3, 1) := by decide +kernel
theorem dX5_reckon_56 : decode cX5_reckon 56 = .ok (.invokevirtual 23, 3) := by decide +kernel
theorem dX5_reckon_59 : decode cX5_reckon 59 = .ok (.aload_n 2, 1) := by decide +kernel
theorem dX5_reckon_60 : decode cX5_reckon 60 = .ok (.iload 4, 2) := by decide +kernel
theorem dX5_reckon_62 : decode cX5_reckon 62 = .ok (.invokevirtual 23, 3) := by decide +kernel
theorem dX5_reckon_65 : decode cX5_reckon 65 = .ok (.imul, 1) := by decide +kernel
theorem dX5_reckon_66 : decode cX5_reckon 66 = .ok (.iadd, 1) := by decide +kernel
theorem dX5_reckon_67 : decode cX5_reckon 67 = .ok (.iastore, 1) := by decide +kernel
theorem dX5_reckon_68 : decode cX5_reckon 68 = .ok (.iinc 4 1, 3) := by decide +kernel
theorem dX5_reckon_71 : decode cX5_reckon 71 = .ok (.goto (-36), 3) := by decide +kernel
theorem dX5_reckon_74 : decode cX5_reckon 74 = .ok (.iinc 3 1, 3) := by decide +kernel
theorem dX5_reckon_77 : decode cX5_reckon 77 = .ok (.goto (-51), 3) := by decide +kernel
theorem dX5_reckon_80 : decode cX5_reckon 80 = .ok (.aload_n 0, 1) := by decide +kernel
theorem dX5_reckon_81 : decode cX5_reckon 81 = .ok (.aload_n 1, 1) := by decide +kernel
theorem dX5_reckon_82 : decode cX5_reckon 82 = .ok (.invokevirtual 29, 3) := by decide +kernel
theorem dX5_reckon_85 : decode cX5_reckon 85 = .ok (.aload_n 2, 1) := by decide +kernel
theorem dX5_reckon_86 : decode cX5_reckon 86 = .ok (.invokevirtual 29, 3) := by decide +kernel
theorem dX5_reckon_89 : decode cX5_reckon 89 = .ok (.imul, 1) := by decide +kernel
theorem dX5_reckon_90 : decode cX5_reckon 90 = .ok (.putfield 15, 3) := by decide +kernel
theorem dX5_reckon_93 : decode cX5_reckon 93 = .ok (.return_, 1) := by decide +kernel
theorem dX5_outcomeOf_0 : decode cX5_outcomeOf 0 = .ok (.iload_n 0, 1) := by decide +kernel
theorem dX5_outcomeOf_1 : decode cX5_outcomeOf 1 = .ok (.iload_n 1, 1) := by decide +kernel
theorem dX5_outcomeOf_2 : decode cX5_outcomeOf 2 = .ok (.if_icmp .ne 5, 3) := by decide +kernel
theorem dX5_outcomeOf_5 : decode cX5_outcomeOf 5 = .ok (.iconst 2, 1) := by decide +kernel
theorem dX5_outcomeOf_6 : decode cX5_outcomeOf 6 = .ok (.ireturn, 1) := by decide +kernel
theorem dX5_outcomeOf_7 : decode cX5_outcomeOf 7 = .ok (.iload_n 0, 1) := by decide +kernel
theorem dX5_outcomeOf_8 : decode cX5_outcomeOf 8 = .ok (.iload_n 1, 1) := by decide +kernel
theorem dX5_outcomeOf_9 : decode cX5_outcomeOf 9 = .ok (.if_icmp .le 7, 3) := by decide +kernel
theorem dX5_outcomeOf_12 : decode cX5_outcomeOf 12 = .ok (.iconst 0, 1) := by decide +kernel
theorem dX5_outcomeOf_13 : decode cX5_outcomeOf 13 = .ok (.goto 4, 3) := by decide +kernel
theorem dX5_outcomeOf_16 : decode cX5_outcomeOf 16 = .ok (.iconst 1, 1) := by decide +kernel
theorem dX5_outcomeOf_17 : decode cX5_outcomeOf 17 = .ok (.ireturn, 1) := by decide +kernel
set_option maxRecDepth 20000 in
theorem ggX5_waysTo_X10_isBelow : GoodIn wsX5_waysTo wsX10_isBelow := goodIn_r _ [4] (by decide +kernel) (by decide +kernel)
set_option maxRecDepth 20000 in
theorem gX5_waysTo_X10_isBelow_n33 : GoodIn wsX5_waysTo (wsX10_isBelow) := ggX5_waysTo_X10_isBelow
theorem dX5_waysTo_0 : decode cX5_waysTo 0 = .ok (.iload_n 1, 1) := by decide +kernel
theorem dX5_waysTo_1 : decode cX5_waysTo 1 = .ok (.aload_n 0, 1) := by decide +kernel
theorem dX5_waysTo_2 : decode cX5_waysTo 2 = .ok (.getfield 9, 3) := by decide +kernel
theorem dX5_waysTo_5 : decode cX5_waysTo 5 = .ok (.arraylength, 1) := by decide +kernel
theorem dX5_waysTo_6 : decode cX5_waysTo 6 = .ok (.invokestatic 33, 3) := by decide +kernel
theorem dX5_waysTo_9 : decode cX5_waysTo 9 = .ok (.ifCond .eq 12, 3) := by decide +kernel
theorem dX5_waysTo_12 : decode cX5_waysTo 12 = .ok (.aload_n 0, 1) := by decide +kernel
theorem dX5_waysTo_13 : decode cX5_waysTo 13 = .ok (.getfield 9, 3) := by decide +kernel
theorem dX5_waysTo_16 : decode cX5_waysTo 16 = .ok (.iload_n 1, 1) := by decide +kernel
theorem dX5_waysTo_17 : decode cX5_waysTo 17 = .ok (.iaload, 1) := by decide +kernel
theorem dX5_waysTo_18 : decode cX5_waysTo 18 = .ok (.goto 4, 3) := by decide +kernel
theorem dX5_waysTo_21 : decode cX5_waysTo 21 = .ok (.iconst 0, 1) := by decide +kernel
theorem dX5_waysTo_22 : decode cX5_waysTo 22 = .ok (.ireturn, 1) := by decide +kernel
theorem dX6_init_0 : decode cX6_init 0 = .ok (.aload_n 0, 1) := by decide +kernel
theorem dX6_init_1 : decode cX6_init 1 = .ok (.invokespecial 3, 3) := by decide +kernel
theorem dX6_init_4 : decode cX6_init 4 = .ok (.aload_n 0, 1) := by decide +kernel
theorem dX6_init_5 : decode cX6_init 5 = .ok (.bipush 22, 2) := by decide +kernel
theorem dX6_init_7 : decode cX6_init 7 = .ok (.newarray .int, 2) := by decide +kernel
theorem dX6_init_9 : decode cX6_init 9 = .ok (.putfield 9, 3) := by decide +kernel
theorem dX6_init_12 : decode cX6_init 12 = .ok (.aload_n 0, 1) := by decide +kernel
theorem dX6_init_13 : decode cX6_init 13 = .ok (.iconst 0, 1) := by decide +kernel
theorem dX6_init_14 : decode cX6_init 14 = .ok (.putfield 15, 3) := by decide +kernel
theorem dX6_init_17 : decode cX6_init 17 = .ok (.return_, 1) := by decide +kernel
theorem dX6_isFull_0 : decode cX6_isFull 0 = .ok (.aload_n 0, 1) := by decide +kernel
theorem dX6_isFull_1 : decode cX6_isFull 1 = .ok (.getfield 15, 3) := by decide +kernel
theorem dX6_isFull_4 : decode cX6_isFull 4 = .ok (.aload_n 0, 1) := by decide +kernel
theorem dX6_isFull_5 : decode cX6_isFull 5 = .ok (.getfield 9, 3) := by decide +kernel
theorem dX6_isFull_8 : decode cX6_isFull 8 = .ok (.arraylength, 1) := by decide +kernel
theorem dX6_isFull_9 : decode cX6_isFull 9 = .ok (.if_icmp .lt 7, 3) := by decide +kernel
theorem dX6_isFull_12 : decode cX6_isFull 12 = .ok (.iconst 1, 1) := by decide +kernel
theorem dX6_isFull_13 : decode cX6_isFull 13 = .ok (.goto 4, 3) := by decide +kernel
theorem dX6_isFull_16 : decode cX6_isFull 16 = .ok (.iconst 0, 1) := by decide +kernel
theorem dX6_isFull_17 : decode cX6_isFull 17 = .ok (.ireturn, 1) := by decide +kernel
set_option maxRecDepth 20000 in
theorem ggX6_push_X6_isFull : GoodIn wsX6_push wsX6_isFull := goodIn_r _ [7, 2, 1, 8, 9] (by decide +kernel) (by decide +kernel)
set_option maxRecDepth 20000 in
theorem gX6_push_X6_isFull : GoodIn wsX6_push (wsV RX6 19 RX6 yX6_isFull wsX6_isFull) := goodIn_app (goodIn_of _ (by decide +kernel)) ggX6_push_X6_isFull
theorem dX6_push_0 : decode cX6_push 0 = .ok (.aload_n 0, 1) := by decide +kernel
theorem dX6_push_1 : decode cX6_push 1 = .ok (.invokevirtual 19, 3) := by decide +kernel
theorem dX6_push_4 : decode cX6_push 4 = .ok (.ifCond .ne 23, 3) := by decide +kernel
theorem dX6_push_7 : decode cX6_push 7 = .ok (.aload_n 0, 1) := by decide +kernel
theorem dX6_push_8 : decode cX6_push 8 = .ok (.getfield 9, 3) := by decide +kernel
theorem dX6_push_11 : decode cX6_push 11 = .ok (.aload_n 0, 1) := by decide +kernel
theorem dX6_push_12 : decode cX6_push 12 = .ok (.getfield 15, 3) := by decide +kernel
theorem dX6_push_15 : decode cX6_push 15 = .ok (.iload_n 1, 1) := by decide +kernel
theorem dX6_push_16 : decode cX6_push 16 = .ok (.iastore, 1) := by decide +kernel
theorem dX6_push_17 : decode cX6_push 17 = .ok (.aload_n 0, 1) := by decide +kernel
theorem dX6_push_18 : decode cX6_push 18 = .ok (.dup, 1) := by decide +kernel
theorem dX6_push_19 : decode cX6_push 19 = .ok (.getfield 15, 3) := by decide +kernel
theorem dX6_push_22 : decode cX6_push 22 = .ok (.iconst 1, 1) := by decide +kernel
theorem dX6_push_23 : decode cX6_push 23 = .ok (.iadd, 1) := by decide +kernel
theorem dX6_push_24 : decode cX6_push 24 = .ok (.putfield 15, 3) := by decide +kernel
theorem dX6_push_27 : decode cX6_push 27 = .ok (.aload_n 0, 1) := by decide +kernel
theorem dX6_push_28 : decode cX6_push 28 = .ok (.getfield 15, 3) := by decide +kernel
theorem dX6_push_31 : decode cX6_push 31 = .ok (.ireturn, 1) := by decide +kernel
theorem dX6_clear_0 : decode cX6_clear 0 = .ok (.aload_n 0, 1) := by decide +kernel
theorem dX6_clear_1 : decode cX6_clear 1 = .ok (.getfield 15, 3) := by decide +kernel
theorem dX6_clear_4 : decode cX6_clear 4 = .ok (.istore_n 1, 1) := by decide +kernel
theorem dX6_clear_5 : decode cX6_clear 5 = .ok (.aload_n 0, 1) := by decide +kernel
theorem dX6_clear_6 : decode cX6_clear 6 = .ok (.iconst 0, 1) := by decide +kernel
theorem dX6_clear_7 : decode cX6_clear 7 = .ok (.putfield 15, 3) := by decide +kernel
theorem dX6_clear_10 : decode cX6_clear 10 = .ok (.iload_n 1, 1) := by decide +kernel
theorem dX6_clear_11 : decode cX6_clear 11 = .ok (.ireturn, 1) := by decide +kernel
set_option maxRecDepth 20000 in
theorem ggX6_codeAt_X10_isBelow : GoodIn wsX6_codeAt wsX10_isBelow := goodIn_r _ [5] (by decide +kernel) (by decide +kernel)
set_option maxRecDepth 20000 in
theorem gX6_codeAt_X10_isBelow_n23 : GoodIn wsX6_codeAt (wsX10_isBelow) := ggX6_codeAt_X10_isBelow
theorem dX6_codeAt_0 : decode cX6_codeAt 0 = .ok (.iload_n 1, 1) := by decide +kernel
theorem dX6_codeAt_1 : decode cX6_codeAt 1 = .ok (.aload_n 0, 1) := by decide +kernel
theorem dX6_codeAt_2 : decode cX6_codeAt 2 = .ok (.getfield 15, 3) := by decide +kernel
theorem dX6_codeAt_5 : decode cX6_codeAt 5 = .ok (.invokestatic 23, 3) := by decide +kernel
theorem dX6_codeAt_8 : decode cX6_codeAt 8 = .ok (.ifCond .eq 12, 3) := by decide +kernel
theorem dX6_codeAt_11 : decode cX6_codeAt 11 = .ok (.aload_n 0, 1) := by decide +kernel
theorem dX6_codeAt_12 : decode cX6_codeAt 12 = .ok (.getfield 9, 3) := by decide +kernel
theorem dX6_codeAt_15 : decode cX6_codeAt 15 = .ok (.iload_n 1, 1) := by decide +kernel
theorem dX6_codeAt_16 : decode cX6_codeAt 16 = .ok (.iaload, 1) := by decide +kernel
theorem dX6_codeAt_17 : decode cX6_codeAt 17 = .ok (.goto 4, 3) := by decide +kernel
theorem dX6_codeAt_20 : decode cX6_codeAt 20 = .ok (.iconst 0, 1) := by decide +kernel
theorem dX6_codeAt_21 : decode cX6_codeAt 21 = .ok (.ireturn, 1) := by decide +kernel
set_option maxRecDepth 20000 in
theorem ggX6_faultPlace_X6_codeAt : GoodIn wsX6_faultPlace wsX6_codeAt := goodIn_r _ [6, 1, 7, 8, 9, 10, 106, 107] (by decide +kernel) (by decide +kernel)
set_option maxRecDepth 20000 in
theorem gX6_faultPlace_X6_codeAt : GoodIn wsX6_faultPlace (wsV RX6 27 RX6 yX6_codeAt wsX6_codeAt) := goodIn_app (goodIn_of _ (by decide +kernel)) ggX6_faultPlace_X6_codeAt
set_option maxRecDepth 20000 in
theorem ggX6_faultPlace_X6_fitsBehind : GoodIn wsX6_faultPlace wsX6_fitsBehind := goodIn_r _ [13, 14, 15, 16, 17, 18, 19, 20, 21, 22, 23, 24, 25, 26, 27, 28, 29, 30, 31, 32, 33, 34, 35, 36, 37, 38, 39, 40, 41, 42, 43, 44, 45, 46, 47, 48, 49, 50, 51, 52, 53, 54, 55, 56, 57, 58, 59, 60, 61, 62, 63, 64, 65, 66, 67, 68, 69, 70, 71, 72, 73, 74, 75, 76, 77, 78, 79, 80, 81, 82, 83, 84, 85, 86, 87, 88, 89, 90, 91, 92, 93, 94, 95, 96, 97, 98, 99, 100, 101, 102] (by decide +kernel) (by decide +kernel)
set_option maxRecDepth 20000 in
theorem gX6_faultPlace_X6_fitsBehind : GoodIn wsX6_faultPlace (va_wsS RX6 31 yX6_fitsBehind wsX6_fitsBehind) := goodIn_app (goodIn_of _ (by decide +kernel)) ggX6_faultPlace_X6_fitsBehind
set_option maxRecDepth 20000 in
theorem ggX6_faultPlace_X6_fitsThings : GoodIn wsX6_faultPlace wsX6_fitsThings := goodIn_r _ [105, 14, 15, 16, 17, 18, 19, 20, 21, 22, 23, 24, 25, 26, 27, 28, 29, 30, 31, 32, 33, 34, 35, 36, 37, 38, 39, 40, 41, 42, 43, 44, 45, 46, 47, 48, 49, 50, 51, 52, 53, 54, 55, 56, 57, 58, 59, 60, 61, 62, 63, 64, 65, 66, 67, 68, 69, 70, 71, 72, 73, 74, 75, 76, 77, 78, 79, 80, 81, 82, 83, 84, 85, 86, 87, 88, 89, 90, 91, 92, 93, 94, 95, 96, 97, 98, 99, 100, 101, 102] (by decide +kernel) (by decide +kernel)
set_option maxRecDepth 20000 in
theorem gX6_faultPlace_X6_fitsThings : GoodIn wsX6_faultPlace (va_wsS RX6 34 yX6_fitsThings wsX6_fitsThings) := goodIn_app (goodIn_of _ (by decide +kernel)) ggX6_faultPlace_X6_fitsThings
theorem dX6_faultPlace_0 : decode cX6_faultPlace 0 = .ok (.iconst 0, 1) := by decide +kernel
theorem dX6_faultPlace_1 : decode cX6_faultPlace 1 = .ok (.istore_n 1, 1) := by decide +kernel
theorem dX6_faultPlace_2 : decode cX6_faultPlace 2 = .ok (.iconst (-1), 1) := by decide +kernel
theorem dX6_faultPlace_3 : decode cX6_faultPlace 3 = .ok (.istore_n 2, 1) := by decide +kernel
theorem dX6_faultPlace_4 : decode cX6_faultPlace 4 = .ok (.iconst 0, 1) := by decide +kernel
theorem dX6_faultPlace_5 : decode cX6_faultPlace 5 = .ok (.istore_n 3, 1) := by decide +kernel
theorem dX6_faultPlace_6 : decode cX6_faultPlace 6 = .ok (.iload_n 3, 1) := by decide +kernel
theorem dX6_faultPlace_7 : decode cX6_faultPlace 7 = .ok (.aload_n 0, 1) := by decide +kernel
theorem dX6_faultPlace_8 : decode cX6_faultPlace 8 = .ok (.getfield 15, 3) := by decide +kernel
theorem dX6_faultPlace_11 : decode cX6_faultPlace 11 = .ok (.if_icmp .ge 65, 3) := by decide +kernel
theorem dX6_faultPlace_14 : decode cX6_faultPlace 14 = .ok (.aload_n 0, 1) := by decide +kernel
theorem dX6_faultPlace_15 : decode cX6_faultPlace 15 = .ok (.iload_n 3, 1) := by decide +kernel
theorem dX6_faultPlace_16 : decode cX6_faultPlace 16 = .ok (.invokevirtual 27, 3) := by decide +kernel
theorem dX6_faultPlace_19 : decode cX6_faultPlace 19 = .ok (.istore 4, 2) := by decide +kernel
theorem dX6_faultPlace_21 : decode cX6_faultPlace 21 = .ok (.iload_n 2, 1) := by decide +kernel
theorem dX6_faultPlace_22 : decode cX6_faultPlace 22 = .ok (.iconst (-1), 1) := by decide +kernel
theorem dX6_faultPlace_23 : decode cX6_faultPlace 23 = .ok (.if_icmp .eq 17, 3) := by decide +kernel
theorem dX6_faultPlace_26 : decode cX6_faultPlace 26 = .ok (.iload_n 3, 1) := by decide +kernel
theorem dX6_faultPlace_27 : decode cX6_faultPlace 27 = .ok (.iload_n 2, 1) := by decide +kernel
theorem dX6_faultPlace_28 : decode cX6_faultPlace 28 = .ok (.isub, 1) := by decide +kernel
theorem dX6_faultPlace_29 : decode cX6_faultPlace 29 = .ok (.iload 4, 2) := by decide +kernel
theorem dX6_faultPlace_31 : decode cX6_faultPlace 31 = .ok (.invokestatic 31, 3) := by decide +kernel
theorem dX6_faultPlace_34 : decode cX6_faultPlace 34 = .ok (.ifCond .ne 18, 3) := by decide +kernel
theorem dX6_faultPlace_37 : decode cX6_faultPlace 37 = .ok (.goto 13, 3) := by decide +kernel
theorem dX6_faultPlace_40 : decode cX6_faultPlace 40 = .ok (.iload_n 3, 1) := by decide +kernel
theorem dX6_faultPlace_41 : decode cX6_faultPlace 41 = .ok (.iload 4, 2) := by decide +kernel
theorem dX6_faultPlace_43 : decode cX6_faultPlace 43 = .ok (.iload_n 1, 1) := by decide +kernel
theorem dX6_faultPlace_44 : decode cX6_faultPlace 44 = .ok (.invokestatic 34, 3) := by decide +kernel
theorem dX6_faultPlace_47 : decode cX6_faultPlace 47 = .ok (.ifCond .ne 5, 3) := by decide +kernel
theorem dX6_faultPlace_50 : decode cX6_faultPlace 50 = .ok (.iload_n 3, 1) := by decide +kernel
theorem dX6_faultPlace_51 : decode cX6_faultPlace 51 = .ok (.ireturn, 1) := by decide +kernel
theorem dX6_faultPlace_52 : decode cX6_faultPlace 52 = .ok (.iload 4, 2) := by decide +kernel
theorem dX6_faultPlace_54 : decode cX6_faultPlace 54 = .ok (.bipush 115, 2) := by decide +kernel
theorem dX6_faultPlace_56 : decode cX6_faultPlace 56 = .ok (.if_icmp .ne 5, 3) := by decide +kernel
theorem dX6_faultPlace_59 : decode cX6_faultPlace 59 = .ok (.iconst 1, 1) := by decide +kernel
theorem dX6_faultPlace_60 : decode cX6_faultPlace 60 = .ok (.istore_n 1, 1) := by decide +kernel
theorem dX6_faultPlace_61 : decode cX6_faultPlace 61 = .ok (.iload 4, 2) := by decide +kernel
theorem dX6_faultPlace_63 : decode cX6_faultPlace 63 = .ok (.bipush 59, 2) := by decide +kernel
theorem dX6_faultPlace_65 : decode cX6_faultPlace 65 = .ok (.if_icmp .ne 5, 3) := by decide +kernel
theorem dX6_faultPlace_68 : decode cX6_faultPlace 68 = .ok (.iload_n 3, 1) := by decide +kernel
theorem dX6_faultPlace_69 : decode cX6_faultPlace 69 = .ok (.istore_n 2, 1) := by decide +kernel
theorem dX6_faultPlace_70 : decode cX6_faultPlace 70 = .ok (.iinc 3 1, 3) := by decide +kernel
theorem dX6_faultPlace_73 : decode cX6_faultPlace 73 = .ok (.goto (-67), 3) := by decide +kernel
theorem dX6_faultPlace_76 : decode cX6_faultPlace 76 = .ok (.aload_n 0, 1) := by decide +kernel
theorem dX6_faultPlace_77 : decode cX6_faultPlace 77 = .ok (.getfield 15, 3) := by decide +kernel
theorem dX6_faultPlace_80 : decode cX6_faultPlace 80 = .ok (.ireturn, 1) := by decide +kernel
set_option maxRecDepth 20000 in
theorem ggX6_fitsThings_J0_indexOf_0f7a4 : GoodIn wsX6_fitsThings wsJ0_indexOf_0f7a4 := goodIn_r _ [5, 6, 7, 8, 4, 9, 10, 11, 12, 13, 14, 15, 16, 17, 18, 19, 20, 21, 22, 23, 24, 25, 26, 27, 28, 29, 30, 31, 32, 33, 34, 35, 36, 37, 38, 39, 40, 41, 42, 43, 44, 45, 46, 47, 48, 49, 50, 51, 52, 53, 54, 55, 56, 57, 58, 59, 60, 61, 62, 63, 64, 65, 66, 67, 68, 69, 70, 71, 72, 73, 74, 75, 76, 77, 78, 79, 80, 81, 82, 83, 84, 85, 86, 87, 88, 89] (by decide +kernel) (by decide +kernel)
set_option maxRecDepth 20000 in
theorem gX6_fitsThings_J0_indexOf_0f7a4 : GoodIn wsX6_fitsThings (wsV RX6 40 RJ0 yJ0_indexOf_0f7a4 wsJ0_indexOf_0f7a4) := goodIn_app (goodIn_of _ (by decide +kernel)) ggX6_fitsThings_J0_indexOf_0f7a4
theorem dX6_fitsThings_0 : decode cX6_fitsThings 0 = .ok (.iload_n 0, 1) := by decide +kernel
theorem dX6_fitsThings_1 : decode cX6_fitsThings 1 = .ok (.iconst 3, 1) := by decide +kernel
theorem dX6_fitsThings_2 : decode cX6_fitsThings 2 = .ok (.idiv, 1) := by decide +kernel
theorem dX6_fitsThings_3 : decode cX6_fitsThings 3 = .ok (.iconst 1, 1) := by decide +kernel
theorem dX6_fitsThings_4 : decode cX6_fitsThings 4 = .ok (.iadd, 1) := by decide +kernel
theorem dX6_fitsThings_5 : decode cX6_fitsThings 5 = .ok (.istore_n 3, 1) := by decide +kernel
theorem dX6_fitsThings_6 : decode cX6_fitsThings 6 = .ok (.iload_n 0, 1) := by decide +kernel
theorem dX6_fitsThings_7 : decode cX6_fitsThings 7 = .ok (.iconst 3, 1) := by decide +kernel
theorem dX6_fitsThings_8 : decode cX6_fitsThings 8 = .ok (.irem, 1) := by decide +kernel
theorem dX6_fitsThings_9 : decode cX6_fitsThings 9 = .ok (.lookupswitch 71 #[(0, 27), (1, 53)], 27) := by decide +kernel
theorem dX6_fitsThings_36 : decode cX6_fitsThings 36 = .ok (.ldc 38, 2) := by decide +kernel
theorem dX6_fitsThings_38 : decode cX6_fitsThings 38 = .ok (.iload_n 1, 1) := by decide +kernel
theorem dX6_fitsThings_39 : decode cX6_fitsThings 39 = .ok (.i2c, 1) := by decide +kernel
theorem dX6_fitsThings_40 : decode cX6_fitsThings 40 = .ok (.invokevirtual 40, 3) := by decide +kernel
theorem dX6_fitsThings_43 : decode cX6_fitsThings 43 = .ok (.ifCond .lt 17, 3) := by decide +kernel
theorem dX6_fitsThings_46 : decode cX6_fitsThings 46 = .ok (.iload_n 1, 1) := by decide +kernel
theorem dX6_fitsThings_47 : decode cX6_fitsThings 47 = .ok (.bipush 115, 2) := by decide +kernel
theorem dX6_fitsThings_49 : decode cX6_fitsThings 49 = .ok (.if_icmp .ne 7, 3) := by decide +kernel
theorem dX6_fitsThings_52 : decode cX6_fitsThings 52 = .ok (.iload_n 2, 1) := by decide +kernel
theorem dX6_fitsThings_53 : decode cX6_fitsThings 53 = .ok (.ifCond .ne 7, 3) := by decide +kernel
theorem dX6_fitsThings_56 : decode cX6_fitsThings 56 = .ok (.iconst 1, 1) := by decide +kernel
theorem dX6_fitsThings_57 : decode cX6_fitsThings 57 = .ok (.goto 4, 3) := by decide +kernel
theorem dX6_fitsThings_60 : decode cX6_fitsThings 60 = .ok (.iconst 0, 1) := by decide +kernel
theorem dX6_fitsThings_61 : decode cX6_fitsThings 61 = .ok (.ireturn, 1) := by decide +kernel
theorem dX6_fitsThings_62 : decode cX6_fitsThings 62 = .ok (.iload_n 1, 1) := by decide +kernel
theorem dX6_fitsThings_63 : decode cX6_fitsThings 63 = .ok (.bipush 49, 2) := by decide +kernel
theorem dX6_fitsThings_65 : decode cX6_fitsThings 65 = .ok (.if_icmp .lt 13, 3) := by decide +kernel
theorem dX6_fitsThings_68 : decode cX6_fitsThings 68 = .ok (.iload_n 1, 1) := by decide +kernel
theorem dX6_fitsThings_69 : decode cX6_fitsThings 69 = .ok (.bipush 57, 2) := by decide +kernel
theorem dX6_fitsThings_71 : decode cX6_fitsThings 71 = .ok (.if_icmp .gt 7, 3) := by decide +kernel
theorem dX6_fitsThings_74 : decode cX6_fitsThings 74 = .ok (.iconst 1, 1) := by decide +kernel
theorem dX6_fitsThings_75 : decode cX6_fitsThings 75 = .ok (.goto 4, 3) := by decide +kernel
theorem dX6_fitsThings_78 : decode cX6_fitsThings 78 = .ok (.iconst 0, 1) := by decide +kernel
theorem dX6_fitsThings_79 : decode cX6_fitsThings 79 = .ok (.ireturn, 1) := by decide +kernel
theorem dX6_fitsThings_80 : decode cX6_fitsThings 80 = .ok (.iload_n 1, 1) := by decide +kernel
theorem dX6_fitsThings_81 : decode cX6_fitsThings 81 = .ok (.bipush 44, 2) := by decide +kernel
theorem dX6_fitsThings_83 : decode cX6_fitsThings 83 = .ok (.if_icmp .ne 9, 3) := by decide +kernel
theorem dX6_fitsThings_86 : decode cX6_fitsThings 86 = .ok (.iload_n 3, 1) := by decide +kernel
theorem dX6_fitsThings_87 : decode cX6_fitsThings 87 = .ok (.bipush 6, 2) := by decide +kernel
theorem dX6_fitsThings_89 : decode cX6_fitsThings 89 = .ok (.if_icmp .lt 14, 3) := by decide +kernel
theorem dX6_fitsThings_92 : decode cX6_fitsThings 92 = .ok (.iload_n 1, 1) := by decide +kernel
theorem dX6_fitsThings_93 : decode cX6_fitsThings 93 = .ok (.bipush 59, 2) := by decide +kernel
theorem dX6_fitsThings_95 : decode cX6_fitsThings 95 = .ok (.if_icmp .ne 12, 3) := by decide +kernel
theorem dX6_fitsThings_98 : decode cX6_fitsThings 98 = .ok (.iload_n 3, 1) := by decide +kernel
theorem dX6_fitsThings_99 : decode cX6_fitsThings 99 = .ok (.iconst 2, 1) := by decide +kernel
theorem dX6_fitsThings_100 : decode cX6_fitsThings 100 = .ok (.if_icmp .lt 7, 3) := by decide +kernel
theorem dX6_fitsThings_103 : decode cX6_fitsThings 103 = .ok (.iconst 1, 1) := by decide +kernel
theorem dX6_fitsThings_104 : decode cX6_fitsThings 104 = .ok (.goto 4, 3) := by decide +kernel
theorem dX6_fitsThings_107 : decode cX6_fitsThings 107 = .ok (.iconst 0, 1) := by decide +kernel
theorem dX6_fitsThings_108 : decode cX6_fitsThings 108 = .ok (.ireturn, 1) := by decide +kernel
set_option maxRecDepth 20000 in
theorem ggX6_fitsBehind_J0_indexOf_0f7a4 : GoodIn wsX6_fitsBehind wsJ0_indexOf_0f7a4 := goodIn_r _ [5, 6, 7, 8, 4, 9, 10, 11, 12, 13, 14, 15, 16, 17, 18, 19, 20, 21, 22, 23, 24, 25, 26, 27, 28, 29, 30, 31, 32, 33, 34, 35, 36, 37, 38, 39, 40, 41, 42, 43, 44, 45, 46, 47, 48, 49, 50, 51, 52, 53, 54, 55, 56, 57, 58, 59, 60, 61, 62, 63, 64, 65, 66, 67, 68, 69, 70, 71, 72, 73, 74, 75, 76, 77, 78, 79, 80, 81, 82, 83, 84, 85, 86, 87, 88, 89] (by decide +kernel) (by decide +kernel)
set_option maxRecDepth 20000 in
theorem gX6_fitsBehind_J0_indexOf_0f7a4 : GoodIn wsX6_fitsBehind (wsV RX6 40 RJ0 yJ0_indexOf_0f7a4 wsJ0_indexOf_0f7a4) := goodIn_app (goodIn_of _ (by decide +kernel)) ggX6_fitsBehind_J0_indexOf_0f7a4
theorem dX6_fitsBehind_0 : decode cX6_fitsBehind 0 = .ok (.iload_n 0, 1) := by decide +kernel
theorem dX6_fitsBehind_1 : decode cX6_fitsBehind 1 = .ok (.iconst 2, 1) := by decide +kernel
theorem dX6_fitsBehind_2 : decode cX6_fitsBehind 2 = .ok (.if_icmp .gt 17, 3) := by decide +kernel
theorem dX6_fitsBehind_5 : decode cX6_fitsBehind 5 = .ok (.ldc 45, 2) := by decide +kernel
theorem dX6_fitsBehind_7 : decode cX6_fitsBehind 7 = .ok (.iload_n 1, 1) := by decide +kernel
theorem dX6_fitsBehind_8 : decode cX6_fitsBehind 8 = .ok (.i2c, 1) := by decide +kernel
theorem dX6_fitsBehind_9 : decode cX6_fitsBehind 9 = .ok (.invokevirtual 40, 3) := by decide +kernel
theorem dX6_fitsBehind_12 : decode cX6_fitsBehind 12 = .ok (.ifCond .lt 7, 3) := by decide +kernel
theorem dX6_fitsBehind_15 : decode cX6_fitsBehind 15 = .ok (.iconst 1, 1) := by decide +kernel
theorem dX6_fitsBehind_16 : decode cX6_fitsBehind 16 = .ok (.goto 4, 3) := by decide +kernel
theorem dX6_fitsBehind_19 : decode cX6_fitsBehind 19 = .ok (.iconst 0, 1) := by decide +kernel
theorem dX6_fitsBehind_20 : decode cX6_fitsBehind 20 = .ok (.ireturn, 1) := by decide +kernel
set_option maxRecDepth 20000 in
theorem ggX6_isHall_X6_codeAt : GoodIn wsX6_isHall wsX6_codeAt := goodIn_r _ [6, 1, 7, 8, 9, 10, 110, 111] (by decide +kernel) (by decide +kernel)
set_option maxRecDepth 20000 in
theorem gX6_isHall_X6_codeAt : GoodIn wsX6_isHall (wsV RX6 27 RX6 yX6_codeAt wsX6_codeAt) := goodIn_app (goodIn_of _ (by decide +kernel)) ggX6_isHall_X6_codeAt
set_option maxRecDepth 20000 in
theorem ggX6_isHall_X6_faultPlace : GoodIn wsX6_isHall wsX6_faultPlace := goodIn_r _ [14, 1, 2, 3, 4, 5, 6, 7, 8, 9, 10, 15, 16, 17, 18, 19, 20, 21, 22, 23, 24, 25, 26, 27, 28, 29, 30, 31, 32, 33, 34, 35, 36, 37, 38, 39, 40, 41, 42, 43, 44, 45, 46, 47, 48, 49, 50, 51, 52, 53, 54, 55, 56, 57, 58, 59, 60, 61, 62, 63, 64, 65, 66, 67, 68, 69, 70, 71, 72, 73, 74, 75, 76, 77, 78, 79, 80, 81, 82, 83, 84, 85, 86, 87, 88, 89, 90, 91, 92, 93, 94, 95, 96, 97, 98, 99, 100, 101, 102, 103, 104, 105, 106, 107, 108, 109, 110, 111] (by decide +kernel) (by decide +kernel)
set_option maxRecDepth 20000 in
theorem gX6_isHall_X6_faultPlace : GoodIn wsX6_isHall (wsV RX6 47 RX6 yX6_faultPlace wsX6_faultPlace) := goodIn_app (goodIn_of _ (by decide +kernel)) ggX6_isHall_X6_faultPlace
theorem dX6_isHall_0 : decode cX6_isHall 0 = .ok (.aload_n 0, 1) := by decide +kernel
theorem dX6_isHall_1 : decode cX6_isHall 1 = .ok (.aload_n 0, 1) := by decide +kernel
theorem dX6_isHall_2 : decode cX6_isHall 2 = .ok (.getfield 15, 3) := by decide +kernel
theorem dX6_isHall_5 : decode cX6_isHall 5 = .ok (.iconst 3, 1) := by decide +kernel
theorem dX6_isHall_6 : decode cX6_isHall 6 = .ok (.isub, 1) := by decide +kernel
theorem dX6_isHall_7 : decode cX6_isHall 7 = .ok (.invokevirtual 27, 3) := by decide +kernel
theorem dX6_isHall_10 : decode cX6_isHall 10 = .ok (.bipush 59, 2) := by decide +kernel
theorem dX6_isHall_12 : decode cX6_isHall 12 = .ok (.if_icmp .ne 18, 3) := by decide +kernel
theorem dX6_isHall_15 : decode cX6_isHall 15 = .ok (.aload_n 0, 1) := by decide +kernel
theorem dX6_isHall_16 : decode cX6_isHall 16 = .ok (.invokevirtual 47, 3) := by decide +kernel
theorem dX6_isHall_19 : decode cX6_isHall 19 = .ok (.aload_n 0, 1) := by decide +kernel
theorem dX6_isHall_20 : decode cX6_isHall 20 = .ok (.getfield 15, 3) := by decide +kernel
theorem dX6_isHall_23 : decode cX6_isHall 23 = .ok (.if_icmp .ne 7, 3) := by decide +kernel
theorem dX6_isHall_26 : decode cX6_isHall 26 = .ok (.iconst 1, 1) := by decide +kernel
theorem dX6_isHall_27 : decode cX6_isHall 27 = .ok (.goto 4, 3) := by decide +kernel
theorem dX6_isHall_30 : decode cX6_isHall 30 = .ok (.iconst 0, 1) := by decide +kernel
theorem dX6_isHall_31 : decode cX6_isHall 31 = .ok (.ireturn, 1) := by decide +kernel
theorem dX6_hallThings_0 : decode cX6_hallThings 0 = .ok (.aload_n 0, 1) := by decide +kernel
theorem dX6_hallThings_1 : decode cX6_hallThings 1 = .ok (.getfield 15, 3) := by decide +kernel
theorem dX6_hallThings_4 : decode cX6_hallThings 4 = .ok (.iconst 2, 1) := by decide +kernel
theorem dX6_hallThings_5 : decode cX6_hallThings 5 = .ok (.isub, 1) := by decide +kernel
theorem dX6_hallThings_6 : decode cX6_hallThings 6 = .ok (.iconst 3, 1) := by decide +kernel
theorem dX6_hallThings_7 : decode cX6_hallThings 7 = .ok (.idiv, 1) := by decide +kernel
theorem dX6_hallThings_8 : decode cX6_hallThings 8 = .ok (.ireturn, 1) := by decide +kernel
set_option maxRecDepth 20000 in
theorem ggX6_hallSort_X6_codeAt : GoodIn wsX6_hallSort wsX6_codeAt := goodIn_r _ [5, 6, 7, 8, 9, 10, 100, 101] (by decide +kernel) (by decide +kernel)
set_option maxRecDepth 20000 in
theorem gX6_hallSort_X6_codeAt : GoodIn wsX6_hallSort (wsV RX6 27 RX6 yX6_codeAt wsX6_codeAt) := goodIn_app (goodIn_of _ (by decide +kernel)) ggX6_hallSort_X6_codeAt
set_option maxRecDepth 20000 in
theorem ggX6_hallSort_J0_indexOf_0f7a4 : GoodIn wsX6_hallSort wsJ0_indexOf_0f7a4 := goodIn_r _ [15, 16, 17, 18, 14, 19, 20, 21, 22, 23, 24, 25, 26, 27, 28, 29, 30, 31, 32, 33, 34, 35, 36, 37, 38, 39, 40, 41, 42, 43, 44, 45, 46, 47, 48, 49, 50, 51, 52, 53, 54, 55, 56, 57, 58, 59, 60, 61, 62, 63, 64, 65, 66, 67, 68, 69, 70, 71, 72, 73, 74, 75, 76, 77, 78, 79, 80, 81, 82, 83, 84, 85, 86, 87, 88, 89, 90, 91, 92, 93, 94, 95, 96, 97, 98, 99] (by decide +kernel) (by decide +kernel)
set_option maxRecDepth 20000 in
theorem gX6_hallSort_J0_indexOf_0f7a4 : GoodIn wsX6_hallSort (wsV RX6 40 RJ0 yJ0_indexOf_0f7a4 wsJ0_indexOf_0f7a4) := goodIn_app (goodIn_of _ (by decide +kernel)) ggX6_hallSort_J0_indexOf_0f7a4
theorem dX6_hallSort_0 : decode cX6_hallSort 0 = .ok (.ldc 38, 2) := by decide +kernel
theorem dX6_hallSort_2 : decode cX6_hallSort 2 = .ok (.aload_n 0, 1) := by decide +kernel
theorem dX6_hallSort_3 : decode cX6_hallSort 3 = .ok (.iconst 3, 1) := by decide +kernel
theorem dX6_hallSort_4 : decode cX6_hallSort 4 = .ok (.iload_n 1, 1) := by decide +kernel
theorem dX6_hallSort_5 : decode cX6_hallSort 5 = .ok (.imul, 1) := by decide +kernel
theorem dX6_hallSort_6 : decode cX6_hallSort 6 = .ok (.invokevirtual 27, 3) := by decide +kernel
theorem dX6_hallSort_9 : decode cX6_hallSort 9 = .ok (.i2c, 1) := by decide +kernel
theorem dX6_hallSort_10 : decode cX6_hallSort 10 = .ok (.invokevirtual 40, 3) := by decide +kernel
theorem dX6_hallSort_13 : decode cX6_hallSort 13 = .ok (.ireturn, 1) := by decide +kernel
set_option maxRecDepth 20000 in
theorem ggX6_hallWorth_X6_codeAt : GoodIn wsX6_hallWorth wsX6_codeAt := goodIn_r _ [5, 6, 7, 8, 9, 10, 11, 12] (by decide +kernel) (by decide +kernel)
set_option maxRecDepth 20000 in
theorem gX6_hallWorth_X6_codeAt : GoodIn wsX6_hallWorth (wsV RX6 27 RX6 yX6_codeAt wsX6_codeAt) := goodIn_app (goodIn_of _ (by decide +kernel)) ggX6_hallWorth_X6_codeAt
theorem dX6_hallWorth_0 : decode cX6_hallWorth 0 = .ok (.aload_n 0, 1) := by decide +kernel
theorem dX6_hallWorth_1 : decode cX6_hallWorth 1 = .ok (.iconst 3, 1) := by decide +kernel
theorem dX6_hallWorth_2 : decode cX6_hallWorth 2 = .ok (.iload_n 1, 1) := by decide +kernel
theorem dX6_hallWorth_3 : decode cX6_hallWorth 3 = .ok (.imul, 1) := by decide +kernel
theorem dX6_hallWorth_4 : decode cX6_hallWorth 4 = .ok (.iconst 1, 1) := by decide +kernel
theorem dX6_hallWorth_5 : decode cX6_hallWorth 5 = .ok (.iadd, 1) := by decide +kernel
theorem dX6_hallWorth_6 : decode cX6_hallWorth 6 = .ok (.invokevirtual 27, 3) := by decide +kernel
theorem dX6_hallWorth_9 : decode cX6_hallWorth 9 = .ok (.bipush 48, 2) := by decide +kernel
theorem dX6_hallWorth_11 : decode cX6_hallWorth 11 = .ok (.isub, 1) := by decide +kernel
theorem dX6_hallWorth_12 : decode cX6_hallWorth 12 = .ok (.ireturn, 1) := by decide +kernel
set_option maxRecDepth 20000 in
theorem ggX6_kingKindCode_X6_codeAt : GoodIn wsX6_kingKindCode wsX6_codeAt := goodIn_r _ [6, 1, 7, 8, 9, 10, 11, 12] (by decide +kernel) (by decide +kernel)
set_option maxRecDepth 20000 in
theorem gX6_kingKindCode_X6_codeAt : GoodIn wsX6_kingKindCode (wsV RX6 27 RX6 yX6_codeAt wsX6_codeAt) := goodIn_app (goodIn_of _ (by decide +kernel)) ggX6_kingKindCode_X6_codeAt
theorem dX6_kingKindCode_0 : decode cX6_kingKindCode 0 = .ok (.aload_n 0, 1) := by decide +kernel
theorem dX6_kingKindCode_1 : decode cX6_kingKindCode 1 = .ok (.aload_n 0, 1) := by decide +kernel
theorem dX6_kingKindCode_2 : decode cX6_kingKindCode 2 = .ok (.getfield 15, 3) := by decide +kernel
theorem dX6_kingKindCode_5 : decode cX6_kingKindCode 5 = .ok (.iconst 2, 1) := by decide +kernel
theorem dX6_kingKindCode_6 : decode cX6_kingKindCode 6 = .ok (.isub, 1) := by decide +kernel
theorem dX6_kingKindCode_7 : decode cX6_kingKindCode 7 = .ok (.invokevirtual 27, 3) := by decide +kernel
theorem dX6_kingKindCode_10 : decode cX6_kingKindCode 10 = .ok (.ireturn, 1) := by decide +kernel
set_option maxRecDepth 20000 in
theorem ggX6_cousinKindCode_X6_codeAt : GoodIn wsX6_cousinKindCode wsX6_codeAt := goodIn_r _ [6, 1, 7, 8, 9, 10, 11, 12] (by decide +kernel) (by decide +kernel)
set_option maxRecDepth 20000 in
theorem gX6_cousinKindCode_X6_codeAt : GoodIn wsX6_cousinKindCode (wsV RX6 27 RX6 yX6_codeAt wsX6_codeAt) := goodIn_app (goodIn_of _ (by decide +kernel)) ggX6_cousinKindCode_X6_codeAt
theorem dX6_cousinKindCode_0 : decode cX6_cousinKindCode 0 = .ok (.aload_n 0, 1) := by decide +kernel
theorem dX6_cousinKindCode_1 : decode cX6_cousinKindCode 1 = .ok (.aload_n 0, 1) := by decide +kernel
theorem dX6_cousinKindCode_2 : decode cX6_cousinKindCode 2 = .ok (.getfield 15, 3) := by decide +kernel
theorem dX6_cousinKindCode_5 : decode cX6_cousinKindCode 5 = .ok (.iconst 1, 1) := by decide +kernel
theorem dX6_cousinKindCode_6 : decode cX6_cousinKindCode 6 = .ok (.isub, 1) := by decide +kernel
theorem dX6_cousinKindCode_7 : decode cX6_cousinKindCode 7 = .ok (.invokevirtual 27, 3) := by decide +kernel
theorem dX6_cousinKindCode_10 : decode cX6_cousinKindCode 10 = .ok (.ireturn, 1) := by decide +kernel
set_option maxRecDepth 20000 in
theorem ggX7_init_X8_init : GoodIn wsX7_init wsX8_init := goodIn_r _ [15, 16, 2, 3, 17, 18, 19, 20, 21, 22, 29, 30, 31, 32, 33, 34] (by decide +kernel) (by decide +kernel)
set_option maxRecDepth 20000 in
theorem gX7_init_X8_init_n17 : GoodIn wsX7_init (wsX8_init) := ggX7_init_X8_init
theorem dX7_init_0 : decode cX7_init 0 = .ok (.aload_n 0, 1) := by decide +kernel
theorem dX7_init_1 : decode cX7_init 1 = .ok (.invokespecial 3, 3) := by decide +kernel
theorem dX7_init_4 : decode cX7_init 4 = .ok (.aload_n 0, 1) := by decide +kernel
theorem dX7_init_5 : decode cX7_init 5 = .ok (.bipush 6, 2) := by decide +kernel
theorem dX7_init_7 : decode cX7_init 7 = .ok (.anewarray 9, 3) := by decide +kernel
theorem dX7_init_10 : decode cX7_init 10 = .ok (.putfield 11, 3) := by decide +kernel
theorem dX7_init_13 : decode cX7_init 13 = .ok (.iconst 0, 1) := by decide +kernel
theorem dX7_init_14 : decode cX7_init 14 = .ok (.istore_n 1, 1) := by decide +kernel
theorem dX7_init_15 : decode cX7_init 15 = .ok (.iload_n 1, 1) := by decide +kernel
theorem dX7_init_16 : decode cX7_init 16 = .ok (.aload_n 0, 1) := by decide +kernel
theorem dX7_init_17 : decode cX7_init 17 = .ok (.getfield 11, 3) := by decide +kernel
theorem dX7_init_20 : decode cX7_init 20 = .ok (.arraylength, 1) := by decide +kernel
theorem dX7_init_21 : decode cX7_init 21 = .ok (.if_icmp .ge 22, 3) := by decide +kernel
theorem dX7_init_24 : decode cX7_init 24 = .ok (.aload_n 0, 1) := by decide +kernel
theorem dX7_init_25 : decode cX7_init 25 = .ok (.getfield 11, 3) := by decide +kernel
theorem dX7_init_28 : decode cX7_init 28 = .ok (.iload_n 1, 1) := by decide +kernel
theorem dX7_init_29 : decode cX7_init 29 = .ok (.new 9, 3) := by decide +kernel
theorem dX7_init_32 : decode cX7_init 32 = .ok (.dup, 1) := by decide +kernel
theorem dX7_init_33 : decode cX7_init 33 = .ok (.invokespecial 17, 3) := by decide +kernel
theorem dX7_init_36 : decode cX7_init 36 = .ok (.aastore, 1) := by decide +kernel
theorem dX7_init_37 : decode cX7_init 37 = .ok (.iinc 1 1, 3) := by decide +kernel
theorem dX7_init_40 : decode cX7_init 40 = .ok (.goto (-25), 3) := by decide +kernel
theorem dX7_init_43 : decode cX7_init 43 = .ok (.aload_n 0, 1) := by decide +kernel
theorem dX7_init_44 : decode cX7_init 44 = .ok (.bipush 8, 2) := by decide +kernel
theorem dX7_init_46 : decode cX7_init 46 = .ok (.newarray .int, 2) := by decide +kernel
theorem dX7_init_48 : decode cX7_init 48 = .ok (.putfield 18, 3) := by decide +kernel
theorem dX7_init_51 : decode cX7_init 51 = .ok (.aload_n 0, 1) := by decide +kernel
theorem dX7_init_52 : decode cX7_init 52 = .ok (.iconst 0, 1) := by decide +kernel
theorem dX7_init_53 : decode cX7_init 53 = .ok (.putfield 22, 3) := by decide +kernel
theorem dX7_init_56 : decode cX7_init 56 = .ok (.aload_n 0, 1) := by decide +kernel
theorem dX7_init_57 : decode cX7_init 57 = .ok (.iconst 0, 1) := by decide +kernel
theorem dX7_init_58 : decode cX7_init 58 = .ok (.putfield 26, 3) := by decide +kernel
theorem dX7_init_61 : decode cX7_init 61 = .ok (.aload_n 0, 1) := by decide +kernel
theorem dX7_init_62 : decode cX7_init 62 = .ok (.iconst 0, 1) := by decide +kernel
theorem dX7_init_63 : decode cX7_init 63 = .ok (.putfield 29, 3) := by decide +kernel
theorem dX7_init_66 : decode cX7_init 66 = .ok (.aload_n 0, 1) := by decide +kernel
theorem dX7_init_67 : decode cX7_init 67 = .ok (.iconst 0, 1) := by decide +kernel
theorem dX7_init_68 : decode cX7_init 68 = .ok (.putfield 32, 3) := by decide +kernel
theorem dX7_init_71 : decode cX7_init 71 = .ok (.return_, 1) := by decide +kernel
set_option maxRecDepth 20000 in
theorem ggX7_begin_X6_hallThings : GoodIn wsX7_begin wsX6_hallThings := goodIn_r _ [13, 14, 131, 132] (by decide +kernel) (by decide +kernel)
set_option maxRecDepth 20000 in
theorem gX7_begin_X6_hallThings_n35 : GoodIn wsX7_begin (wsX6_hallThings) := ggX7_begin_X6_hallThings
set_option maxRecDepth 20000 in
theorem ggX7_begin_X6_hallSort : GoodIn wsX7_begin wsX6_hallSort := goodIn_r _ [17, 18, 19, 20, 11, 21, 14, 22, 23, 24, 25, 26, 27, 28, 29, 30, 31, 32, 33, 34, 35, 36, 37, 38, 39, 40, 41, 42, 43, 44, 45, 46, 47, 48, 49, 50, 51, 52, 53, 54, 55, 4, 56, 57, 3, 5, 58, 59, 60, 61, 62, 63, 64, 65, 66, 67, 68, 69, 70, 71, 72, 73, 74, 75, 76, 77, 78, 79, 80, 81, 82, 83, 84, 85, 86, 87, 88, 89, 90, 91, 92, 93, 94, 95, 96, 97, 98, 99, 100, 101, 102, 103, 104, 105, 106, 107, 108, 109, 110, 111, 131, 132] (by decide +kernel) (by decide +kernel)
set_option maxRecDepth 20000 in
theorem gX7_begin_X6_hallSort_n47 : GoodIn wsX7_begin (wsX6_hallSort) := ggX7_begin_X6_hallSort
set_option maxRecDepth 20000 in
theorem ggX7_begin_X6_hallWorth : GoodIn wsX7_begin wsX6_hallWorth := goodIn_r _ [114, 18, 19, 20, 11, 21, 14, 22, 23, 24, 25, 131, 132] (by decide +kernel) (by decide +kernel)
set_option maxRecDepth 20000 in
theorem gX7_begin_X6_hallWorth_n51 : GoodIn wsX7_begin (wsX6_hallWorth) := ggX7_begin_X6_hallWorth
set_option maxRecDepth 20000 in
theorem ggX7_begin_X8_begin : GoodIn wsX7_begin wsX8_begin := goodIn_r _ [118, 119, 120, 121, 122, 123, 124, 133, 134, 135, 136, 137, 138] (by decide +kernel) (by decide +kernel)
set_option maxRecDepth 20000 in
theorem gX7_begin_X8_begin_n54 : GoodIn wsX7_begin (wsX8_begin) := ggX7_begin_X8_begin
theorem dX7_begin_0 : decode cX7_begin 0 = .ok (.aload_n 0, 1) := by decide +kernel
theorem dX7_begin_1 : decode cX7_begin 1 = .ok (.aload_n 1, 1) := by decide +kernel
theorem dX7_begin_2 : decode cX7_begin 2 = .ok (.invokevirtual 35, 3) := by decide +kernel
theorem dX7_begin_5 : decode cX7_begin 5 = .ok (.aload_n 0, 1) := by decide +kernel
theorem dX7_begin_6 : decode cX7_begin 6 = .ok (.getfield 11, 3) := by decide +kernel
theorem dX7_begin_9 : decode cX7_begin 9 = .ok (.arraylength, 1) := by decide +kernel
theorem dX7_begin_10 : decode cX7_begin 10 = .ok (.invokestatic 41, 3) := by decide +kernel
theorem dX7_begin_13 : decode cX7_begin 13 = .ok (.putfield 22, 3) := by decide +kernel
theorem dX7_begin_16 : decode cX7_begin 16 = .ok (.iconst 0, 1) := by decide +kernel
theorem dX7_begin_17 : decode cX7_begin 17 = .ok (.istore_n 2, 1) := by decide +kernel
theorem dX7_begin_18 : decode cX7_begin 18 = .ok (.iload_n 2, 1) := by decide +kernel
theorem dX7_begin_19 : decode cX7_begin 19 = .ok (.aload_n 0, 1) := by decide +kernel
theorem dX7_begin_20 : decode cX7_begin 20 = .ok (.getfield 22, 3) := by decide +kernel
theorem dX7_begin_23 : decode cX7_begin 23 = .ok (.if_icmp .ge 28, 3) := by decide +kernel
theorem dX7_begin_26 : decode cX7_begin 26 = .ok (.aload_n 0, 1) := by decide +kernel
theorem dX7_begin_27 : decode cX7_begin 27 = .ok (.getfield 11, 3) := by decide +kernel
theorem dX7_begin_30 : decode cX7_begin 30 = .ok (.iload_n 2, 1) := by decide +kernel
theorem dX7_begin_31 : decode cX7_begin 31 = .ok (.aaload, 1) := by decide +kernel
theorem dX7_begin_32 : decode cX7_begin 32 = .ok (.aload_n 1, 1) := by decide +kernel
theorem dX7_begin_33 : decode cX7_begin 33 = .ok (.iload_n 2, 1) := by decide +kernel
theorem dX7_begin_34 : decode cX7_begin 34 = .ok (.invokevirtual 47, 3) := by decide +kernel
theorem dX7_begin_37 : decode cX7_begin 37 = .ok (.aload_n 1, 1) := by decide +kernel
theorem dX7_begin_38 : decode cX7_begin 38 = .ok (.iload_n 2, 1) := by decide +kernel
theorem dX7_begin_39 : decode cX7_begin 39 = .ok (.invokevirtual 51, 3) := by decide +kernel
theorem dX7_begin_42 : decode cX7_begin 42 = .ok (.invokevirtual 54, 3) := by decide +kernel
theorem dX7_begin_45 : decode cX7_begin 45 = .ok (.iinc 2 1, 3) := by decide +kernel
theorem dX7_begin_48 : decode cX7_begin 48 = .ok (.goto (-30), 3) := by decide +kernel
theorem dX7_begin_51 : decode cX7_begin 51 = .ok (.aload_n 0, 1) := by decide +kernel
theorem dX7_begin_52 : decode cX7_begin 52 = .ok (.iconst 0, 1) := by decide +kernel
theorem dX7_begin_53 : decode cX7_begin 53 = .ok (.putfield 26, 3) := by decide +kernel
theorem dX7_begin_56 : decode cX7_begin 56 = .ok (.aload_n 0, 1) := by decide +kernel
theorem dX7_begin_57 : decode cX7_begin 57 = .ok (.iconst 0, 1) := by decide +kernel
theorem dX7_begin_58 : decode cX7_begin 58 = .ok (.putfield 29, 3) := by decide +kernel
theorem dX7_begin_61 : decode cX7_begin 61 = .ok (.aload_n 0, 1) := by decide +kernel
theorem dX7_begin_62 : decode cX7_begin 62 = .ok (.iconst 0, 1) := by decide +kernel
theorem dX7_begin_63 : decode cX7_begin 63 = .ok (.putfield 32, 3) := by decide +kernel
theorem dX7_begin_66 : decode cX7_begin 66 = .ok (.return_, 1) := by decide +kernel
set_option maxRecDepth 20000 in
theorem ggX7_copy_X8_copy : GoodIn wsX7_copy wsX8_copy := goodIn_r _ [10, 11, 12, 13, 14, 15, 16, 23, 24, 25, 26, 27, 28] (by decide +kernel) (by decide +kernel)
set_option maxRecDepth 20000 in
theorem gX7_copy_X8_copy_n58 : GoodIn wsX7_copy (wsX8_copy) := ggX7_copy_X8_copy
theorem dX7_copy_0 : decode cX7_copy 0 = .ok (.iconst 0, 1) := by decide +kernel
theorem dX7_copy_1 : decode cX7_copy 1 = .ok (.istore_n 2, 1) := by decide +kernel
theorem dX7_copy_2 : decode cX7_copy 2 = .ok (.iload_n 2, 1) := by decide +kernel
theorem dX7_copy_3 : decode cX7_copy 3 = .ok (.aload_n 0, 1) := by decide +kernel
theorem dX7_copy_4 : decode cX7_copy 4 = .ok (.getfield 11, 3) := by decide +kernel
theorem dX7_copy_7 : decode cX7_copy 7 = .ok (.arraylength, 1) := by decide +kernel
theorem dX7_copy_8 : decode cX7_copy 8 = .ok (.if_icmp .ge 24, 3) := by decide +kernel
theorem dX7_copy_11 : decode cX7_copy 11 = .ok (.aload_n 0, 1) := by decide +kernel
theorem dX7_copy_12 : decode cX7_copy 12 = .ok (.getfield 11, 3) := by decide +kernel
theorem dX7_copy_15 : decode cX7_copy 15 = .ok (.iload_n 2, 1) := by decide +kernel
theorem dX7_copy_16 : decode cX7_copy 16 = .ok (.aaload, 1) := by decide +kernel
theorem dX7_copy_17 : decode cX7_copy 17 = .ok (.aload_n 1, 1) := by decide +kernel
theorem dX7_copy_18 : decode cX7_copy 18 = .ok (.getfield 11, 3) := by decide +kernel
theorem dX7_copy_21 : decode cX7_copy 21 = .ok (.iload_n 2, 1) := by decide +kernel
theorem dX7_copy_22 : decode cX7_copy 22 = .ok (.aaload, 1) := by decide +kernel
theorem dX7_copy_23 : decode cX7_copy 23 = .ok (.invokevirtual 58, 3) := by decide +kernel
theorem dX7_copy_26 : decode cX7_copy 26 = .ok (.iinc 2 1, 3) := by decide +kernel
theorem dX7_copy_29 : decode cX7_copy 29 = .ok (.goto (-27), 3) := by decide +kernel
theorem dX7_copy_32 : decode cX7_copy 32 = .ok (.iconst 0, 1) := by decide +kernel
theorem dX7_copy_33 : decode cX7_copy 33 = .ok (.istore_n 2, 1) := by decide +kernel
theorem dX7_copy_34 : decode cX7_copy 34 = .ok (.iload_n 2, 1) := by decide +kernel
theorem dX7_copy_35 : decode cX7_copy 35 = .ok (.aload_n 0, 1) := by decide +kernel
theorem dX7_copy_36 : decode cX7_copy 36 = .ok (.getfield 18, 3) := by decide +kernel
theorem dX7_copy_39 : decode cX7_copy 39 = .ok (.arraylength, 1) := by decide +kernel
theorem dX7_copy_40 : decode cX7_copy 40 = .ok (.if_icmp .ge 21, 3) := by decide +kernel
theorem dX7_copy_43 : decode cX7_copy 43 = .ok (.aload_n 0, 1) := by decide +kernel
theorem dX7_copy_44 : decode cX7_copy 44 = .ok (.getfield 18, 3) := by decide +kernel
theorem dX7_copy_47 : decode cX7_copy 47 = .ok (.iload_n 2, 1) := by decide +kernel
theorem dX7_copy_48 : decode cX7_copy 48 = .ok (.aload_n 1, 1) := by decide +kernel
theorem dX7_copy_49 : decode cX7_copy 49 = .ok (.getfield 18, 3) := by decide +kernel
theorem dX7_copy_52 : decode cX7_copy 52 = .ok (.iload_n 2, 1) := by decide +kernel
theorem dX7_copy_53 : decode cX7_copy 53 = .ok (.iaload, 1) := by decide +kernel
theorem dX7_copy_54 : decode cX7_copy 54 = .ok (.iastore, 1) := by decide +kernel
theorem dX7_copy_55 : decode cX7_copy 55 = .ok (.iinc 2 1, 3) := by decide +kernel
theorem dX7_copy_58 : decode cX7_copy 58 = .ok (.goto (-24), 3) := by decide +kernel
theorem dX7_copy_61 : decode cX7_copy 61 = .ok (.aload_n 0, 1) := by decide +kernel
theorem dX7_copy_62 : decode cX7_copy 62 = .ok (.aload_n 1, 1) := by decide +kernel
theorem dX7_copy_63 : decode cX7_copy 63 = .ok (.getfield 22, 3) := by decide +kernel
theorem dX7_copy_66 : decode cX7_copy 66 = .ok (.putfield 22, 3) := by decide +kernel
theorem dX7_copy_69 : decode cX7_copy 69 = .ok (.aload_n 0, 1) := by decide +kernel
theorem dX7_copy_70 : decode cX7_copy 70 = .ok (.aload_n 1, 1) := by decide +kernel
theorem dX7_copy_71 : decode cX7_copy 71 = .ok (.getfield 26, 3) := by decide +kernel
theorem dX7_copy_74 : decode cX7_copy 74 = .ok (.putfield 26, 3) := by decide +kernel
theorem dX7_copy_77 : decode cX7_copy 77 = .ok (.aload_n 0, 1) := by decide +kernel
theorem dX7_copy_78 : decode cX7_copy 78 = .ok (.aload_n 1, 1) := by decide +kernel
theorem dX7_copy_79 : decode cX7_copy 79 = .ok (.getfield 29, 3) := by decide +kernel
theorem dX7_copy_82 : decode cX7_copy 82 = .ok (.putfield 29, 3) := by decide +kernel
theorem dX7_copy_85 : decode cX7_copy 85 = .ok (.aload_n 0, 1) := by decide +kernel
theorem dX7_copy_86 : decode cX7_copy 86 = .ok (.aload_n 1, 1) := by decide +kernel
theorem dX7_copy_87 : decode cX7_copy 87 = .ok (.getfield 32, 3) := by decide +kernel
theorem dX7_copy_90 : decode cX7_copy 90 = .ok (.putfield 32, 3) := by decide +kernel
theorem dX7_copy_93 : decode cX7_copy 93 = .ok (.return_, 1) := by decide +kernel
theorem dX7_hasHall_0 : decode cX7_hasHall 0 = .ok (.aload_n 0, 1) := by decide +kernel
theorem dX7_hasHall_1 : decode cX7_hasHall 1 = .ok (.getfield 22, 3) := by decide +kernel
theorem dX7_hasHall_4 : decode cX7_hasHall 4 = .ok (.ifCond .le 7, 3) := by decide +kernel
theorem dX7_hasHall_7 : decode cX7_hasHall 7 = .ok (.iconst 1, 1) := by decide +kernel
theorem dX7_hasHall_8 : decode cX7_hasHall 8 = .ok (.goto 4, 3) := by decide +kernel
theorem dX7_hasHall_11 : decode cX7_hasHall 11 = .ok (.iconst 0, 1) := by decide +kernel
theorem dX7_hasHall_12 : decode cX7_hasHall 12 = .ok (.ireturn, 1) := by decide +kernel
set_option maxRecDepth 20000 in
theorem ggX7_has_X10_isBelow : GoodIn wsX7_has wsX10_isBelow := goodIn_r _ [4] (by decide +kernel) (by decide +kernel)
set_option maxRecDepth 20000 in
theorem gX7_has_X10_isBelow_n62 : GoodIn wsX7_has (wsX10_isBelow) := ggX7_has_X10_isBelow
theorem dX7_has_0 : decode cX7_has 0 = .ok (.iload_n 1, 1) := by decide +kernel
theorem dX7_has_1 : decode cX7_has 1 = .ok (.aload_n 0, 1) := by decide +kernel
theorem dX7_has_2 : decode cX7_has 2 = .ok (.getfield 22, 3) := by decide +kernel
theorem dX7_has_5 : decode cX7_has 5 = .ok (.invokestatic 62, 3) := by decide +kernel
theorem dX7_has_8 : decode cX7_has 8 = .ok (.ireturn, 1) := by decide +kernel
set_option maxRecDepth 20000 in
theorem ggX7_mayStake_X7_has : GoodIn wsX7_mayStake wsX7_has := goodIn_r _ [6, 7, 8, 9, 10, 11, 12, 13, 14, 15, 16] (by decide +kernel) (by decide +kernel)
set_option maxRecDepth 20000 in
theorem gX7_mayStake_X7_has : GoodIn wsX7_mayStake (wsV RX7 66 RX7 yX7_has wsX7_has) := goodIn_app (goodIn_of _ (by decide +kernel)) ggX7_mayStake_X7_has
theorem dX7_mayStake_0 : decode cX7_mayStake 0 = .ok (.aload_n 0, 1) := by decide +kernel
theorem dX7_mayStake_1 : decode cX7_mayStake 1 = .ok (.iload_n 1, 1) := by decide +kernel
theorem dX7_mayStake_2 : decode cX7_mayStake 2 = .ok (.invokevirtual 66, 3) := by decide +kernel
theorem dX7_mayStake_5 : decode cX7_mayStake 5 = .ok (.ifCond .eq 15, 3) := by decide +kernel
theorem dX7_mayStake_8 : decode cX7_mayStake 8 = .ok (.aload_n 0, 1) := by decide +kernel
theorem dX7_mayStake_9 : decode cX7_mayStake 9 = .ok (.getfield 11, 3) := by decide +kernel
theorem dX7_mayStake_12 : decode cX7_mayStake 12 = .ok (.iload_n 1, 1) := by decide +kernel
theorem dX7_mayStake_13 : decode cX7_mayStake 13 = .ok (.aaload, 1) := by decide +kernel
theorem dX7_mayStake_14 : decode cX7_mayStake 14 = .ok (.getfield 70, 3) := by decide +kernel
theorem dX7_mayStake_17 : decode cX7_mayStake 17 = .ok (.ifCond .ne 5, 3) := by decide +kernel
theorem dX7_mayStake_20 : decode cX7_mayStake 20 = .ok (.iconst 0, 1) := by decide +kernel
theorem dX7_mayStake_21 : decode cX7_mayStake 21 = .ok (.ireturn, 1) := by decide +kernel
theorem dX7_mayStake_22 : decode cX7_mayStake 22 = .ok (.aload_n 0, 1) := by decide +kernel
theorem dX7_mayStake_23 : decode cX7_mayStake 23 = .ok (.iload_n 2, 1) := by decide +kernel
theorem dX7_mayStake_24 : decode cX7_mayStake 24 = .ok (.invokevirtual 66, 3) := by decide +kernel
theorem dX7_mayStake_27 : decode cX7_mayStake 27 = .ok (.ifCond .ne 14, 3) := by decide +kernel
theorem dX7_mayStake_30 : decode cX7_mayStake 30 = .ok (.iload_n 2, 1) := by decide +kernel
theorem dX7_mayStake_31 : decode cX7_mayStake 31 = .ok (.iconst (-1), 1) := by decide +kernel
theorem dX7_mayStake_32 : decode cX7_mayStake 32 = .ok (.if_icmp .ne 7, 3) := by decide +kernel
theorem dX7_mayStake_35 : decode cX7_mayStake 35 = .ok (.iconst 1, 1) := by decide +kernel
theorem dX7_mayStake_36 : decode cX7_mayStake 36 = .ok (.goto 4, 3) := by decide +kernel
theorem dX7_mayStake_39 : decode cX7_mayStake 39 = .ok (.iconst 0, 1) := by decide +kernel
theorem dX7_mayStake_40 : decode cX7_mayStake 40 = .ok (.ireturn, 1) := by decide +kernel
theorem dX7_mayStake_41 : decode cX7_mayStake 41 = .ok (.aload_n 0, 1) := by decide +kernel
theorem dX7_mayStake_42 : decode cX7_mayStake 42 = .ok (.getfield 11, 3) := by decide +kernel
theorem dX7_mayStake_45 : decode cX7_mayStake 45 = .ok (.iload_n 2, 1) := by decide +kernel
theorem dX7_mayStake_46 : decode cX7_mayStake 46 = .ok (.aaload, 1) := by decide +kernel
theorem dX7_mayStake_47 : decode cX7_mayStake 47 = .ok (.getfield 70, 3) := by decide +kernel
theorem dX7_mayStake_50 : decode cX7_mayStake 50 = .ok (.ifCond .ne 28, 3) := by decide +kernel
theorem dX7_mayStake_53 : decode cX7_mayStake 53 = .ok (.aload_n 0, 1) := by decide +kernel
theorem dX7_mayStake_54 : decode cX7_mayStake 54 = .ok (.getfield 11, 3) := by decide +kernel
theorem dX7_mayStake_57 : decode cX7_mayStake 57 = .ok (.iload_n 2, 1) := by decide +kernel
theorem dX7_mayStake_58 : decode cX7_mayStake 58 = .ok (.aaload, 1) := by decide +kernel
theorem dX7_mayStake_59 : decode cX7_mayStake 59 = .ok (.getfield 74, 3) := by decide +kernel
theorem dX7_mayStake_62 : decode cX7_mayStake 62 = .ok (.aload_n 0, 1) := by decide +kernel
theorem dX7_mayStake_63 : decode cX7_mayStake 63 = .ok (.getfield 11, 3) := by decide +kernel
theorem dX7_mayStake_66 : decode cX7_mayStake 66 = .ok (.iload_n 1, 1) := by decide +kernel
theorem dX7_mayStake_67 : decode cX7_mayStake 67 = .ok (.aaload, 1) := by decide +kernel
theorem dX7_mayStake_68 : decode cX7_mayStake 68 = .ok (.getfield 74, 3) := by decide +kernel
theorem dX7_mayStake_71 : decode cX7_mayStake 71 = .ok (.if_icmp .gt 7, 3) := by decide +kernel
theorem dX7_mayStake_74 : decode cX7_mayStake 74 = .ok (.iconst 1, 1) := by decide +kernel
theorem dX7_mayStake_75 : decode cX7_mayStake 75 = .ok (.goto 4, 3) := by decide +kernel
theorem dX7_mayStake_78 : decode cX7_mayStake 78 = .ok (.iconst 0, 1) := by decide +kernel
theorem dX7_mayStake_79 : decode cX7_mayStake 79 = .ok (.ireturn, 1) := by decide +kernel
set_option maxRecDepth 20000 in
theorem ggX7_settle_X7_mayStake : GoodIn wsX7_settle wsX7_mayStake := goodIn_r _ [8, 2, 9, 10, 11, 7, 12, 13, 14, 15, 16, 32, 33, 34, 35, 36, 37, 38, 39, 40, 41, 42, 43] (by decide +kernel) (by decide +kernel)
set_option maxRecDepth 20000 in
theorem gX7_settle_X7_mayStake : GoodIn wsX7_settle (wsV RX7 77 RX7 yX7_mayStake wsX7_mayStake) := goodIn_app (goodIn_of _ (by decide +kernel)) ggX7_settle_X7_mayStake
set_option maxRecDepth 20000 in
theorem ggX7_settle_X7_isSelfKings : GoodIn wsX7_settle wsX7_isSelfKings := goodIn_r _ [20, 13, 2, 32, 33, 34, 35, 36, 37, 38, 39, 40, 41, 42, 43] (by decide +kernel) (by decide +kernel)
set_option maxRecDepth 20000 in
theorem gX7_settle_X7_isSelfKings : GoodIn wsX7_settle (wsV RX7 80 RX7 yX7_isSelfKings wsX7_isSelfKings) := goodIn_app (goodIn_of _ (by decide +kernel)) ggX7_settle_X7_isSelfKings
set_option maxRecDepth 20000 in
theorem ggX7_settle_X8_lose : GoodIn wsX7_settle wsX8_lose := goodIn_r _ [24, 25, 26, 27, 28, 38, 39, 40, 41, 42, 43] (by decide +kernel) (by decide +kernel)
set_option maxRecDepth 20000 in
theorem gX7_settle_X8_lose_n84 : GoodIn wsX7_settle (wsX8_lose) := ggX7_settle_X8_lose
set_option maxRecDepth 20000 in
theorem ggX7_settle_X7_has : GoodIn wsX7_settle wsX7_has := goodIn_r _ [12, 13, 14, 15, 16, 32, 33, 34, 35, 36, 37] (by decide +kernel) (by decide +kernel)
set_option maxRecDepth 20000 in
theorem gX7_settle_X7_has : GoodIn wsX7_settle (wsV RX7 66 RX7 yX7_has wsX7_has) := goodIn_app (goodIn_of _ (by decide +kernel)) ggX7_settle_X7_has
set_option maxRecDepth 20000 in
theorem ggX7_settle_X8_comeBack : GoodIn wsX7_settle wsX8_comeBack := goodIn_r _ [31, 25, 28, 38, 39, 40, 41, 42, 43] (by decide +kernel) (by decide +kernel)
set_option maxRecDepth 20000 in
theorem gX7_settle_X8_comeBack_n88 : GoodIn wsX7_settle (wsX8_comeBack) := ggX7_settle_X8_comeBack
theorem dX7_settle_0 : decode cX7_settle 0 = .ok (.aload_n 0, 1) := by decide +kernel
theorem dX7_settle_1 : decode cX7_settle 1 = .ok (.iload_n 1, 1) := by decide +kernel
theorem dX7_settle_2 : decode cX7_settle 2 = .ok (.iload_n 2, 1) := by decide +kernel
theorem dX7_settle_3 : decode cX7_settle 3 = .ok (.invokevirtual 77, 3) := by decide +kernel
theorem dX7_settle_6 : decode cX7_settle 6 = .ok (.ifCond .ne 5, 3) := by decide +kernel
theorem dX7_settle_9 : decode cX7_settle 9 = .ok (.iconst (-1), 1) := by decide +kernel
theorem dX7_settle_10 : decode cX7_settle 10 = .ok (.ireturn, 1) := by decide +kernel
theorem dX7_settle_11 : decode cX7_settle 11 = .ok (.aload_n 0, 1) := by decide +kernel
theorem dX7_settle_12 : decode cX7_settle 12 = .ok (.dup, 1) := by decide +kernel
theorem dX7_settle_13 : decode cX7_settle 13 = .ok (.getfield 29, 3) := by decide +kernel
theorem dX7_settle_16 : decode cX7_settle 16 = .ok (.iconst 1, 1) := by decide +kernel
theorem dX7_settle_17 : decode cX7_settle 17 = .ok (.iadd, 1) := by decide +kernel
theorem dX7_settle_18 : decode cX7_settle 18 = .ok (.putfield 29, 3) := by decide +kernel
theorem dX7_settle_21 : decode cX7_settle 21 = .ok (.iload_n 3, 1) := by decide +kernel
theorem dX7_settle_22 : decode cX7_settle 22 = .ok (.iload 4, 2) := by decide +kernel
theorem dX7_settle_24 : decode cX7_settle 24 = .ok (.if_icmp .ne 5, 3) := by decide +kernel
theorem dX7_settle_27 : decode cX7_settle 27 = .ok (.iconst (-1), 1) := by decide +kernel
theorem dX7_settle_28 : decode cX7_settle 28 = .ok (.ireturn, 1) := by decide +kernel
theorem dX7_settle_29 : decode cX7_settle 29 = .ok (.iload_n 3, 1) := by decide +kernel
theorem dX7_settle_30 : decode cX7_settle 30 = .ok (.iload 4, 2) := by decide +kernel
theorem dX7_settle_32 : decode cX7_settle 32 = .ok (.if_icmp .ge 22, 3) := by decide +kernel
theorem dX7_settle_35 : decode cX7_settle 35 = .ok (.aload_n 0, 1) := by decide +kernel
theorem dX7_settle_36 : decode cX7_settle 36 = .ok (.getfield 11, 3) := by decide +kernel
theorem dX7_settle_39 : decode cX7_settle 39 = .ok (.iload_n 1, 1) := by decide +kernel
theorem dX7_settle_40 : decode cX7_settle 40 = .ok (.aaload, 1) := by decide +kernel
theorem dX7_settle_41 : decode cX7_settle 41 = .ok (.aload_n 0, 1) := by decide +kernel
theorem dX7_settle_42 : decode cX7_settle 42 = .ok (.getfield 29, 3) := by decide +kernel
theorem dX7_settle_45 : decode cX7_settle 45 = .ok (.aload_n 0, 1) := by decide +kernel
theorem dX7_settle_46 : decode cX7_settle 46 = .ok (.invokevirtual 80, 3) := by decide +kernel
theorem dX7_settle_49 : decode cX7_settle 49 = .ok (.invokevirtual 84, 3) := by decide +kernel
theorem dX7_settle_52 : decode cX7_settle 52 = .ok (.iconst 1, 1) := by decide +kernel
theorem dX7_settle_53 : decode cX7_settle 53 = .ok (.ireturn, 1) := by decide +kernel
theorem dX7_settle_54 : decode cX7_settle 54 = .ok (.aload_n 0, 1) := by decide +kernel
theorem dX7_settle_55 : decode cX7_settle 55 = .ok (.iload_n 2, 1) := by decide +kernel
theorem dX7_settle_56 : decode cX7_settle 56 = .ok (.invokevirtual 66, 3) := by decide +kernel
theorem dX7_settle_59 : decode cX7_settle 59 = .ok (.ifCond .eq 15, 3) := by decide +kernel
theorem dX7_settle_62 : decode cX7_settle 62 = .ok (.aload_n 0, 1) := by decide +kernel
theorem dX7_settle_63 : decode cX7_settle 63 = .ok (.getfield 11, 3) := by decide +kernel
theorem dX7_settle_66 : decode cX7_settle 66 = .ok (.iload_n 2, 1) := by decide +kernel
theorem dX7_settle_67 : decode cX7_settle 67 = .ok (.aaload, 1) := by decide +kernel
theorem dX7_settle_68 : decode cX7_settle 68 = .ok (.invokevirtual 88, 3) := by decide +kernel
theorem dX7_settle_71 : decode cX7_settle 71 = .ok (.goto 21, 3) := by decide +kernel
theorem dX7_settle_74 : decode cX7_settle 74 = .ok (.aload_n 0, 1) := by decide +kernel
theorem dX7_settle_75 : decode cX7_settle 75 = .ok (.dup, 1) := by decide +kernel
theorem dX7_settle_76 : decode cX7_settle 76 = .ok (.getfield 26, 3) := by decide +kernel
theorem dX7_settle_79 : decode cX7_settle 79 = .ok (.aload_n 0, 1) := by decide +kernel
theorem dX7_settle_80 : decode cX7_settle 80 = .ok (.getfield 11, 3) := by decide +kernel
theorem dX7_settle_83 : decode cX7_settle 83 = .ok (.iload_n 1, 1) := by decide +kernel
theorem dX7_settle_84 : decode cX7_settle 84 = .ok (.aaload, 1) := by decide +kernel
theorem dX7_settle_85 : decode cX7_settle 85 = .ok (.getfield 74, 3) := by decide +kernel
theorem dX7_settle_88 : decode cX7_settle 88 = .ok (.iadd, 1) := by decide +kernel
theorem dX7_settle_89 : decode cX7_settle 89 = .ok (.putfield 26, 3) := by decide +kernel
theorem dX7_settle_92 : decode cX7_settle 92 = .ok (.iconst 0, 1) := by decide +kernel
theorem dX7_settle_93 : decode cX7_settle 93 = .ok (.ireturn, 1) := by decide +kernel
theorem dX7_isSelfKings_0 : decode cX7_isSelfKings 0 = .ok (.iconst 0, 1) := by decide +kernel
theorem dX7_isSelfKings_1 : decode cX7_isSelfKings 1 = .ok (.istore_n 1, 1) := by decide +kernel
theorem dX7_isSelfKings_2 : decode cX7_isSelfKings 2 = .ok (.iload_n 1, 1) := by decide +kernel
theorem dX7_isSelfKings_3 : decode cX7_isSelfKings 3 = .ok (.aload_n 0, 1) := by decide +kernel
theorem dX7_isSelfKings_4 : decode cX7_isSelfKings 4 = .ok (.getfield 22, 3) := by decide +kernel
theorem dX7_isSelfKings_7 : decode cX7_isSelfKings 7 = .ok (.if_icmp .ge 32, 3) := by decide +kernel
theorem dX7_isSelfKings_10 : decode cX7_isSelfKings 10 = .ok (.aload_n 0, 1) := by decide +kernel
theorem dX7_isSelfKings_11 : decode cX7_isSelfKings 11 = .ok (.getfield 11, 3) := by decide +kernel
theorem dX7_isSelfKings_14 : decode cX7_isSelfKings 14 = .ok (.iload_n 1, 1) := by decide +kernel
theorem dX7_isSelfKings_15 : decode cX7_isSelfKings 15 = .ok (.aaload, 1) := by decide +kernel
theorem dX7_isSelfKings_16 : decode cX7_isSelfKings 16 = .ok (.getfield 91, 3) := by decide +kernel
theorem dX7_isSelfKings_19 : decode cX7_isSelfKings 19 = .ok (.iconst 2, 1) := by decide +kernel
theorem dX7_isSelfKings_20 : decode cX7_isSelfKings 20 = .ok (.if_icmp .ne 13, 3) := by decide +kernel
theorem dX7_isSelfKings_23 : decode cX7_isSelfKings 23 = .ok (.aload_n 0, 1) := by decide +kernel
theorem dX7_isSelfKings_24 : decode cX7_isSelfKings 24 = .ok (.getfield 11, 3) := by decide +kernel
theorem dX7_isSelfKings_27 : decode cX7_isSelfKings 27 = .ok (.iload_n 1, 1) := by decide +kernel
theorem dX7_isSelfKings_28 : decode cX7_isSelfKings 28 = .ok (.aaload, 1) := by decide +kernel
theorem dX7_isSelfKings_29 : decode cX7_isSelfKings 29 = .ok (.getfield 70, 3) := by decide +kernel
theorem dX7_isSelfKings_32 : decode cX7_isSelfKings 32 = .ok (.ireturn, 1) := by decide +kernel
theorem dX7_isSelfKings_33 : decode cX7_isSelfKings 33 = .ok (.iinc 1 1, 3) := by decide +kernel
theorem dX7_isSelfKings_36 : decode cX7_isSelfKings 36 = .ok (.goto (-34), 3) := by decide +kernel
theorem dX7_isSelfKings_39 : decode cX7_isSelfKings 39 = .ok (.iconst 1, 1) := by decide +kernel
theorem dX7_isSelfKings_40 : decode cX7_isSelfKings 40 = .ok (.ireturn, 1) := by decide +kernel
set_option maxRecDepth 20000 in
theorem ggX7_stakesFor_X7_mayStake : GoodIn wsX7_stakesFor wsX7_mayStake := goodIn_r _ [6, 7, 8, 9, 10, 5, 11, 1, 12, 13, 14, 15, 16, 17, 18, 19, 20, 21, 22, 23, 24, 25, 26] (by decide +kernel) (by decide +kernel)
set_option maxRecDepth 20000 in
theorem gX7_stakesFor_X7_mayStake : GoodIn wsX7_stakesFor (wsV RX7 77 RX7 yX7_mayStake wsX7_mayStake) := goodIn_app (goodIn_of _ (by decide +kernel)) ggX7_stakesFor_X7_mayStake
theorem dX7_stakesFor_0 : decode cX7_stakesFor 0 = .ok (.iconst 0, 1) := by decide +kernel
theorem dX7_stakesFor_1 : decode cX7_stakesFor 1 = .ok (.istore_n 2, 1) := by decide +kernel
theorem dX7_stakesFor_2 : decode cX7_stakesFor 2 = .ok (.iconst 0, 1) := by decide +kernel
theorem dX7_stakesFor_3 : decode cX7_stakesFor 3 = .ok (.istore_n 3, 1) := by decide +kernel
theorem dX7_stakesFor_4 : decode cX7_stakesFor 4 = .ok (.iload_n 3, 1) := by decide +kernel
theorem dX7_stakesFor_5 : decode cX7_stakesFor 5 = .ok (.aload_n 0, 1) := by decide +kernel
theorem dX7_stakesFor_6 : decode cX7_stakesFor 6 = .ok (.getfield 22, 3) := by decide +kernel
theorem dX7_stakesFor_9 : decode cX7_stakesFor 9 = .ok (.if_icmp .ge 21, 3) := by decide +kernel
theorem dX7_stakesFor_12 : decode cX7_stakesFor 12 = .ok (.aload_n 0, 1) := by decide +kernel
theorem dX7_stakesFor_13 : decode cX7_stakesFor 13 = .ok (.iload_n 3, 1) := by decide +kernel
theorem dX7_stakesFor_14 : decode cX7_stakesFor 14 = .ok (.iload_n 1, 1) := by decide +kernel
theorem dX7_stakesFor_15 : decode cX7_stakesFor 15 = .ok (.invokevirtual 77, 3) := by decide +kernel
theorem dX7_stakesFor_18 : decode cX7_stakesFor 18 = .ok (.ifCond .eq 6, 3) := by decide +kernel
theorem dX7_stakesFor_21 : decode cX7_stakesFor 21 = .ok (.iinc 2 1, 3) := by decide +kernel
theorem dX7_stakesFor_24 : decode cX7_stakesFor 24 = .ok (.iinc 3 1, 3) := by decide +kernel
theorem dX7_stakesFor_27 : decode cX7_stakesFor 27 = .ok (.goto (-23), 3) := by decide +kernel
theorem dX7_stakesFor_30 : decode cX7_stakesFor 30 = .ok (.iload_n 2, 1) := by decide +kernel
theorem dX7_stakesFor_31 : decode cX7_stakesFor 31 = .ok (.ireturn, 1) := by decide +kernel
set_option maxRecDepth 20000 in
theorem ggX7_kingsBy_X8_isKingsBy : GoodIn wsX7_kingsBy wsX8_isKingsBy := goodIn_r _ [6, 7, 8, 9, 10, 11, 4, 12, 13, 20, 21, 22, 23, 24, 25] (by decide +kernel) (by decide +kernel)
set_option maxRecDepth 20000 in
theorem gX7_kingsBy_X8_isKingsBy_n94 : GoodIn wsX7_kingsBy (wsX8_isKingsBy) := ggX7_kingsBy_X8_isKingsBy
theorem dX7_kingsBy_0 : decode cX7_kingsBy 0 = .ok (.iconst 0, 1) := by decide +kernel
theorem dX7_kingsBy_1 : decode cX7_kingsBy 1 = .ok (.istore_n 2, 1) := by decide +kernel
theorem dX7_kingsBy_2 : decode cX7_kingsBy 2 = .ok (.iconst 0, 1) := by decide +kernel
theorem dX7_kingsBy_3 : decode cX7_kingsBy 3 = .ok (.istore_n 3, 1) := by decide +kernel
theorem dX7_kingsBy_4 : decode cX7_kingsBy 4 = .ok (.iload_n 3, 1) := by decide +kernel
theorem dX7_kingsBy_5 : decode cX7_kingsBy 5 = .ok (.aload_n 0, 1) := by decide +kernel
theorem dX7_kingsBy_6 : decode cX7_kingsBy 6 = .ok (.getfield 22, 3) := by decide +kernel
theorem dX7_kingsBy_9 : decode cX7_kingsBy 9 = .ok (.if_icmp .ge 28, 3) := by decide +kernel
theorem dX7_kingsBy_12 : decode cX7_kingsBy 12 = .ok (.aload_n 0, 1) := by decide +kernel
theorem dX7_kingsBy_13 : decode cX7_kingsBy 13 = .ok (.getfield 11, 3) := by decide +kernel
theorem dX7_kingsBy_16 : decode cX7_kingsBy 16 = .ok (.iload_n 3, 1) := by decide +kernel
theorem dX7_kingsBy_17 : decode cX7_kingsBy 17 = .ok (.aaload, 1) := by decide +kernel
theorem dX7_kingsBy_18 : decode cX7_kingsBy 18 = .ok (.iload_n 1, 1) := by decide +kernel
theorem dX7_kingsBy_19 : decode cX7_kingsBy 19 = .ok (.invokevirtual 94, 3) := by decide +kernel
theorem dX7_kingsBy_22 : decode cX7_kingsBy 22 = .ok (.ifCond .eq 9, 3) := by decide +kernel
theorem dX7_kingsBy_25 : decode cX7_kingsBy 25 = .ok (.iload_n 2, 1) := by decide +kernel
theorem dX7_kingsBy_26 : decode cX7_kingsBy 26 = .ok (.iconst 1, 1) := by decide +kernel
theorem dX7_kingsBy_27 : decode cX7_kingsBy 27 = .ok (.iload_n 3, 1) := by decide +kernel
theorem dX7_kingsBy_28 : decode cX7_kingsBy 28 = .ok (.ishl, 1) := by decide +kernel
theorem dX7_kingsBy_29 : decode cX7_kingsBy 29 = .ok (.ior, 1) := by decide +kernel
theorem dX7_kingsBy_30 : decode cX7_kingsBy 30 = .ok (.istore_n 2, 1) := by decide +kernel
theorem dX7_kingsBy_31 : decode cX7_kingsBy 31 = .ok (.iinc 3 1, 3) := by decide +kernel
theorem dX7_kingsBy_34 : decode cX7_kingsBy 34 = .ok (.goto (-30), 3) := by decide +kernel
theorem dX7_kingsBy_37 : decode cX7_kingsBy 37 = .ok (.iload_n 2, 1) := by decide +kernel
theorem dX7_kingsBy_38 : decode cX7_kingsBy 38 = .ok (.ireturn, 1) := by decide +kernel
theorem dX7_worthOf_0 : decode cX7_worthOf 0 = .ok (.iconst 0, 1) := by decide +kernel
theorem dX7_worthOf_1 : decode cX7_worthOf 1 = .ok (.istore_n 2, 1) := by decide +kernel
theorem dX7_worthOf_2 : decode cX7_worthOf 2 = .ok (.iconst 0, 1) := by decide +kernel
theorem dX7_worthOf_3 : decode cX7_worthOf 3 = .ok (.istore_n 3, 1) := by decide +kernel
theorem dX7_worthOf_4 : decode cX7_worthOf 4 = .ok (.iload_n 3, 1) := by decide +kernel
theorem dX7_worthOf_5 : decode cX7_worthOf 5 = .ok (.aload_n 0, 1) := by decide +kernel
theorem dX7_worthOf_6 : decode cX7_worthOf 6 = .ok (.getfield 22, 3) := by decide +kernel
theorem dX7_worthOf_9 : decode cX7_worthOf 9 = .ok (.if_icmp .ge 29, 3) := by decide +kernel
theorem dX7_worthOf_12 : decode cX7_worthOf 12 = .ok (.iload_n 1, 1) := by decide +kernel
theorem dX7_worthOf_13 : decode cX7_worthOf 13 = .ok (.iload_n 3, 1) := by decide +kernel
theorem dX7_worthOf_14 : decode cX7_worthOf 14 = .ok (.ishr, 1) := by decide +kernel
theorem dX7_worthOf_15 : decode cX7_worthOf 15 = .ok (.iconst 1, 1) := by decide +kernel
theorem dX7_worthOf_16 : decode cX7_worthOf 16 = .ok (.iand, 1) := by decide +kernel
theorem dX7_worthOf_17 : decode cX7_worthOf 17 = .ok (.ifCond .eq 15, 3) := by decide +kernel
theorem dX7_worthOf_20 : decode cX7_worthOf 20 = .ok (.iload_n 2, 1) := by decide +kernel
theorem dX7_worthOf_21 : decode cX7_worthOf 21 = .ok (.aload_n 0, 1) := by decide +kernel
theorem dX7_worthOf_22 : decode cX7_worthOf 22 = .ok (.getfield 11, 3) := by decide +kernel
theorem dX7_worthOf_25 : decode cX7_worthOf 25 = .ok (.iload_n 3, 1) := by decide +kernel
theorem dX7_worthOf_26 : decode cX7_worthOf 26 = .ok (.aaload, 1) := by decide +kernel
theorem dX7_worthOf_27 : decode cX7_worthOf 27 = .ok (.getfield 74, 3) := by decide +kernel
theorem dX7_worthOf_30 : decode cX7_worthOf 30 = .ok (.iadd, 1) := by decide +kernel
theorem dX7_worthOf_31 : decode cX7_worthOf 31 = .ok (.istore_n 2, 1) := by decide +kernel
theorem dX7_worthOf_32 : decode cX7_worthOf 32 = .ok (.iinc 3 1, 3) := by decide +kernel
theorem dX7_worthOf_35 : decode cX7_worthOf 35 = .ok (.goto (-31), 3) := by decide +kernel
theorem dX7_worthOf_38 : decode cX7_worthOf 38 = .ok (.iload_n 2, 1) := by decide +kernel
theorem dX7_worthOf_39 : decode cX7_worthOf 39 = .ok (.ireturn, 1) := by decide +kernel
set_option maxRecDepth 20000 in
theorem ggX7_wrongMany_X8_isWronglyLost : GoodIn wsX7_wrongMany wsX8_isWronglyLost := goodIn_r _ [6, 7, 8, 15, 16, 17, 18, 19, 20] (by decide +kernel) (by decide +kernel)
set_option maxRecDepth 20000 in
theorem gX7_wrongMany_X8_isWronglyLost_n97 : GoodIn wsX7_wrongMany (wsX8_isWronglyLost) := ggX7_wrongMany_X8_isWronglyLost
theorem dX7_wrongMany_0 : decode cX7_wrongMany 0 = .ok (.iconst 0, 1) := by decide +kernel
theorem dX7_wrongMany_1 : decode cX7_wrongMany 1 = .ok (.istore_n 1, 1) := by decide +kernel
theorem dX7_wrongMany_2 : decode cX7_wrongMany 2 = .ok (.iconst 0, 1) := by decide +kernel
theorem dX7_wrongMany_3 : decode cX7_wrongMany 3 = .ok (.istore_n 2, 1) := by decide +kernel
theorem dX7_wrongMany_4 : decode cX7_wrongMany 4 = .ok (.iload_n 2, 1) := by decide +kernel
theorem dX7_wrongMany_5 : decode cX7_wrongMany 5 = .ok (.aload_n 0, 1) := by decide +kernel
theorem dX7_wrongMany_6 : decode cX7_wrongMany 6 = .ok (.getfield 22, 3) := by decide +kernel
theorem dX7_wrongMany_9 : decode cX7_wrongMany 9 = .ok (.if_icmp .ge 24, 3) := by decide +kernel
theorem dX7_wrongMany_12 : decode cX7_wrongMany 12 = .ok (.aload_n 0, 1) := by decide +kernel
theorem dX7_wrongMany_13 : decode cX7_wrongMany 13 = .ok (.getfield 11, 3) := by decide +kernel
theorem dX7_wrongMany_16 : decode cX7_wrongMany 16 = .ok (.iload_n 2, 1) := by decide +kernel
theorem dX7_wrongMany_17 : decode cX7_wrongMany 17 = .ok (.aaload, 1) := by decide +kernel
theorem dX7_wrongMany_18 : decode cX7_wrongMany 18 = .ok (.invokevirtual 97, 3) := by decide +kernel
theorem dX7_wrongMany_21 : decode cX7_wrongMany 21 = .ok (.ifCond .eq 6, 3) := by decide +kernel
theorem dX7_wrongMany_24 : decode cX7_wrongMany 24 = .ok (.iinc 1 1, 3) := by decide +kernel
theorem dX7_wrongMany_27 : decode cX7_wrongMany 27 = .ok (.iinc 2 1, 3) := by decide +kernel
theorem dX7_wrongMany_30 : decode cX7_wrongMany 30 = .ok (.goto (-26), 3) := by decide +kernel
theorem dX7_wrongMany_33 : decode cX7_wrongMany 33 = .ok (.iload_n 1, 1) := by decide +kernel
theorem dX7_wrongMany_34 : decode cX7_wrongMany 34 = .ok (.ireturn, 1) := by decide +kernel
set_option maxRecDepth 20000 in
theorem ggX7_addSeen_X10_isBelow : GoodIn wsX7_addSeen wsX10_isBelow := goodIn_r _ [5] (by decide +kernel) (by decide +kernel)
set_option maxRecDepth 20000 in
theorem gX7_addSeen_X10_isBelow_n62 : GoodIn wsX7_addSeen (wsX10_isBelow) := ggX7_addSeen_X10_isBelow
theorem dX7_addSeen_0 : decode cX7_addSeen 0 = .ok (.aload_n 0, 1) := by decide +kernel
theorem dX7_addSeen_1 : decode cX7_addSeen 1 = .ok (.getfield 32, 3) := by decide +kernel
theorem dX7_addSeen_4 : decode cX7_addSeen 4 = .ok (.aload_n 0, 1) := by decide +kernel
theorem dX7_addSeen_5 : decode cX7_addSeen 5 = .ok (.getfield 18, 3) := by decide +kernel
theorem dX7_addSeen_8 : decode cX7_addSeen 8 = .ok (.arraylength, 1) := by decide +kernel
theorem dX7_addSeen_9 : decode cX7_addSeen 9 = .ok (.invokestatic 62, 3) := by decide +kernel
theorem dX7_addSeen_12 : decode cX7_addSeen 12 = .ok (.ifCond .eq 23, 3) := by decide +kernel
theorem dX7_addSeen_15 : decode cX7_addSeen 15 = .ok (.aload_n 0, 1) := by decide +kernel
theorem dX7_addSeen_16 : decode cX7_addSeen 16 = .ok (.getfield 18, 3) := by decide +kernel
theorem dX7_addSeen_19 : decode cX7_addSeen 19 = .ok (.aload_n 0, 1) := by decide +kernel
theorem dX7_addSeen_20 : decode cX7_addSeen 20 = .ok (.getfield 32, 3) := by decide +kernel
theorem dX7_addSeen_23 : decode cX7_addSeen 23 = .ok (.iload_n 1, 1) := by decide +kernel
theorem dX7_addSeen_24 : decode cX7_addSeen 24 = .ok (.iastore, 1) := by decide +kernel
theorem dX7_addSeen_25 : decode cX7_addSeen 25 = .ok (.aload_n 0, 1) := by decide +kernel
theorem dX7_addSeen_26 : decode cX7_addSeen 26 = .ok (.dup, 1) := by decide +kernel
theorem dX7_addSeen_27 : decode cX7_addSeen 27 = .ok (.getfield 32, 3) := by decide +kernel
theorem dX7_addSeen_30 : decode cX7_addSeen 30 = .ok (.iconst 1, 1) := by decide +kernel
theorem dX7_addSeen_31 : decode cX7_addSeen 31 = .ok (.iadd, 1) := by decide +kernel
theorem dX7_addSeen_32 : decode cX7_addSeen 32 = .ok (.putfield 32, 3) := by decide +kernel
theorem dX7_addSeen_35 : decode cX7_addSeen 35 = .ok (.aload_n 0, 1) := by decide +kernel
theorem dX7_addSeen_36 : decode cX7_addSeen 36 = .ok (.getfield 32, 3) := by decide +kernel
theorem dX7_addSeen_39 : decode cX7_addSeen 39 = .ok (.ireturn, 1) := by decide +kernel
theorem dX7_clearSeen_0 : decode cX7_clearSeen 0 = .ok (.aload_n 0, 1) := by decide +kernel
theorem dX7_clearSeen_1 : decode cX7_clearSeen 1 = .ok (.getfield 32, 3) := by decide +kernel
theorem dX7_clearSeen_4 : decode cX7_clearSeen 4 = .ok (.istore_n 1, 1) := by decide +kernel
theorem dX7_clearSeen_5 : decode cX7_clearSeen 5 = .ok (.aload_n 0, 1) := by decide +kernel
theorem dX7_clearSeen_6 : decode cX7_clearSeen 6 = .ok (.iconst 0, 1) := by decide +kernel
theorem dX7_clearSeen_7 : decode cX7_clearSeen 7 = .ok (.putfield 32, 3) := by decide +kernel
theorem dX7_clearSeen_10 : decode cX7_clearSeen 10 = .ok (.iload_n 1, 1) := by decide +kernel
theorem dX7_clearSeen_11 : decode cX7_clearSeen 11 = .ok (.ireturn, 1) := by decide +kernel
set_option maxRecDepth 20000 in
theorem ggX7_waysSeenBy_X1_waysOf : GoodIn wsX7_waysSeenBy wsX1_waysOf := goodIn_r _ [8, 9, 10, 11, 12, 13, 29, 30, 31, 32, 33, 34, 35, 36, 37, 38, 39, 40, 41, 42, 43] (by decide +kernel) (by decide +kernel)
set_option maxRecDepth 20000 in
theorem gX7_waysSeenBy_X1_waysOf_u100X0 : GoodIn wsX7_waysSeenBy (va_wsU RX7 100 RX0 "KingdomAtDice$Dice" ⟨"KingdomAtDice$Dice", "waysOf", "(I)I"⟩ yX1_waysOf wsX1_waysOf) := goodIn_app (goodIn_of _ (by decide +kernel)) ggX7_waysSeenBy_X1_waysOf
set_option maxRecDepth 20000 in
theorem gX7_waysSeenBy_X1_waysOf : GoodIn wsX7_waysSeenBy (wsV RX7 100 RX1 yX1_waysOf wsX1_waysOf) := goodIn_app (goodIn_of _ (by decide +kernel)) ggX7_waysSeenBy_X1_waysOf
set_option maxRecDepth 20000 in
theorem gX7_waysSeenBy_X1_waysOf_u100X3 : GoodIn wsX7_waysSeenBy (va_wsU RX7 100 RX3 "KingdomAtDice$Dice" ⟨"KingdomAtDice$Dice", "waysOf", "(I)I"⟩ yX1_waysOf wsX1_waysOf) := goodIn_app (goodIn_of _ (by decide +kernel)) ggX7_waysSeenBy_X1_waysOf
set_option maxRecDepth 20000 in
theorem gX7_waysSeenBy_X1_waysOf_u100X4 : GoodIn wsX7_waysSeenBy (va_wsU RX7 100 RX4 "KingdomAtDice$Dice" ⟨"KingdomAtDice$Dice", "waysOf", "(I)I"⟩ yX1_waysOf wsX1_waysOf) := goodIn_app (goodIn_of _ (by decide +kernel)) ggX7_waysSeenBy_X1_waysOf
set_option maxRecDepth 20000 in
theorem ggX7_waysSeenBy_X9_waysOf : GoodIn wsX7_waysSeenBy wsX9_waysOf := goodIn_r _ [22, 11, 12, 13] (by decide +kernel) (by decide +kernel)
set_option maxRecDepth 20000 in
theorem gX7_waysSeenBy_X9_waysOf_u100X9 : GoodIn wsX7_waysSeenBy (va_wsO RX7 100 RX9 "KingdomAtDice$Dice" ⟨"KingdomAtDice$Dice", "waysOf", "(I)I"⟩ yX9_waysOf wsX9_waysOf) := goodIn_app (goodIn_of _ (by decide +kernel)) ggX7_waysSeenBy_X9_waysOf
theorem dX7_waysSeenBy_0 : decode cX7_waysSeenBy 0 = .ok (.lconst 1, 1) := by decide +kernel
theorem dX7_waysSeenBy_1 : decode cX7_waysSeenBy 1 = .ok (.lstore_n 2, 1) := by decide +kernel
theorem dX7_waysSeenBy_2 : decode cX7_waysSeenBy 2 = .ok (.iconst 0, 1) := by decide +kernel
theorem dX7_waysSeenBy_3 : decode cX7_waysSeenBy 3 = .ok (.istore 4, 2) := by decide +kernel
theorem dX7_waysSeenBy_5 : decode cX7_waysSeenBy 5 = .ok (.iload 4, 2) := by decide +kernel
theorem dX7_waysSeenBy_7 : decode cX7_waysSeenBy 7 = .ok (.aload_n 0, 1) := by decide +kernel
theorem dX7_waysSeenBy_8 : decode cX7_waysSeenBy 8 = .ok (.getfield 32, 3) := by decide +kernel
theorem dX7_waysSeenBy_11 : decode cX7_waysSeenBy 11 = .ok (.if_icmp .ge 24, 3) := by decide +kernel
theorem dX7_waysSeenBy_14 : decode cX7_waysSeenBy 14 = .ok (.lload_n 2, 1) := by decide +kernel
theorem dX7_waysSeenBy_15 : decode cX7_waysSeenBy 15 = .ok (.aload_n 1, 1) := by decide +kernel
theorem dX7_waysSeenBy_16 : decode cX7_waysSeenBy 16 = .ok (.aload_n 0, 1) := by decide +kernel
theorem dX7_waysSeenBy_17 : decode cX7_waysSeenBy 17 = .ok (.getfield 18, 3) := by decide +kernel
theorem dX7_waysSeenBy_20 : decode cX7_waysSeenBy 20 = .ok (.iload 4, 2) := by decide +kernel
theorem dX7_waysSeenBy_22 : decode cX7_waysSeenBy 22 = .ok (.iaload, 1) := by decide +kernel
theorem dX7_waysSeenBy_23 : decode cX7_waysSeenBy 23 = .ok (.invokevirtual 100, 3) := by decide +kernel
theorem dX7_waysSeenBy_26 : decode cX7_waysSeenBy 26 = .ok (.i2l, 1) := by decide +kernel
theorem dX7_waysSeenBy_27 : decode cX7_waysSeenBy 27 = .ok (.lmul, 1) := by decide +kernel
theorem dX7_waysSeenBy_28 : decode cX7_waysSeenBy 28 = .ok (.lstore_n 2, 1) := by decide +kernel
theorem dX7_waysSeenBy_29 : decode cX7_waysSeenBy 29 = .ok (.iinc 4 1, 3) := by decide +kernel
theorem dX7_waysSeenBy_32 : decode cX7_waysSeenBy 32 = .ok (.goto (-27), 3) := by decide +kernel
theorem dX7_waysSeenBy_35 : decode cX7_waysSeenBy 35 = .ok (.lload_n 2, 1) := by decide +kernel
theorem dX7_waysSeenBy_36 : decode cX7_waysSeenBy 36 = .ok (.lreturn, 1) := by decide +kernel
theorem dX8_init_0 : decode cX8_init 0 = .ok (.aload_n 0, 1) := by decide +kernel
theorem dX8_init_1 : decode cX8_init 1 = .ok (.invokespecial 3, 3) := by decide +kernel
theorem dX8_init_4 : decode cX8_init 4 = .ok (.aload_n 0, 1) := by decide +kernel
theorem dX8_init_5 : decode cX8_init 5 = .ok (.iconst 0, 1) := by decide +kernel
theorem dX8_init_6 : decode cX8_init 6 = .ok (.putfield 9, 3) := by decide +kernel
theorem dX8_init_9 : decode cX8_init 9 = .ok (.aload_n 0, 1) := by decide +kernel
theorem dX8_init_10 : decode cX8_init 10 = .ok (.iconst 0, 1) := by decide +kernel
theorem dX8_init_11 : decode cX8_init 11 = .ok (.putfield 15, 3) := by decide +kernel
theorem dX8_init_14 : decode cX8_init 14 = .ok (.aload_n 0, 1) := by decide +kernel
theorem dX8_init_15 : decode cX8_init 15 = .ok (.iconst 1, 1) := by decide +kernel
theorem dX8_init_16 : decode cX8_init 16 = .ok (.putfield 18, 3) := by decide +kernel
theorem dX8_init_19 : decode cX8_init 19 = .ok (.aload_n 0, 1) := by decide +kernel
theorem dX8_init_20 : decode cX8_init 20 = .ok (.iconst (-1), 1) := by decide +kernel
theorem dX8_init_21 : decode cX8_init 21 = .ok (.putfield 22, 3) := by decide +kernel
theorem dX8_init_24 : decode cX8_init 24 = .ok (.aload_n 0, 1) := by decide +kernel
theorem dX8_init_25 : decode cX8_init 25 = .ok (.iconst (-1), 1) := by decide +kernel
theorem dX8_init_26 : decode cX8_init 26 = .ok (.putfield 25, 3) := by decide +kernel
theorem dX8_init_29 : decode cX8_init 29 = .ok (.aload_n 0, 1) := by decide +kernel
theorem dX8_init_30 : decode cX8_init 30 = .ok (.iconst 0, 1) := by decide +kernel
theorem dX8_init_31 : decode cX8_init 31 = .ok (.putfield 28, 3) := by decide +kernel
theorem dX8_init_34 : decode cX8_init 34 = .ok (.return_, 1) := by decide +kernel
theorem dX8_begin_0 : decode cX8_begin 0 = .ok (.aload_n 0, 1) := by decide +kernel
theorem dX8_begin_1 : decode cX8_begin 1 = .ok (.iload_n 1, 1) := by decide +kernel
theorem dX8_begin_2 : decode cX8_begin 2 = .ok (.putfield 9, 3) := by decide +kernel
theorem dX8_begin_5 : decode cX8_begin 5 = .ok (.aload_n 0, 1) := by decide +kernel
theorem dX8_begin_6 : decode cX8_begin 6 = .ok (.iload_n 2, 1) := by decide +kernel
theorem dX8_begin_7 : decode cX8_begin 7 = .ok (.putfield 15, 3) := by decide +kernel
theorem dX8_begin_10 : decode cX8_begin 10 = .ok (.aload_n 0, 1) := by decide +kernel
theorem dX8_begin_11 : decode cX8_begin 11 = .ok (.iconst 1, 1) := by decide +kernel
theorem dX8_begin_12 : decode cX8_begin 12 = .ok (.putfield 18, 3) := by decide +kernel
theorem dX8_begin_15 : decode cX8_begin 15 = .ok (.aload_n 0, 1) := by decide +kernel
theorem dX8_begin_16 : decode cX8_begin 16 = .ok (.iconst (-1), 1) := by decide +kernel
theorem dX8_begin_17 : decode cX8_begin 17 = .ok (.putfield 22, 3) := by decide +kernel
theorem dX8_begin_20 : decode cX8_begin 20 = .ok (.aload_n 0, 1) := by decide +kernel
theorem dX8_begin_21 : decode cX8_begin 21 = .ok (.iconst (-1), 1) := by decide +kernel
theorem dX8_begin_22 : decode cX8_begin 22 = .ok (.putfield 25, 3) := by decide +kernel
theorem dX8_begin_25 : decode cX8_begin 25 = .ok (.aload_n 0, 1) := by decide +kernel
theorem dX8_begin_26 : decode cX8_begin 26 = .ok (.iconst 0, 1) := by decide +kernel
theorem dX8_begin_27 : decode cX8_begin 27 = .ok (.putfield 28, 3) := by decide +kernel
theorem dX8_begin_30 : decode cX8_begin 30 = .ok (.return_, 1) := by decide +kernel
theorem dX8_copy_0 : decode cX8_copy 0 = .ok (.aload_n 0, 1) := by decide +kernel
theorem dX8_copy_1 : decode cX8_copy 1 = .ok (.aload_n 1, 1) := by decide +kernel
theorem dX8_copy_2 : decode cX8_copy 2 = .ok (.getfield 9, 3) := by decide +kernel
theorem dX8_copy_5 : decode cX8_copy 5 = .ok (.putfield 9, 3) := by decide +kernel
theorem dX8_copy_8 : decode cX8_copy 8 = .ok (.aload_n 0, 1) := by decide +kernel
theorem dX8_copy_9 : decode cX8_copy 9 = .ok (.aload_n 1, 1) := by decide +kernel
theorem dX8_copy_10 : decode cX8_copy 10 = .ok (.getfield 15, 3) := by decide +kernel
theorem dX8_copy_13 : decode cX8_copy 13 = .ok (.putfield 15, 3) := by decide +kernel
theorem dX8_copy_16 : decode cX8_copy 16 = .ok (.aload_n 0, 1) := by decide +kernel
theorem dX8_copy_17 : decode cX8_copy 17 = .ok (.aload_n 1, 1) := by decide +kernel
theorem dX8_copy_18 : decode cX8_copy 18 = .ok (.getfield 18, 3) := by decide +kernel
theorem dX8_copy_21 : decode cX8_copy 21 = .ok (.putfield 18, 3) := by decide +kernel
theorem dX8_copy_24 : decode cX8_copy 24 = .ok (.aload_n 0, 1) := by decide +kernel
theorem dX8_copy_25 : decode cX8_copy 25 = .ok (.aload_n 1, 1) := by decide +kernel
theorem dX8_copy_26 : decode cX8_copy 26 = .ok (.getfield 22, 3) := by decide +kernel
theorem dX8_copy_29 : decode cX8_copy 29 = .ok (.putfield 22, 3) := by decide +kernel
theorem dX8_copy_32 : decode cX8_copy 32 = .ok (.aload_n 0, 1) := by decide +kernel
theorem dX8_copy_33 : decode cX8_copy 33 = .ok (.aload_n 1, 1) := by decide +kernel
theorem dX8_copy_34 : decode cX8_copy 34 = .ok (.getfield 25, 3) := by decide +kernel
theorem dX8_copy_37 : decode cX8_copy 37 = .ok (.putfield 25, 3) := by decide +kernel
theorem dX8_copy_40 : decode cX8_copy 40 = .ok (.aload_n 0, 1) := by decide +kernel
theorem dX8_copy_41 : decode cX8_copy 41 = .ok (.aload_n 1, 1) := by decide +kernel
theorem dX8_copy_42 : decode cX8_copy 42 = .ok (.getfield 28, 3) := by decide +kernel
theorem dX8_copy_45 : decode cX8_copy 45 = .ok (.putfield 28, 3) := by decide +kernel
theorem dX8_copy_48 : decode cX8_copy 48 = .ok (.return_, 1) := by decide +kernel
theorem dX8_lose_0 : decode cX8_lose 0 = .ok (.aload_n 0, 1) := by decide +kernel
theorem dX8_lose_1 : decode cX8_lose 1 = .ok (.iconst 0, 1) := by decide +kernel
theorem dX8_lose_2 : decode cX8_lose 2 = .ok (.putfield 18, 3) := by decide +kernel
theorem dX8_lose_5 : decode cX8_lose 5 = .ok (.aload_n 0, 1) := by decide +kernel
theorem dX8_lose_6 : decode cX8_lose 6 = .ok (.iload_n 1, 1) := by decide +kernel
theorem dX8_lose_7 : decode cX8_lose 7 = .ok (.putfield 22, 3) := by decide +kernel
theorem dX8_lose_10 : decode cX8_lose 10 = .ok (.aload_n 0, 1) := by decide +kernel
theorem dX8_lose_11 : decode cX8_lose 11 = .ok (.iload_n 2, 1) := by decide +kernel
theorem dX8_lose_12 : decode cX8_lose 12 = .ok (.ifCond .eq 7, 3) := by decide +kernel
theorem dX8_lose_15 : decode cX8_lose 15 = .ok (.iconst 1, 1) := by decide +kernel
theorem dX8_lose_16 : decode cX8_lose 16 = .ok (.goto 4, 3) := by decide +kernel
theorem dX8_lose_19 : decode cX8_lose 19 = .ok (.iconst 0, 1) := by decide +kernel
theorem dX8_lose_20 : decode cX8_lose 20 = .ok (.putfield 25, 3) := by decide +kernel
theorem dX8_lose_23 : decode cX8_lose 23 = .ok (.aload_n 0, 1) := by decide +kernel
theorem dX8_lose_24 : decode cX8_lose 24 = .ok (.dup, 1) := by decide +kernel
theorem dX8_lose_25 : decode cX8_lose 25 = .ok (.getfield 28, 3) := by decide +kernel
theorem dX8_lose_28 : decode cX8_lose 28 = .ok (.iconst 1, 1) := by decide +kernel
theorem dX8_lose_29 : decode cX8_lose 29 = .ok (.iadd, 1) := by decide +kernel
theorem dX8_lose_30 : decode cX8_lose 30 = .ok (.putfield 28, 3) := by decide +kernel
theorem dX8_lose_33 : decode cX8_lose 33 = .ok (.return_, 1) := by decide +kernel
theorem dX8_comeBack_0 : decode cX8_comeBack 0 = .ok (.aload_n 0, 1) := by decide +kernel
theorem dX8_comeBack_1 : decode cX8_comeBack 1 = .ok (.iconst 1, 1) := by decide +kernel
theorem dX8_comeBack_2 : decode cX8_comeBack 2 = .ok (.putfield 18, 3) := by decide +kernel
theorem dX8_comeBack_5 : decode cX8_comeBack 5 = .ok (.aload_n 0, 1) := by decide +kernel
theorem dX8_comeBack_6 : decode cX8_comeBack 6 = .ok (.dup, 1) := by decide +kernel
theorem dX8_comeBack_7 : decode cX8_comeBack 7 = .ok (.getfield 28, 3) := by decide +kernel
theorem dX8_comeBack_10 : decode cX8_comeBack 10 = .ok (.iconst 1, 1) := by decide +kernel
theorem dX8_comeBack_11 : decode cX8_comeBack 11 = .ok (.iadd, 1) := by decide +kernel
theorem dX8_comeBack_12 : decode cX8_comeBack 12 = .ok (.putfield 28, 3) := by decide +kernel
theorem dX8_comeBack_15 : decode cX8_comeBack 15 = .ok (.return_, 1) := by decide +kernel
theorem dX8_isWronglyLost_0 : decode cX8_isWronglyLost 0 = .ok (.aload_n 0, 1) := by decide +kernel
theorem dX8_isWronglyLost_1 : decode cX8_isWronglyLost 1 = .ok (.getfield 18, 3) := by decide +kernel
theorem dX8_isWronglyLost_4 : decode cX8_isWronglyLost 4 = .ok (.ifCond .ne 14, 3) := by decide +kernel
theorem dX8_isWronglyLost_7 : decode cX8_isWronglyLost 7 = .ok (.aload_n 0, 1) := by decide +kernel
theorem dX8_isWronglyLost_8 : decode cX8_isWronglyLost 8 = .ok (.getfield 25, 3) := by decide +kernel
theorem dX8_isWronglyLost_11 : decode cX8_isWronglyLost 11 = .ok (.ifCond .ne 7, 3) := by decide +kernel
theorem dX8_isWronglyLost_14 : decode cX8_isWronglyLost 14 = .ok (.iconst 1, 1) := by decide +kernel
theorem dX8_isWronglyLost_15 : decode cX8_isWronglyLost 15 = .ok (.goto 4, 3) := by decide +kernel
theorem dX8_isWronglyLost_18 : decode cX8_isWronglyLost 18 = .ok (.iconst 0, 1) := by decide +kernel
theorem dX8_isWronglyLost_19 : decode cX8_isWronglyLost 19 = .ok (.ireturn, 1) := by decide +kernel
set_option maxRecDepth 20000 in
theorem ggX8_isKingsBy_X8_isWronglyLost : GoodIn wsX8_isKingsBy wsX8_isWronglyLost := goodIn_r _ [7, 1, 8, 9, 10, 11, 12, 13, 14] (by decide +kernel) (by decide +kernel)
set_option maxRecDepth 20000 in
theorem gX8_isKingsBy_X8_isWronglyLost : GoodIn wsX8_isKingsBy (wsV RX8 31 RX8 yX8_isWronglyLost wsX8_isWronglyLost) := goodIn_app (goodIn_of _ (by decide +kernel)) ggX8_isKingsBy_X8_isWronglyLost
theorem dX8_isKingsBy_0 : decode cX8_isKingsBy 0 = .ok (.aload_n 0, 1) := by decide +kernel
theorem dX8_isKingsBy_1 : decode cX8_isKingsBy 1 = .ok (.getfield 18, 3) := by decide +kernel
theorem dX8_isKingsBy_4 : decode cX8_isKingsBy 4 = .ok (.ifCond .ne 30, 3) := by decide +kernel
theorem dX8_isKingsBy_7 : decode cX8_isKingsBy 7 = .ok (.iload_n 1, 1) := by decide +kernel
theorem dX8_isKingsBy_8 : decode cX8_isKingsBy 8 = .ok (.iconst 1, 1) := by decide +kernel
theorem dX8_isKingsBy_9 : decode cX8_isKingsBy 9 = .ok (.iand, 1) := by decide +kernel
theorem dX8_isKingsBy_10 : decode cX8_isKingsBy 10 = .ok (.ifCond .eq 10, 3) := by decide +kernel
theorem dX8_isKingsBy_13 : decode cX8_isKingsBy 13 = .ok (.aload_n 0, 1) := by decide +kernel
theorem dX8_isKingsBy_14 : decode cX8_isKingsBy 14 = .ok (.invokevirtual 31, 3) := by decide +kernel
theorem dX8_isKingsBy_17 : decode cX8_isKingsBy 17 = .ok (.ifCond .ne 17, 3) := by decide +kernel
theorem dX8_isKingsBy_20 : decode cX8_isKingsBy 20 = .ok (.iload_n 1, 1) := by decide +kernel
theorem dX8_isKingsBy_21 : decode cX8_isKingsBy 21 = .ok (.iconst 2, 1) := by decide +kernel
theorem dX8_isKingsBy_22 : decode cX8_isKingsBy 22 = .ok (.iand, 1) := by decide +kernel
theorem dX8_isKingsBy_23 : decode cX8_isKingsBy 23 = .ok (.ifCond .eq 15, 3) := by decide +kernel
theorem dX8_isKingsBy_26 : decode cX8_isKingsBy 26 = .ok (.aload_n 0, 1) := by decide +kernel
theorem dX8_isKingsBy_27 : decode cX8_isKingsBy 27 = .ok (.getfield 9, 3) := by decide +kernel
theorem dX8_isKingsBy_30 : decode cX8_isKingsBy 30 = .ok (.iconst 1, 1) := by decide +kernel
theorem dX8_isKingsBy_31 : decode cX8_isKingsBy 31 = .ok (.if_icmp .ne 7, 3) := by decide +kernel
theorem dX8_isKingsBy_34 : decode cX8_isKingsBy 34 = .ok (.iconst 1, 1) := by decide +kernel
theorem dX8_isKingsBy_35 : decode cX8_isKingsBy 35 = .ok (.goto 4, 3) := by decide +kernel
theorem dX8_isKingsBy_38 : decode cX8_isKingsBy 38 = .ok (.iconst 0, 1) := by decide +kernel
theorem dX8_isKingsBy_39 : decode cX8_isKingsBy 39 = .ok (.ireturn, 1) := by decide +kernel
theorem dX8_tell_0 : decode cX8_tell 0 = .ok (.iload_n 1, 1) := by decide +kernel
theorem dX8_tell_1 : decode cX8_tell 1 = .ok (.tableswitch 68 0 4 #[35, 40, 45, 58, 63], 35) := by decide +kernel
theorem dX8_tell_36 : decode cX8_tell 36 = .ok (.aload_n 0, 1) := by decide +kernel
theorem dX8_tell_37 : decode cX8_tell 37 = .ok (.getfield 9, 3) := by decide +kernel
theorem dX8_tell_40 : decode cX8_tell 40 = .ok (.ireturn, 1) := by decide +kernel
theorem dX8_tell_41 : decode cX8_tell 41 = .ok (.aload_n 0, 1) := by decide +kernel
theorem dX8_tell_42 : decode cX8_tell 42 = .ok (.getfield 15, 3) := by decide +kernel
theorem dX8_tell_45 : decode cX8_tell 45 = .ok (.ireturn, 1) := by decide +kernel
theorem dX8_tell_46 : decode cX8_tell 46 = .ok (.aload_n 0, 1) := by decide +kernel
theorem dX8_tell_47 : decode cX8_tell 47 = .ok (.getfield 18, 3) := by decide +kernel
theorem dX8_tell_50 : decode cX8_tell 50 = .ok (.ifCond .eq 7, 3) := by decide +kernel
theorem dX8_tell_53 : decode cX8_tell 53 = .ok (.iconst 0, 1) := by decide +kernel
theorem dX8_tell_54 : decode cX8_tell 54 = .ok (.goto 4, 3) := by decide +kernel
theorem dX8_tell_57 : decode cX8_tell 57 = .ok (.iconst 1, 1) := by decide +kernel
theorem dX8_tell_58 : decode cX8_tell 58 = .ok (.ireturn, 1) := by decide +kernel
theorem dX8_tell_59 : decode cX8_tell 59 = .ok (.aload_n 0, 1) := by decide +kernel
theorem dX8_tell_60 : decode cX8_tell 60 = .ok (.getfield 22, 3) := by decide +kernel
theorem dX8_tell_63 : decode cX8_tell 63 = .ok (.ireturn, 1) := by decide +kernel
theorem dX8_tell_64 : decode cX8_tell 64 = .ok (.aload_n 0, 1) := by decide +kernel
theorem dX8_tell_65 : decode cX8_tell 65 = .ok (.getfield 25, 3) := by decide +kernel
theorem dX8_tell_68 : decode cX8_tell 68 = .ok (.ireturn, 1) := by decide +kernel
theorem dX8_tell_69 : decode cX8_tell 69 = .ok (.aload_n 0, 1) := by decide +kernel
theorem dX8_tell_70 : decode cX8_tell 70 = .ok (.getfield 28, 3) := by decide +kernel
theorem dX8_tell_73 : decode cX8_tell 73 = .ok (.ireturn, 1) := by decide +kernel
set_option maxRecDepth 20000 in
theorem ggX9_init_X1_init : GoodIn wsX9_init wsX1_init := goodIn_r _ [4, 5, 6, 7, 8, 9, 10, 11, 12, 13, 14, 15, 16, 17, 18, 19, 20, 21, 22, 23, 24, 25] (by decide +kernel) (by decide +kernel)
set_option maxRecDepth 20000 in
theorem gX9_init_X1_init : GoodIn wsX9_init (wsX1_init) := ggX9_init_X1_init
theorem dX9_init_0 : decode cX9_init 0 = .ok (.aload_n 0, 1) := by decide +kernel
theorem dX9_init_1 : decode cX9_init 1 = .ok (.iconst 2, 1) := by decide +kernel
theorem dX9_init_2 : decode cX9_init 2 = .ok (.iconst 1, 1) := by decide +kernel
theorem dX9_init_3 : decode cX9_init 3 = .ok (.bipush 6, 2) := by decide +kernel
theorem dX9_init_5 : decode cX9_init 5 = .ok (.invokespecial 3, 3) := by decide +kernel
theorem dX9_init_8 : decode cX9_init 8 = .ok (.return_, 1) := by decide +kernel
set_option maxRecDepth 20000 in
theorem ggX9_wayMany_X1_faces : GoodIn wsX9_wayMany wsX1_faces := goodIn_r _ [6, 7, 8, 9, 10, 11, 12, 13, 14, 15, 16, 17, 18, 19, 20, 21, 22, 23] (by decide +kernel) (by decide +kernel)
set_option maxRecDepth 20000 in
theorem gX9_wayMany_X1_faces_u9X9 : GoodIn wsX9_wayMany (va_wsU RX9 9 RX9 "KingdomAtDice$Dice" ⟨"KingdomAtDice$Twins", "faces", "()I"⟩ yX1_faces wsX1_faces) := goodIn_app (goodIn_of _ (by decide +kernel)) ggX9_wayMany_X1_faces
theorem dX9_wayMany_0 : decode cX9_wayMany 0 = .ok (.aload_n 0, 1) := by decide +kernel
theorem dX9_wayMany_1 : decode cX9_wayMany 1 = .ok (.invokevirtual 9, 3) := by decide +kernel
theorem dX9_wayMany_4 : decode cX9_wayMany 4 = .ok (.ireturn, 1) := by decide +kernel
set_option maxRecDepth 20000 in
theorem ggX9_waysOf_X10_isSum : GoodIn wsX9_waysOf wsX10_isSum := goodIn_r _ [3] (by decide +kernel) (by decide +kernel)
set_option maxRecDepth 20000 in
theorem gX9_waysOf_X10_isSum_n15 : GoodIn wsX9_waysOf (wsX10_isSum) := ggX9_waysOf_X10_isSum
theorem dX9_waysOf_0 : decode cX9_waysOf 0 = .ok (.iload_n 1, 1) := by decide +kernel
theorem dX9_waysOf_1 : decode cX9_waysOf 1 = .ok (.invokestatic 15, 3) := by decide +kernel
theorem dX9_waysOf_4 : decode cX9_waysOf 4 = .ok (.ifCond .eq 13, 3) := by decide +kernel
theorem dX9_waysOf_7 : decode cX9_waysOf 7 = .ok (.iload_n 1, 1) := by decide +kernel
theorem dX9_waysOf_8 : decode cX9_waysOf 8 = .ok (.iconst 2, 1) := by decide +kernel
theorem dX9_waysOf_9 : decode cX9_waysOf 9 = .ok (.irem, 1) := by decide +kernel
theorem dX9_waysOf_10 : decode cX9_waysOf 10 = .ok (.ifCond .ne 7, 3) := by decide +kernel
theorem dX9_waysOf_13 : decode cX9_waysOf 13 = .ok (.iconst 1, 1) := by decide +kernel
theorem dX9_waysOf_14 : decode cX9_waysOf 14 = .ok (.goto 4, 3) := by decide +kernel
theorem dX9_waysOf_17 : decode cX9_waysOf 17 = .ok (.iconst 0, 1) := by decide +kernel
theorem dX9_waysOf_18 : decode cX9_waysOf 18 = .ok (.ireturn, 1) := by decide +kernel
set_option maxRecDepth 20000 in
theorem ggX9_fall_X1_faces : GoodIn wsX9_fall wsX1_faces := goodIn_r _ [8, 9, 10, 20, 21, 22, 23, 24, 25, 26, 27, 28, 29, 30, 31, 32, 33, 34] (by decide +kernel) (by decide +kernel)
set_option maxRecDepth 20000 in
theorem gX9_fall_X1_faces_u9X9 : GoodIn wsX9_fall (va_wsU RX9 9 RX9 "KingdomAtDice$Dice" ⟨"KingdomAtDice$Twins", "faces", "()I"⟩ yX1_faces wsX1_faces) := goodIn_app (goodIn_of _ (by decide +kernel)) ggX9_fall_X1_faces
set_option maxRecDepth 20000 in
theorem ggX9_fall_X2_next : GoodIn wsX9_fall wsX2_next := goodIn_r _ [14, 15, 16, 17, 18, 19, 35] (by decide +kernel) (by decide +kernel)
set_option maxRecDepth 20000 in
theorem gX9_fall_X2_next_n23 : GoodIn wsX9_fall (wsX2_next) := ggX9_fall_X2_next
theorem dX9_fall_0 : decode cX9_fall 0 = .ok (.iconst 2, 1) := by decide +kernel
theorem dX9_fall_1 : decode cX9_fall 1 = .ok (.aload_n 0, 1) := by decide +kernel
theorem dX9_fall_2 : decode cX9_fall 2 = .ok (.getfield 19, 3) := by decide +kernel
theorem dX9_fall_5 : decode cX9_fall 5 = .ok (.aload_n 1, 1) := by decide +kernel
theorem dX9_fall_6 : decode cX9_fall 6 = .ok (.aload_n 0, 1) := by decide +kernel
theorem dX9_fall_7 : decode cX9_fall 7 = .ok (.invokevirtual 9, 3) := by decide +kernel
theorem dX9_fall_10 : decode cX9_fall 10 = .ok (.invokevirtual 23, 3) := by decide +kernel
theorem dX9_fall_13 : decode cX9_fall 13 = .ok (.iadd, 1) := by decide +kernel
theorem dX9_fall_14 : decode cX9_fall 14 = .ok (.imul, 1) := by decide +kernel
theorem dX9_fall_15 : decode cX9_fall 15 = .ok (.ireturn, 1) := by decide +kernel
set_option maxRecDepth 20000 in
theorem ggX10_init_X6_init : GoodIn wsX10_init wsX6_init := goodIn_r _ [42, 43, 2, 3, 44, 45, 46, 100, 101] (by decide +kernel) (by decide +kernel)
set_option maxRecDepth 20000 in
theorem gX10_init_X6_init_n9 : GoodIn wsX10_init (wsX6_init) := ggX10_init_X6_init
set_option maxRecDepth 20000 in
theorem ggX10_init_X1_init : GoodIn wsX10_init wsX1_init := goodIn_r _ [49, 50, 2, 3, 51, 52, 53, 124, 125, 126, 112, 113, 114, 115, 116, 117, 121, 122, 123, 118, 119, 120] (by decide +kernel) (by decide +kernel)
set_option maxRecDepth 20000 in
theorem gX10_init_X1_init : GoodIn wsX10_init (wsX1_init) := ggX10_init_X1_init
set_option maxRecDepth 20000 in
theorem ggX10_init_X3_init : GoodIn wsX10_init wsX3_init := goodIn_r _ [56, 57, 48, 10, 49, 50, 2, 3, 51, 52, 53, 124, 125, 126, 112, 113, 114, 115, 116, 117, 121, 122, 123, 118, 119, 120] (by decide +kernel) (by decide +kernel)
set_option maxRecDepth 20000 in
theorem gX10_init_X3_init : GoodIn wsX10_init (wsX3_init) := ggX10_init_X3_init
set_option maxRecDepth 20000 in
theorem ggX10_init_X9_init : GoodIn wsX10_init wsX9_init := goodIn_r _ [60, 61, 48, 10, 49, 50, 2, 3, 51, 52, 53, 124, 125, 126, 112, 113, 114, 115, 116, 117, 121, 122, 123, 118, 119, 120] (by decide +kernel) (by decide +kernel)
set_option maxRecDepth 20000 in
theorem gX10_init_X9_init : GoodIn wsX10_init (wsX9_init) := ggX10_init_X9_init
set_option maxRecDepth 20000 in
theorem ggX10_init_X4_init : GoodIn wsX10_init wsX4_init := goodIn_r _ [64, 65, 48, 10, 49, 50, 2, 3, 51, 52, 53, 124, 125, 126, 112, 113, 114, 115, 116, 117, 121, 122, 123, 118, 119, 120] (by decide +kernel) (by decide +kernel)
set_option maxRecDepth 20000 in
theorem gX10_init_X4_init : GoodIn wsX10_init (wsX4_init) := ggX10_init_X4_init
set_option maxRecDepth 20000 in
theorem ggX10_init_X0_init : GoodIn wsX10_init wsX0_init := goodIn_r _ [68, 69, 55, 13, 56, 57, 48, 10, 49, 50, 2, 3, 51, 52, 53, 124, 125, 126, 112, 113, 114, 115, 116, 117, 121, 122, 123, 118, 119, 120] (by decide +kernel) (by decide +kernel)
set_option maxRecDepth 20000 in
theorem gX10_init_X0_init : GoodIn wsX10_init (wsX0_init) := ggX10_init_X0_init
set_option maxRecDepth 20000 in
theorem ggX10_init_X5_init : GoodIn wsX10_init wsX5_init := goodIn_r _ [71, 72, 2, 3, 44, 73, 74, 127, 128] (by decide +kernel) (by decide +kernel)
set_option maxRecDepth 20000 in
theorem gX10_init_X5_init_n41 : GoodIn wsX10_init (wsX5_init) := ggX10_init_X5_init
set_option maxRecDepth 20000 in
theorem ggX10_init_X2_init : GoodIn wsX10_init wsX2_init := goodIn_r _ [76, 77, 2, 3, 78, 129] (by decide +kernel) (by decide +kernel)
set_option maxRecDepth 20000 in
theorem gX10_init_X2_init_n48 : GoodIn wsX10_init (wsX2_init) := ggX10_init_X2_init
set_option maxRecDepth 20000 in
theorem ggX10_init_X7_init : GoodIn wsX10_init wsX7_init := goodIn_r _ [80, 81, 2, 3, 82, 83, 84, 85, 44, 86, 87, 88, 89, 90, 91, 92, 93, 94, 95, 96, 97, 98, 99, 130, 131, 132, 133, 134, 135, 136, 137, 138, 139, 140, 141] (by decide +kernel) (by decide +kernel)
set_option maxRecDepth 20000 in
theorem gX10_init_X7_init_n55 : GoodIn wsX10_init (wsX7_init) := ggX10_init_X7_init
theorem dX10_init_0 : decode cX10_init 0 = .ok (.aload_n 0, 1) := by decide +kernel
theorem dX10_init_1 : decode cX10_init 1 = .ok (.invokespecial 1, 3) := by decide +kernel
theorem dX10_init_4 : decode cX10_init 4 = .ok (.aload_n 0, 1) := by decide +kernel
theorem dX10_init_5 : decode cX10_init 5 = .ok (.new 7, 3) := by decide +kernel
theorem dX10_init_8 : decode cX10_init 8 = .ok (.dup, 1) := by decide +kernel
theorem dX10_init_9 : decode cX10_init 9 = .ok (.invokespecial 9, 3) := by decide +kernel
theorem dX10_init_12 : decode cX10_init 12 = .ok (.putfield 10, 3) := by decide +kernel
theorem dX10_init_15 : decode cX10_init 15 = .ok (.aload_n 0, 1) := by decide +kernel
theorem dX10_init_16 : decode cX10_init 16 = .ok (.iconst 5, 1) := by decide +kernel
theorem dX10_init_17 : decode cX10_init 17 = .ok (.anewarray 16, 3) := by decide +kernel
theorem dX10_init_20 : decode cX10_init 20 = .ok (.dup, 1) := by decide +kernel
theorem dX10_init_21 : decode cX10_init 21 = .ok (.iconst 0, 1) := by decide +kernel
theorem dX10_init_22 : decode cX10_init 22 = .ok (.new 16, 3) := by decide +kernel
theorem dX10_init_25 : decode cX10_init 25 = .ok (.dup, 1) := by decide +kernel
theorem dX10_init_26 : decode cX10_init 26 = .ok (.iconst 0, 1) := by decide +kernel
theorem dX10_init_27 : decode cX10_init 27 = .ok (.iconst 1, 1) := by decide +kernel
theorem dX10_init_28 : decode cX10_init 28 = .ok (.bipush 6, 2) := by decide +kernel
theorem dX10_init_30 : decode cX10_init 30 = .ok (.invokespecial 18, 3) := by decide +kernel
theorem dX10_init_33 : decode cX10_init 33 = .ok (.aastore, 1) := by decide +kernel
theorem dX10_init_34 : decode cX10_init 34 = .ok (.dup, 1) := by decide +kernel
theorem dX10_init_35 : decode cX10_init 35 = .ok (.iconst 1, 1) := by decide +kernel
theorem dX10_init_36 : decode cX10_init 36 = .ok (.new 21, 3) := by decide +kernel
theorem dX10_init_39 : decode cX10_init 39 = .ok (.dup, 1) := by decide +kernel
theorem dX10_init_40 : decode cX10_init 40 = .ok (.iconst 1, 1) := by decide +kernel
theorem dX10_init_41 : decode cX10_init 41 = .ok (.iconst 2, 1) := by decide +kernel
theorem dX10_init_42 : decode cX10_init 42 = .ok (.invokespecial 23, 3) := by decide +kernel
theorem dX10_init_45 : decode cX10_init 45 = .ok (.aastore, 1) := by decide +kernel
theorem dX10_init_46 : decode cX10_init 46 = .ok (.dup, 1) := by decide +kernel
theorem dX10_init_47 : decode cX10_init 47 = .ok (.iconst 2, 1) := by decide +kernel
theorem dX10_init_48 : decode cX10_init 48 = .ok (.new 26, 3) := by decide +kernel
theorem dX10_init_51 : decode cX10_init 51 = .ok (.dup, 1) := by decide +kernel
theorem dX10_init_52 : decode cX10_init 52 = .ok (.invokespecial 28, 3) := by decide +kernel
theorem dX10_init_55 : decode cX10_init 55 = .ok (.aastore, 1) := by decide +kernel
theorem dX10_init_56 : decode cX10_init 56 = .ok (.dup, 1) := by decide +kernel
theorem dX10_init_57 : decode cX10_init 57 = .ok (.iconst 3, 1) := by decide +kernel
theorem dX10_init_58 : decode cX10_init 58 = .ok (.new 29, 3) := by decide +kernel
theorem dX10_init_61 : decode cX10_init 61 = .ok (.dup, 1) := by decide +kernel
theorem dX10_init_62 : decode cX10_init 62 = .ok (.invokespecial 31, 3) := by decide +kernel
theorem dX10_init_65 : decode cX10_init 65 = .ok (.aastore, 1) := by decide +kernel
theorem dX10_init_66 : decode cX10_init 66 = .ok (.dup, 1) := by decide +kernel
theorem dX10_init_67 : decode cX10_init 67 = .ok (.iconst 4, 1) := by decide +kernel
theorem dX10_init_68 : decode cX10_init 68 = .ok (.new 32, 3) := by decide +kernel
theorem dX10_init_71 : decode cX10_init 71 = .ok (.dup, 1) := by decide +kernel
theorem dX10_init_72 : decode cX10_init 72 = .ok (.invokespecial 34, 3) := by decide +kernel
theorem dX10_init_75 : decode cX10_init 75 = .ok (.aastore, 1) := by decide +kernel
theorem dX10_init_76 : decode cX10_init 76 = .ok (.putfield 35, 3) := by decide +kernel
theorem dX10_init_79 : decode cX10_init 79 = .ok (.aload_n 0, 1) := by decide +kernel
theorem dX10_init_80 : decode cX10_init 80 = .ok (.new 39, 3) := by decide +kernel
theorem dX10_init_83 : decode cX10_init 83 = .ok (.dup, 1) := by decide +kernel
theorem dX10_init_84 : decode cX10_init 84 = .ok (.invokespecial 41, 3) := by decide +kernel
theorem dX10_init_87 : decode cX10_init 87 = .ok (.putfield 42, 3) := by decide +kernel
theorem dX10_init_90 : decode cX10_init 90 = .ok (.aload_n 0, 1) := by decide +kernel
theorem dX10_init_91 : decode cX10_init 91 = .ok (.new 46, 3) := by decide +kernel
theorem dX10_init_94 : decode cX10_init 94 = .ok (.dup, 1) := by decide +kernel
theorem dX10_init_95 : decode cX10_init 95 = .ok (.invokespecial 48, 3) := by decide +kernel
theorem dX10_init_98 : decode cX10_init 98 = .ok (.putfield 49, 3) := by decide +kernel
theorem dX10_init_101 : decode cX10_init 101 = .ok (.aload_n 0, 1) := by decide +kernel
theorem dX10_init_102 : decode cX10_init 102 = .ok (.new 53, 3) := by decide +kernel
theorem dX10_init_105 : decode cX10_init 105 = .ok (.dup, 1) := by decide +kernel
theorem dX10_init_106 : decode cX10_init 106 = .ok (.invokespecial 55, 3) := by decide +kernel
theorem dX10_init_109 : decode cX10_init 109 = .ok (.putfield 56, 3) := by decide +kernel
theorem dX10_init_112 : decode cX10_init 112 = .ok (.aload_n 0, 1) := by decide +kernel
theorem dX10_init_113 : decode cX10_init 113 = .ok (.new 53, 3) := by decide +kernel
theorem dX10_init_116 : decode cX10_init 116 = .ok (.dup, 1) := by decide +kernel
theorem dX10_init_117 : decode cX10_init 117 = .ok (.invokespecial 55, 3) := by decide +kernel
theorem dX10_init_120 : decode cX10_init 120 = .ok (.putfield 60, 3) := by decide +kernel
theorem dX10_init_123 : decode cX10_init 123 = .ok (.aload_n 0, 1) := by decide +kernel
theorem dX10_init_124 : decode cX10_init 124 = .ok (.aload_n 0, 1) := by decide +kernel
theorem dX10_init_125 : decode cX10_init 125 = .ok (.getfield 35, 3) := by decide +kernel
theorem dX10_init_128 : decode cX10_init 128 = .ok (.iconst 0, 1) := by decide +kernel
theorem dX10_init_129 : decode cX10_init 129 = .ok (.aaload, 1) := by decide +kernel
theorem dX10_init_130 : decode cX10_init 130 = .ok (.putfield 63, 3) := by decide +kernel
theorem dX10_init_133 : decode cX10_init 133 = .ok (.aload_n 0, 1) := by decide +kernel
theorem dX10_init_134 : decode cX10_init 134 = .ok (.aload_n 0, 1) := by decide +kernel
theorem dX10_init_135 : decode cX10_init 135 = .ok (.getfield 35, 3) := by decide +kernel
theorem dX10_init_138 : decode cX10_init 138 = .ok (.iconst 0, 1) := by decide +kernel
theorem dX10_init_139 : decode cX10_init 139 = .ok (.aaload, 1) := by decide +kernel
theorem dX10_init_140 : decode cX10_init 140 = .ok (.putfield 67, 3) := by decide +kernel
theorem dX10_init_143 : decode cX10_init 143 = .ok (.aload_n 0, 1) := by decide +kernel
theorem dX10_init_144 : decode cX10_init 144 = .ok (.iconst 0, 1) := by decide +kernel
theorem dX10_init_145 : decode cX10_init 145 = .ok (.putfield 70, 3) := by decide +kernel
theorem dX10_init_148 : decode cX10_init 148 = .ok (.aload_n 0, 1) := by decide +kernel
theorem dX10_init_149 : decode cX10_init 149 = .ok (.iconst 0, 1) := by decide +kernel
theorem dX10_init_150 : decode cX10_init 150 = .ok (.putfield 74, 3) := by decide +kernel
theorem dX10_init_153 : decode cX10_init 153 = .ok (.return_, 1) := by decide +kernel
set_option maxRecDepth 20000 in
theorem ggX10_letter_X6_isFull : GoodIn wsX10_letter wsX6_isFull := goodIn_r _ [5, 6, 7, 22, 23] (by decide +kernel) (by decide +kernel)
set_option maxRecDepth 20000 in
theorem gX10_letter_X6_isFull_n78 : GoodIn wsX10_letter (wsX6_isFull) := ggX10_letter_X6_isFull
set_option maxRecDepth 20000 in
theorem ggX10_letter_X6_push : GoodIn wsX10_letter wsX6_push := goodIn_r _ [10, 7, 6, 11, 2, 4, 3, 5, 22, 23] (by decide +kernel) (by decide +kernel)
set_option maxRecDepth 20000 in
theorem gX10_letter_X6_push_n82 : GoodIn wsX10_letter (wsX6_push) := ggX10_letter_X6_push
theorem dX10_letter_0 : decode cX10_letter 0 = .ok (.iload_n 1, 1) := by decide +kernel
theorem dX10_letter_1 : decode cX10_letter 1 = .ok (.iconst 1, 1) := by decide +kernel
theorem dX10_letter_2 : decode cX10_letter 2 = .ok (.if_icmp .lt 9, 3) := by decide +kernel
theorem dX10_letter_5 : decode cX10_letter 5 = .ok (.iload_n 1, 1) := by decide +kernel
theorem dX10_letter_6 : decode cX10_letter 6 = .ok (.bipush 126, 2) := by decide +kernel
theorem dX10_letter_8 : decode cX10_letter 8 = .ok (.if_icmp .le 6, 3) := by decide +kernel
theorem dX10_letter_11 : decode cX10_letter 11 = .ok (.bipush (-102), 2) := by decide +kernel
theorem dX10_letter_13 : decode cX10_letter 13 = .ok (.ireturn, 1) := by decide +kernel
theorem dX10_letter_14 : decode cX10_letter 14 = .ok (.aload_n 0, 1) := by decide +kernel
theorem dX10_letter_15 : decode cX10_letter 15 = .ok (.getfield 10, 3) := by decide +kernel
theorem dX10_letter_18 : decode cX10_letter 18 = .ok (.invokevirtual 78, 3) := by decide +kernel
theorem dX10_letter_21 : decode cX10_letter 21 = .ok (.ifCond .eq 8, 3) := by decide +kernel
theorem dX10_letter_24 : decode cX10_letter 24 = .ok (.bipush (-104), 2) := by decide +kernel
theorem dX10_letter_26 : decode cX10_letter 26 = .ok (.goto 11, 3) := by decide +kernel
theorem dX10_letter_29 : decode cX10_letter 29 = .ok (.aload_n 0, 1) := by decide +kernel
theorem dX10_letter_30 : decode cX10_letter 30 = .ok (.getfield 10, 3) := by decide +kernel
theorem dX10_letter_33 : decode cX10_letter 33 = .ok (.iload_n 1, 1) := by decide +kernel
theorem dX10_letter_34 : decode cX10_letter 34 = .ok (.invokevirtual 82, 3) := by decide +kernel
theorem dX10_letter_37 : decode cX10_letter 37 = .ok (.ireturn, 1) := by decide +kernel
set_option maxRecDepth 20000 in
theorem ggX10_blank_X6_clear : GoodIn wsX10_blank wsX6_clear := goodIn_r _ [5, 6, 17, 18] (by decide +kernel) (by decide +kernel)
set_option maxRecDepth 20000 in
theorem gX10_blank_X6_clear_n86 : GoodIn wsX10_blank (wsX6_clear) := ggX10_blank_X6_clear
theorem dX10_blank_0 : decode cX10_blank 0 = .ok (.aload_n 0, 1) := by decide +kernel
theorem dX10_blank_1 : decode cX10_blank 1 = .ok (.getfield 10, 3) := by decide +kernel
theorem dX10_blank_4 : decode cX10_blank 4 = .ok (.invokevirtual 86, 3) := by decide +kernel
theorem dX10_blank_7 : decode cX10_blank 7 = .ok (.ireturn, 1) := by decide +kernel
set_option maxRecDepth 20000 in
theorem ggX10_fault_X6_faultPlace : GoodIn wsX10_fault wsX6_faultPlace := goodIn_r _ [5, 6, 7, 8, 9, 3, 10, 11, 12, 13, 14, 15, 16, 17, 18, 19, 20, 21, 22, 23, 24, 25, 26, 27, 28, 29, 30, 31, 32, 33, 34, 35, 36, 37, 38, 39, 40, 41, 42, 43, 44, 45, 46, 47, 48, 49, 50, 51, 52, 53, 54, 55, 56, 57, 58, 59, 60, 61, 62, 63, 64, 65, 66, 67, 68, 69, 70, 71, 72, 73, 74, 75, 76, 77, 78, 79, 80, 81, 82, 83, 84, 85, 86, 87, 88, 89, 90, 91, 92, 93, 94, 95, 96, 97, 98, 99, 100, 101, 102, 103, 104, 105, 106, 107, 108, 109, 120, 121] (by decide +kernel) (by decide +kernel)
set_option maxRecDepth 20000 in
theorem gX10_fault_X6_faultPlace_n90 : GoodIn wsX10_fault (wsX6_faultPlace) := ggX10_fault_X6_faultPlace
theorem dX10_fault_0 : decode cX10_fault 0 = .ok (.aload_n 0, 1) := by decide +kernel
theorem dX10_fault_1 : decode cX10_fault 1 = .ok (.getfield 10, 3) := by decide +kernel
theorem dX10_fault_4 : decode cX10_fault 4 = .ok (.invokevirtual 90, 3) := by decide +kernel
theorem dX10_fault_7 : decode cX10_fault 7 = .ok (.ireturn, 1) := by decide +kernel
set_option maxRecDepth 20000 in
theorem ggX10_hall_X6_isHall : GoodIn wsX10_hall wsX6_isHall := goodIn_r _ [11, 12, 13, 14, 15, 9, 16, 17, 18, 19, 20, 21, 22, 23, 24, 25, 26, 27, 28, 29, 30, 31, 32, 33, 34, 35, 36, 37, 38, 39, 40, 41, 42, 43, 44, 45, 46, 47, 48, 49, 50, 51, 52, 53, 54, 55, 56, 57, 58, 59, 60, 61, 62, 63, 64, 65, 66, 67, 68, 69, 70, 71, 72, 73, 74, 75, 76, 77, 78, 79, 80, 81, 82, 83, 84, 85, 86, 87, 88, 89, 90, 91, 92, 93, 94, 95, 96, 97, 98, 99, 100, 101, 102, 103, 104, 105, 106, 107, 108, 109, 110, 111, 112, 113, 114, 115, 116, 117, 118, 119, 235, 236] (by decide +kernel) (by decide +kernel)
set_option maxRecDepth 20000 in
theorem gX10_hall_X6_isHall_n93 : GoodIn wsX10_hall (wsX6_isHall) := ggX10_hall_X6_isHall
set_option maxRecDepth 20000 in
theorem ggX10_hall_X7_begin : GoodIn wsX10_hall wsX7_begin := goodIn_r _ [123, 124, 125, 61, 58, 62, 126, 127, 128, 129, 130, 9, 131, 132, 12, 133, 134, 135, 13, 14, 15, 16, 17, 18, 19, 20, 28, 29, 30, 31, 32, 33, 34, 35, 36, 37, 38, 39, 40, 41, 42, 43, 44, 45, 46, 47, 48, 49, 50, 51, 52, 53, 54, 55, 56, 57, 59, 60, 63, 64, 65, 66, 67, 68, 69, 70, 71, 72, 73, 74, 75, 76, 77, 78, 79, 80, 81, 82, 83, 84, 85, 86, 87, 88, 89, 90, 91, 92, 93, 94, 95, 96, 97, 98, 99, 100, 101, 102, 103, 104, 105, 106, 107, 108, 109, 110, 111, 112, 113, 114, 115, 116, 136, 137, 138, 139, 140, 141, 142, 143, 144, 145, 146, 147, 148, 229, 230, 231, 232, 233, 234, 235, 236, 237, 238, 239, 240, 241, 242] (by decide +kernel) (by decide +kernel)
set_option maxRecDepth 20000 in
theorem gX10_hall_X7_begin_n96 : GoodIn wsX10_hall (wsX7_begin) := ggX10_hall_X7_begin
set_option maxRecDepth 20000 in
theorem ggX10_hall_X6_kingKindCode : GoodIn wsX10_hall wsX6_kingKindCode := goodIn_r _ [151, 12, 13, 14, 15, 9, 16, 17, 18, 19, 20, 235, 236] (by decide +kernel) (by decide +kernel)
set_option maxRecDepth 20000 in
theorem gX10_hall_X6_kingKindCode_n100 : GoodIn wsX10_hall (wsX6_kingKindCode) := ggX10_hall_X6_kingKindCode
set_option maxRecDepth 20000 in
theorem ggX10_hall_X10_diceByLetter : GoodIn wsX10_hall wsX10_diceByLetter := goodIn_r _ [155, 156, 157, 29, 30, 31, 32, 33, 34, 35, 36, 37, 38, 39, 40, 41, 42, 43, 44, 45, 46, 47, 48, 49, 50, 51, 52, 53, 54, 55, 56, 57, 58, 59, 60, 61, 62, 63, 64, 65, 66, 67, 68, 69, 70, 71, 72, 73, 74, 75, 76, 77, 78, 79, 80, 81, 82, 83, 84, 85, 86, 87, 88, 89, 90, 91, 92, 93, 94, 95, 96, 97, 98, 99, 100, 101, 102, 103, 104, 105, 106, 107, 108, 109, 110, 111, 112, 113, 114, 115, 116, 158, 18, 19, 20, 219, 220, 221, 222, 223, 224, 225, 226, 227, 228] (by decide +kernel) (by decide +kernel)
set_option maxRecDepth 20000 in
theorem gX10_hall_X10_diceByLetter : GoodIn wsX10_hall (wsV RX10 103 RX10 yX10_diceByLetter wsX10_diceByLetter) := goodIn_app (goodIn_of _ (by decide +kernel)) ggX10_hall_X10_diceByLetter
set_option maxRecDepth 20000 in
theorem ggX10_hall_X6_cousinKindCode : GoodIn wsX10_hall wsX6_cousinKindCode := goodIn_r _ [161, 12, 13, 14, 15, 9, 16, 17, 18, 19, 20, 235, 236] (by decide +kernel) (by decide +kernel)
set_option maxRecDepth 20000 in
theorem gX10_hall_X6_cousinKindCode_n107 : GoodIn wsX10_hall (wsX6_cousinKindCode) := ggX10_hall_X6_cousinKindCode
set_option maxRecDepth 20000 in
theorem ggX10_hall_X5_reckon : GoodIn wsX10_hall wsX5_reckon := goodIn_r _ [165, 166, 167, 168, 169, 163, 170, 171, 172, 173, 174, 175, 176, 177, 178, 179, 19, 180, 181, 182, 183, 184, 185, 186, 187, 188, 189, 190, 191, 192, 193, 194, 195, 196, 197, 198, 199, 200, 201, 202, 203, 204, 205, 206, 207, 208, 209, 210, 211, 212, 213, 214, 215, 243, 244, 245, 246, 247, 248, 249, 250, 251, 252, 253, 254, 255, 256, 257, 258, 259] (by decide +kernel) (by decide +kernel)
set_option maxRecDepth 20000 in
theorem gX10_hall_X5_reckon_n110 : GoodIn wsX10_hall (wsX5_reckon) := ggX10_hall_X5_reckon
set_option maxRecDepth 20000 in
theorem ggX10_hall_X6_clear : GoodIn wsX10_hall wsX6_clear := goodIn_r _ [218, 12, 235, 236] (by decide +kernel) (by decide +kernel)
set_option maxRecDepth 20000 in
theorem gX10_hall_X6_clear_n86 : GoodIn wsX10_hall (wsX6_clear) := ggX10_hall_X6_clear
theorem dX10_hall_0 : decode cX10_hall 0 = .ok (.aload_n 0, 1) := by decide +kernel
theorem dX10_hall_1 : decode cX10_hall 1 = .ok (.getfield 10, 3) := by decide +kernel
theorem dX10_hall_4 : decode cX10_hall 4 = .ok (.invokevirtual 93, 3) := by decide +kernel
theorem dX10_hall_7 : decode cX10_hall 7 = .ok (.ifCond .ne 6, 3) := by decide +kernel
theorem dX10_hall_10 : decode cX10_hall 10 = .ok (.bipush (-103), 2) := by decide +kernel
theorem dX10_hall_12 : decode cX10_hall 12 = .ok (.ireturn, 1) := by decide +kernel
theorem dX10_hall_13 : decode cX10_hall 13 = .ok (.aload_n 0, 1) := by decide +kernel
theorem dX10_hall_14 : decode cX10_hall 14 = .ok (.getfield 56, 3) := by decide +kernel
theorem dX10_hall_17 : decode cX10_hall 17 = .ok (.aload_n 0, 1) := by decide +kernel
theorem dX10_hall_18 : decode cX10_hall 18 = .ok (.getfield 10, 3) := by decide +kernel
theorem dX10_hall_21 : decode cX10_hall 21 = .ok (.invokevirtual 96, 3) := by decide +kernel
theorem dX10_hall_24 : decode cX10_hall 24 = .ok (.aload_n 0, 1) := by decide +kernel
theorem dX10_hall_25 : decode cX10_hall 25 = .ok (.aload_n 0, 1) := by decide +kernel
theorem dX10_hall_26 : decode cX10_hall 26 = .ok (.aload_n 0, 1) := by decide +kernel
theorem dX10_hall_27 : decode cX10_hall 27 = .ok (.getfield 10, 3) := by decide +kernel
theorem dX10_hall_30 : decode cX10_hall 30 = .ok (.invokevirtual 100, 3) := by decide +kernel
theorem dX10_hall_33 : decode cX10_hall 33 = .ok (.invokevirtual 103, 3) := by decide +kernel
theorem dX10_hall_36 : decode cX10_hall 36 = .ok (.putfield 63, 3) := by decide +kernel
theorem dX10_hall_39 : decode cX10_hall 39 = .ok (.aload_n 0, 1) := by decide +kernel
theorem dX10_hall_40 : decode cX10_hall 40 = .ok (.aload_n 0, 1) := by decide +kernel
theorem dX10_hall_41 : decode cX10_hall 41 = .ok (.aload_n 0, 1) := by decide +kernel
theorem dX10_hall_42 : decode cX10_hall 42 = .ok (.getfield 10, 3) := by decide +kernel
theorem dX10_hall_45 : decode cX10_hall 45 = .ok (.invokevirtual 107, 3) := by decide +kernel
theorem dX10_hall_48 : decode cX10_hall 48 = .ok (.invokevirtual 103, 3) := by decide +kernel
theorem dX10_hall_51 : decode cX10_hall 51 = .ok (.putfield 67, 3) := by decide +kernel
theorem dX10_hall_54 : decode cX10_hall 54 = .ok (.aload_n 0, 1) := by decide +kernel
theorem dX10_hall_55 : decode cX10_hall 55 = .ok (.getfield 42, 3) := by decide +kernel
theorem dX10_hall_58 : decode cX10_hall 58 = .ok (.aload_n 0, 1) := by decide +kernel
theorem dX10_hall_59 : decode cX10_hall 59 = .ok (.getfield 63, 3) := by decide +kernel
theorem dX10_hall_62 : decode cX10_hall 62 = .ok (.aload_n 0, 1) := by decide +kernel
theorem dX10_hall_63 : decode cX10_hall 63 = .ok (.getfield 67, 3) := by decide +kernel
theorem dX10_hall_66 : decode cX10_hall 66 = .ok (.invokevirtual 110, 3) := by decide +kernel
theorem dX10_hall_69 : decode cX10_hall 69 = .ok (.aload_n 0, 1) := by decide +kernel
theorem dX10_hall_70 : decode cX10_hall 70 = .ok (.iconst 0, 1) := by decide +kernel
theorem dX10_hall_71 : decode cX10_hall 71 = .ok (.putfield 70, 3) := by decide +kernel
theorem dX10_hall_74 : decode cX10_hall 74 = .ok (.aload_n 0, 1) := by decide +kernel
theorem dX10_hall_75 : decode cX10_hall 75 = .ok (.dup, 1) := by decide +kernel
theorem dX10_hall_76 : decode cX10_hall 76 = .ok (.getfield 74, 3) := by decide +kernel
theorem dX10_hall_79 : decode cX10_hall 79 = .ok (.iconst 1, 1) := by decide +kernel
theorem dX10_hall_80 : decode cX10_hall 80 = .ok (.iadd, 1) := by decide +kernel
theorem dX10_hall_81 : decode cX10_hall 81 = .ok (.putfield 74, 3) := by decide +kernel
theorem dX10_hall_84 : decode cX10_hall 84 = .ok (.aload_n 0, 1) := by decide +kernel
theorem dX10_hall_85 : decode cX10_hall 85 = .ok (.getfield 10, 3) := by decide +kernel
theorem dX10_hall_88 : decode cX10_hall 88 = .ok (.invokevirtual 86, 3) := by decide +kernel
theorem dX10_hall_91 : decode cX10_hall 91 = .ok (.pop, 1) := by decide +kernel
theorem dX10_hall_92 : decode cX10_hall 92 = .ok (.aload_n 0, 1) := by decide +kernel
theorem dX10_hall_93 : decode cX10_hall 93 = .ok (.getfield 56, 3) := by decide +kernel
theorem dX10_hall_96 : decode cX10_hall 96 = .ok (.getfield 114, 3) := by decide +kernel
theorem dX10_hall_99 : decode cX10_hall 99 = .ok (.ireturn, 1) := by decide +kernel
set_option maxRecDepth 20000 in
theorem ggX10_thing_X7_has : GoodIn wsX10_thing wsX7_has := goodIn_r _ [5, 6, 7, 8, 9, 31, 32, 33, 34, 35, 36] (by decide +kernel) (by decide +kernel)
set_option maxRecDepth 20000 in
theorem gX10_thing_X7_has_n117 : GoodIn wsX10_thing (wsX7_has) := ggX10_thing_X7_has
set_option maxRecDepth 20000 in
theorem ggX10_thing_X10_isBelow : GoodIn wsX10_thing wsX10_isBelow := goodIn_r _ [9] (by decide +kernel) (by decide +kernel)
set_option maxRecDepth 20000 in
theorem gX10_thing_X10_isBelow : GoodIn wsX10_thing (va_wsS RX10 121 yX10_isBelow wsX10_isBelow) := goodIn_app (goodIn_of _ (by decide +kernel)) ggX10_thing_X10_isBelow
set_option maxRecDepth 20000 in
theorem ggX10_thing_X8_tell : GoodIn wsX10_thing wsX8_tell := goodIn_r _ [14, 15, 16, 17, 18, 19, 20, 37, 38, 39, 40, 41, 42] (by decide +kernel) (by decide +kernel)
set_option maxRecDepth 20000 in
theorem gX10_thing_X8_tell_n129 : GoodIn wsX10_thing (wsX8_tell) := ggX10_thing_X8_tell
theorem dX10_thing_0 : decode cX10_thing 0 = .ok (.aload_n 0, 1) := by decide +kernel
theorem dX10_thing_1 : decode cX10_thing 1 = .ok (.getfield 56, 3) := by decide +kernel
theorem dX10_thing_4 : decode cX10_thing 4 = .ok (.iload_n 1, 1) := by decide +kernel
theorem dX10_thing_5 : decode cX10_thing 5 = .ok (.invokevirtual 117, 3) := by decide +kernel
theorem dX10_thing_8 : decode cX10_thing 8 = .ok (.ifCond .ne 6, 3) := by decide +kernel
theorem dX10_thing_11 : decode cX10_thing 11 = .ok (.bipush (-101), 2) := by decide +kernel
theorem dX10_thing_13 : decode cX10_thing 13 = .ok (.ireturn, 1) := by decide +kernel
theorem dX10_thing_14 : decode cX10_thing 14 = .ok (.iload_n 2, 1) := by decide +kernel
theorem dX10_thing_15 : decode cX10_thing 15 = .ok (.bipush 6, 2) := by decide +kernel
theorem dX10_thing_17 : decode cX10_thing 17 = .ok (.invokestatic 121, 3) := by decide +kernel
theorem dX10_thing_20 : decode cX10_thing 20 = .ok (.ifCond .eq 19, 3) := by decide +kernel
theorem dX10_thing_23 : decode cX10_thing 23 = .ok (.aload_n 0, 1) := by decide +kernel
theorem dX10_thing_24 : decode cX10_thing 24 = .ok (.getfield 56, 3) := by decide +kernel
theorem dX10_thing_27 : decode cX10_thing 27 = .ok (.getfield 125, 3) := by decide +kernel
theorem dX10_thing_30 : decode cX10_thing 30 = .ok (.iload_n 1, 1) := by decide +kernel
theorem dX10_thing_31 : decode cX10_thing 31 = .ok (.aaload, 1) := by decide +kernel
theorem dX10_thing_32 : decode cX10_thing 32 = .ok (.iload_n 2, 1) := by decide +kernel
theorem dX10_thing_33 : decode cX10_thing 33 = .ok (.invokevirtual 129, 3) := by decide +kernel
theorem dX10_thing_36 : decode cX10_thing 36 = .ok (.goto 5, 3) := by decide +kernel
theorem dX10_thing_39 : decode cX10_thing 39 = .ok (.bipush (-102), 2) := by decide +kernel
theorem dX10_thing_41 : decode cX10_thing 41 = .ok (.ireturn, 1) := by decide +kernel
set_option maxRecDepth 20000 in
theorem ggX10_dice_X10_hasDice : GoodIn wsX10_dice wsX10_hasDice := goodIn_r _ [5, 6, 7, 8, 9, 10, 11, 62, 63, 64, 65, 66, 67, 68, 69, 70, 71, 72, 73, 74, 75, 76, 77] (by decide +kernel) (by decide +kernel)
set_option maxRecDepth 20000 in
theorem gX10_dice_X10_hasDice : GoodIn wsX10_dice (wsV RX10 134 RX10 yX10_hasDice wsX10_hasDice) := goodIn_app (goodIn_of _ (by decide +kernel)) ggX10_dice_X10_hasDice
set_option maxRecDepth 20000 in
theorem ggX10_dice_X10_isBelow : GoodIn wsX10_dice wsX10_isBelow := goodIn_r _ [14] (by decide +kernel) (by decide +kernel)
set_option maxRecDepth 20000 in
theorem gX10_dice_X10_isBelow : GoodIn wsX10_dice (va_wsS RX10 121 yX10_isBelow wsX10_isBelow) := goodIn_app (goodIn_of _ (by decide +kernel)) ggX10_dice_X10_isBelow
set_option maxRecDepth 20000 in
theorem ggX10_dice_X10_diceOf : GoodIn wsX10_dice wsX10_diceOf := goodIn_r _ [18, 19, 20, 62, 63, 64, 65, 66, 67, 68, 69, 70, 71] (by decide +kernel) (by decide +kernel)
set_option maxRecDepth 20000 in
theorem gX10_dice_X10_diceOf : GoodIn wsX10_dice (wsV RX10 137 RX10 yX10_diceOf wsX10_diceOf) := goodIn_app (goodIn_of _ (by decide +kernel)) ggX10_dice_X10_diceOf
set_option maxRecDepth 20000 in
theorem ggX10_dice_X1_tell : GoodIn wsX10_dice wsX1_tell := goodIn_r _ [26, 27, 28, 29, 30, 31, 32, 33, 25, 34, 35, 36, 37, 38, 39, 40, 41, 42, 43, 44, 45, 46, 47, 48, 49, 50, 51, 52, 53, 54, 55, 56, 78, 79, 80, 81, 82, 83, 84, 85, 86, 87, 88, 89, 90, 91, 92] (by decide +kernel) (by decide +kernel)
set_option maxRecDepth 20000 in
theorem gX10_dice_X1_tell_u140X0 : GoodIn wsX10_dice (va_wsU RX10 140 RX0 "KingdomAtDice$Dice" ⟨"KingdomAtDice$Dice", "tell", "(I)I"⟩ yX1_tell wsX1_tell) := goodIn_app (goodIn_of _ (by decide +kernel)) ggX10_dice_X1_tell
set_option maxRecDepth 20000 in
theorem gX10_dice_X1_tell : GoodIn wsX10_dice (wsV RX10 140 RX1 yX1_tell wsX1_tell) := goodIn_app (goodIn_of _ (by decide +kernel)) ggX10_dice_X1_tell
set_option maxRecDepth 20000 in
theorem gX10_dice_X1_tell_u140X3 : GoodIn wsX10_dice (va_wsU RX10 140 RX3 "KingdomAtDice$Dice" ⟨"KingdomAtDice$Dice", "tell", "(I)I"⟩ yX1_tell wsX1_tell) := goodIn_app (goodIn_of _ (by decide +kernel)) ggX10_dice_X1_tell
set_option maxRecDepth 20000 in
theorem gX10_dice_X1_tell_u140X4 : GoodIn wsX10_dice (va_wsU RX10 140 RX4 "KingdomAtDice$Dice" ⟨"KingdomAtDice$Dice", "tell", "(I)I"⟩ yX1_tell wsX1_tell) := goodIn_app (goodIn_of _ (by decide +kernel)) ggX10_dice_X1_tell
set_option maxRecDepth 20000 in
theorem gX10_dice_X1_tell_u140X9 : GoodIn wsX10_dice (va_wsU RX10 140 RX9 "KingdomAtDice$Dice" ⟨"KingdomAtDice$Dice", "tell", "(I)I"⟩ yX1_tell wsX1_tell) := goodIn_app (goodIn_of _ (by decide +kernel)) ggX10_dice_X1_tell
theorem dX10_dice_0 : decode cX10_dice 0 = .ok (.aload_n 0, 1) := by decide +kernel
theorem dX10_dice_1 : decode cX10_dice 1 = .ok (.iload_n 1, 1) := by decide +kernel
theorem dX10_dice_2 : decode cX10_dice 2 = .ok (.invokevirtual 134, 3) := by decide +kernel
theorem dX10_dice_5 : decode cX10_dice 5 = .ok (.ifCond .ne 6, 3) := by decide +kernel
theorem dX10_dice_8 : decode cX10_dice 8 = .ok (.bipush (-101), 2) := by decide +kernel
theorem dX10_dice_10 : decode cX10_dice 10 = .ok (.ireturn, 1) := by decide +kernel
theorem dX10_dice_11 : decode cX10_dice 11 = .ok (.iload_n 2, 1) := by decide +kernel
theorem dX10_dice_12 : decode cX10_dice 12 = .ok (.iconst 4, 1) := by decide +kernel
theorem dX10_dice_13 : decode cX10_dice 13 = .ok (.invokestatic 121, 3) := by decide +kernel
theorem dX10_dice_16 : decode cX10_dice 16 = .ok (.ifCond .eq 15, 3) := by decide +kernel
theorem dX10_dice_19 : decode cX10_dice 19 = .ok (.aload_n 0, 1) := by decide +kernel
theorem dX10_dice_20 : decode cX10_dice 20 = .ok (.iload_n 1, 1) := by decide +kernel
theorem dX10_dice_21 : decode cX10_dice 21 = .ok (.invokevirtual 137, 3) := by decide +kernel
theorem dX10_dice_24 : decode cX10_dice 24 = .ok (.iload_n 2, 1) := by decide +kernel
theorem dX10_dice_25 : decode cX10_dice 25 = .ok (.invokevirtual 140, 3) := by decide +kernel
theorem dX10_dice_28 : decode cX10_dice 28 = .ok (.goto 5, 3) := by decide +kernel
theorem dX10_dice_31 : decode cX10_dice 31 = .ok (.bipush (-102), 2) := by decide +kernel
theorem dX10_dice_33 : decode cX10_dice 33 = .ok (.ireturn, 1) := by decide +kernel
set_option maxRecDepth 20000 in
theorem ggX10_as_X10_hasDice : GoodIn wsX10_as wsX10_hasDice := goodIn_r _ [5, 6, 7, 8, 9, 10, 11, 28, 29, 30, 31, 32, 33, 34, 35, 36, 37, 38, 39, 40, 41, 42, 43] (by decide +kernel) (by decide +kernel)
set_option maxRecDepth 20000 in
theorem gX10_as_X10_hasDice : GoodIn wsX10_as (wsV RX10 134 RX10 yX10_hasDice wsX10_hasDice) := goodIn_app (goodIn_of _ (by decide +kernel)) ggX10_as_X10_hasDice
set_option maxRecDepth 20000 in
theorem ggX10_as_X10_isBelow : GoodIn wsX10_as wsX10_isBelow := goodIn_r _ [14] (by decide +kernel) (by decide +kernel)
set_option maxRecDepth 20000 in
theorem gX10_as_X10_isBelow : GoodIn wsX10_as (va_wsS RX10 121 yX10_isBelow wsX10_isBelow) := goodIn_app (goodIn_of _ (by decide +kernel)) ggX10_as_X10_isBelow
set_option maxRecDepth 20000 in
theorem ggX10_as_X10_diceOf : GoodIn wsX10_as wsX10_diceOf := goodIn_r _ [18, 19, 20, 28, 29, 30, 31, 32, 33, 34, 35, 36, 37] (by decide +kernel) (by decide +kernel)
set_option maxRecDepth 20000 in
theorem gX10_as_X10_diceOf : GoodIn wsX10_as (wsV RX10 137 RX10 yX10_diceOf wsX10_diceOf) := goodIn_app (goodIn_of _ (by decide +kernel)) ggX10_as_X10_diceOf

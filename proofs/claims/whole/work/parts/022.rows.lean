set_option maxRecDepth 20000 in
theorem ggX10_as_X10_isOfKind : GoodIn wsX10_as wsX10_isOfKind := goodIn_r _ [23, 24, 25, 26, 27] (by decide +kernel) (by decide +kernel)
set_option maxRecDepth 20000 in
theorem gX10_as_X10_isOfKind : GoodIn wsX10_as (va_wsS RX10 141 yX10_isOfKind wsX10_isOfKind) := goodIn_app (goodIn_of _ (by decide +kernel)) ggX10_as_X10_isOfKind
theorem dX10_as_0 : decode cX10_as 0 = .ok (.aload_n 0, 1) := by decide +kernel
theorem dX10_as_1 : decode cX10_as 1 = .ok (.iload_n 1, 1) := by decide +kernel
theorem dX10_as_2 : decode cX10_as 2 = .ok (.invokevirtual 134, 3) := by decide +kernel
theorem dX10_as_5 : decode cX10_as 5 = .ok (.ifCond .ne 6, 3) := by decide +kernel
theorem dX10_as_8 : decode cX10_as 8 = .ok (.bipush (-101), 2) := by decide +kernel
theorem dX10_as_10 : decode cX10_as 10 = .ok (.ireturn, 1) := by decide +kernel
theorem dX10_as_11 : decode cX10_as 11 = .ok (.iload_n 2, 1) := by decide +kernel
theorem dX10_as_12 : decode cX10_as 12 = .ok (.iconst 5, 1) := by decide +kernel
theorem dX10_as_13 : decode cX10_as 13 = .ok (.invokestatic 121, 3) := by decide +kernel
theorem dX10_as_16 : decode cX10_as 16 = .ok (.ifCond .ne 6, 3) := by decide +kernel
theorem dX10_as_19 : decode cX10_as 19 = .ok (.bipush (-102), 2) := by decide +kernel
theorem dX10_as_21 : decode cX10_as 21 = .ok (.ireturn, 1) := by decide +kernel
theorem dX10_as_22 : decode cX10_as 22 = .ok (.aload_n 0, 1) := by decide +kernel
theorem dX10_as_23 : decode cX10_as 23 = .ok (.iload_n 1, 1) := by decide +kernel
theorem dX10_as_24 : decode cX10_as 24 = .ok (.invokevirtual 137, 3) := by decide +kernel
theorem dX10_as_27 : decode cX10_as 27 = .ok (.iload_n 2, 1) := by decide +kernel
theorem dX10_as_28 : decode cX10_as 28 = .ok (.invokestatic 141, 3) := by decide +kernel
theorem dX10_as_31 : decode cX10_as 31 = .ok (.ifCond .eq 7, 3) := by decide +kernel
theorem dX10_as_34 : decode cX10_as 34 = .ok (.iload_n 1, 1) := by decide +kernel
theorem dX10_as_35 : decode cX10_as 35 = .ok (.goto 4, 3) := by decide +kernel
theorem dX10_as_38 : decode cX10_as 38 = .ok (.iconst (-1), 1) := by decide +kernel
theorem dX10_as_39 : decode cX10_as 39 = .ok (.ireturn, 1) := by decide +kernel
set_option maxRecDepth 20000 in
theorem ggX10_ways_X10_hasDice : GoodIn wsX10_ways wsX10_hasDice := goodIn_r _ [5, 6, 7, 8, 9, 10, 11, 38, 39, 40, 41, 42, 43, 44, 45, 46, 47, 48, 49, 50, 51, 52, 53] (by decide +kernel) (by decide +kernel)
set_option maxRecDepth 20000 in
theorem gX10_ways_X10_hasDice : GoodIn wsX10_ways (wsV RX10 134 RX10 yX10_hasDice wsX10_hasDice) := goodIn_app (goodIn_of _ (by decide +kernel)) ggX10_ways_X10_hasDice
set_option maxRecDepth 20000 in
theorem ggX10_ways_X10_isSum : GoodIn wsX10_ways wsX10_isSum := goodIn_r _ [14] (by decide +kernel) (by decide +kernel)
set_option maxRecDepth 20000 in
theorem gX10_ways_X10_isSum : GoodIn wsX10_ways (va_wsS RX10 145 yX10_isSum wsX10_isSum) := goodIn_app (goodIn_of _ (by decide +kernel)) ggX10_ways_X10_isSum
set_option maxRecDepth 20000 in
theorem ggX10_ways_X10_diceOf : GoodIn wsX10_ways wsX10_diceOf := goodIn_r _ [18, 19, 20, 38, 39, 40, 41, 42, 43, 44, 45, 46, 47] (by decide +kernel) (by decide +kernel)
set_option maxRecDepth 20000 in
theorem gX10_ways_X10_diceOf : GoodIn wsX10_ways (wsV RX10 137 RX10 yX10_diceOf wsX10_diceOf) := goodIn_app (goodIn_of _ (by decide +kernel)) ggX10_ways_X10_diceOf
set_option maxRecDepth 20000 in
theorem ggX10_ways_X1_waysOf : GoodIn wsX10_ways wsX1_waysOf := goodIn_r _ [26, 27, 28, 13, 4, 14, 54, 55, 56, 57, 58, 59, 60, 61, 62, 63, 64, 65, 66, 67, 68] (by decide +kernel) (by decide +kernel)
set_option maxRecDepth 20000 in
theorem gX10_ways_X1_waysOf_u148X0 : GoodIn wsX10_ways (va_wsU RX10 148 RX0 "KingdomAtDice$Dice" ⟨"KingdomAtDice$Dice", "waysOf", "(I)I"⟩ yX1_waysOf wsX1_waysOf) := goodIn_app (goodIn_of _ (by decide +kernel)) ggX10_ways_X1_waysOf
set_option maxRecDepth 20000 in
theorem gX10_ways_X1_waysOf : GoodIn wsX10_ways (wsV RX10 148 RX1 yX1_waysOf wsX1_waysOf) := goodIn_app (goodIn_of _ (by decide +kernel)) ggX10_ways_X1_waysOf
set_option maxRecDepth 20000 in
theorem gX10_ways_X1_waysOf_u148X3 : GoodIn wsX10_ways (va_wsU RX10 148 RX3 "KingdomAtDice$Dice" ⟨"KingdomAtDice$Dice", "waysOf", "(I)I"⟩ yX1_waysOf wsX1_waysOf) := goodIn_app (goodIn_of _ (by decide +kernel)) ggX10_ways_X1_waysOf
set_option maxRecDepth 20000 in
theorem gX10_ways_X1_waysOf_u148X4 : GoodIn wsX10_ways (va_wsU RX10 148 RX4 "KingdomAtDice$Dice" ⟨"KingdomAtDice$Dice", "waysOf", "(I)I"⟩ yX1_waysOf wsX1_waysOf) := goodIn_app (goodIn_of _ (by decide +kernel)) ggX10_ways_X1_waysOf
set_option maxRecDepth 20000 in
theorem ggX10_ways_X9_waysOf : GoodIn wsX10_ways wsX9_waysOf := goodIn_r _ [37, 13, 4, 14] (by decide +kernel) (by decide +kernel)
set_option maxRecDepth 20000 in
theorem gX10_ways_X9_waysOf_u148X9 : GoodIn wsX10_ways (va_wsO RX10 148 RX9 "KingdomAtDice$Dice" ⟨"KingdomAtDice$Dice", "waysOf", "(I)I"⟩ yX9_waysOf wsX9_waysOf) := goodIn_app (goodIn_of _ (by decide +kernel)) ggX10_ways_X9_waysOf
theorem dX10_ways_0 : decode cX10_ways 0 = .ok (.aload_n 0, 1) := by decide +kernel
theorem dX10_ways_1 : decode cX10_ways 1 = .ok (.iload_n 1, 1) := by decide +kernel
theorem dX10_ways_2 : decode cX10_ways 2 = .ok (.invokevirtual 134, 3) := by decide +kernel
theorem dX10_ways_5 : decode cX10_ways 5 = .ok (.ifCond .ne 6, 3) := by decide +kernel
theorem dX10_ways_8 : decode cX10_ways 8 = .ok (.bipush (-101), 2) := by decide +kernel
theorem dX10_ways_10 : decode cX10_ways 10 = .ok (.ireturn, 1) := by decide +kernel
theorem dX10_ways_11 : decode cX10_ways 11 = .ok (.iload_n 2, 1) := by decide +kernel
theorem dX10_ways_12 : decode cX10_ways 12 = .ok (.invokestatic 145, 3) := by decide +kernel
theorem dX10_ways_15 : decode cX10_ways 15 = .ok (.ifCond .eq 15, 3) := by decide +kernel
theorem dX10_ways_18 : decode cX10_ways 18 = .ok (.aload_n 0, 1) := by decide +kernel
theorem dX10_ways_19 : decode cX10_ways 19 = .ok (.iload_n 1, 1) := by decide +kernel
theorem dX10_ways_20 : decode cX10_ways 20 = .ok (.invokevirtual 137, 3) := by decide +kernel
theorem dX10_ways_23 : decode cX10_ways 23 = .ok (.iload_n 2, 1) := by decide +kernel
theorem dX10_ways_24 : decode cX10_ways 24 = .ok (.invokevirtual 148, 3) := by decide +kernel
theorem dX10_ways_27 : decode cX10_ways 27 = .ok (.goto 5, 3) := by decide +kernel
theorem dX10_ways_30 : decode cX10_ways 30 = .ok (.bipush (-102), 2) := by decide +kernel
theorem dX10_ways_32 : decode cX10_ways 32 = .ok (.ireturn, 1) := by decide +kernel
set_option maxRecDepth 20000 in
theorem ggX10_play_X7_has : GoodIn wsX10_play wsX7_has := goodIn_r _ [7, 8, 9, 10, 11, 67, 68, 69, 70, 71, 72] (by decide +kernel) (by decide +kernel)
set_option maxRecDepth 20000 in
theorem gX10_play_X7_has_n117 : GoodIn wsX10_play (wsX7_has) := ggX10_play_X7_has
set_option maxRecDepth 20000 in
theorem ggX10_play_X1_waysOf : GoodIn wsX10_play wsX1_waysOf := goodIn_r _ [17, 18, 19, 20, 10, 21, 73, 74, 75, 76, 77, 78, 79, 80, 81, 82, 83, 84, 85, 86, 87] (by decide +kernel) (by decide +kernel)
set_option maxRecDepth 20000 in
theorem gX10_play_X1_waysOf_u148X0 : GoodIn wsX10_play (va_wsU RX10 148 RX0 "KingdomAtDice$Dice" ⟨"KingdomAtDice$Dice", "waysOf", "(I)I"⟩ yX1_waysOf wsX1_waysOf) := goodIn_app (goodIn_of _ (by decide +kernel)) ggX10_play_X1_waysOf
set_option maxRecDepth 20000 in
theorem gX10_play_X1_waysOf : GoodIn wsX10_play (wsV RX10 148 RX1 yX1_waysOf wsX1_waysOf) := goodIn_app (goodIn_of _ (by decide +kernel)) ggX10_play_X1_waysOf
set_option maxRecDepth 20000 in
theorem gX10_play_X1_waysOf_u148X3 : GoodIn wsX10_play (va_wsU RX10 148 RX3 "KingdomAtDice$Dice" ⟨"KingdomAtDice$Dice", "waysOf", "(I)I"⟩ yX1_waysOf wsX1_waysOf) := goodIn_app (goodIn_of _ (by decide +kernel)) ggX10_play_X1_waysOf
set_option maxRecDepth 20000 in
theorem gX10_play_X1_waysOf_u148X4 : GoodIn wsX10_play (va_wsU RX10 148 RX4 "KingdomAtDice$Dice" ⟨"KingdomAtDice$Dice", "waysOf", "(I)I"⟩ yX1_waysOf wsX1_waysOf) := goodIn_app (goodIn_of _ (by decide +kernel)) ggX10_play_X1_waysOf
set_option maxRecDepth 20000 in
theorem ggX10_play_X9_waysOf : GoodIn wsX10_play wsX9_waysOf := goodIn_r _ [30, 20, 10, 21] (by decide +kernel) (by decide +kernel)
set_option maxRecDepth 20000 in
theorem gX10_play_X9_waysOf_u148X9 : GoodIn wsX10_play (va_wsO RX10 148 RX9 "KingdomAtDice$Dice" ⟨"KingdomAtDice$Dice", "waysOf", "(I)I"⟩ yX9_waysOf wsX9_waysOf) := goodIn_app (goodIn_of _ (by decide +kernel)) ggX10_play_X9_waysOf
set_option maxRecDepth 20000 in
theorem ggX10_play_X7_mayStake : GoodIn wsX10_play wsX7_mayStake := goodIn_r _ [33, 34, 35, 4, 6, 5, 7, 8, 9, 10, 11, 67, 68, 69, 70, 71, 72, 88, 89, 90, 91, 92, 93] (by decide +kernel) (by decide +kernel)
set_option maxRecDepth 20000 in
theorem gX10_play_X7_mayStake_n151 : GoodIn wsX10_play (wsX7_mayStake) := ggX10_play_X7_mayStake
set_option maxRecDepth 20000 in
theorem ggX10_play_X7_settle : GoodIn wsX10_play wsX7_settle := goodIn_r _ [38, 39, 34, 40, 41, 31, 32, 5, 33, 35, 4, 6, 7, 8, 9, 10, 11, 42, 43, 44, 45, 46, 47, 48, 49, 50, 51, 52, 53, 54, 55, 56, 67, 68, 69, 70, 71, 72, 88, 89, 90, 91, 92, 93] (by decide +kernel) (by decide +kernel)
set_option maxRecDepth 20000 in
theorem gX10_play_X7_settle_n157 : GoodIn wsX10_play (wsX7_settle) := ggX10_play_X7_settle
theorem dX10_play_0 : decode cX10_play 0 = .ok (.aload_n 0, 1) := by decide +kernel
theorem dX10_play_1 : decode cX10_play 1 = .ok (.getfield 56, 3) := by decide +kernel
theorem dX10_play_4 : decode cX10_play 4 = .ok (.iload_n 1, 1) := by decide +kernel
theorem dX10_play_5 : decode cX10_play 5 = .ok (.invokevirtual 117, 3) := by decide +kernel
theorem dX10_play_8 : decode cX10_play 8 = .ok (.ifCond .eq 19, 3) := by decide +kernel
theorem dX10_play_11 : decode cX10_play 11 = .ok (.iload_n 2, 1) := by decide +kernel
theorem dX10_play_12 : decode cX10_play 12 = .ok (.iconst (-1), 1) := by decide +kernel
theorem dX10_play_13 : decode cX10_play 13 = .ok (.if_icmp .eq 17, 3) := by decide +kernel
theorem dX10_play_16 : decode cX10_play 16 = .ok (.aload_n 0, 1) := by decide +kernel
theorem dX10_play_17 : decode cX10_play 17 = .ok (.getfield 56, 3) := by decide +kernel
theorem dX10_play_20 : decode cX10_play 20 = .ok (.iload_n 2, 1) := by decide +kernel
theorem dX10_play_21 : decode cX10_play 21 = .ok (.invokevirtual 117, 3) := by decide +kernel
theorem dX10_play_24 : decode cX10_play 24 = .ok (.ifCond .ne 6, 3) := by decide +kernel
theorem dX10_play_27 : decode cX10_play 27 = .ok (.bipush (-101), 2) := by decide +kernel
theorem dX10_play_29 : decode cX10_play 29 = .ok (.ireturn, 1) := by decide +kernel
theorem dX10_play_30 : decode cX10_play 30 = .ok (.aload_n 0, 1) := by decide +kernel
theorem dX10_play_31 : decode cX10_play 31 = .ok (.getfield 63, 3) := by decide +kernel
theorem dX10_play_34 : decode cX10_play 34 = .ok (.iload_n 3, 1) := by decide +kernel
theorem dX10_play_35 : decode cX10_play 35 = .ok (.invokevirtual 148, 3) := by decide +kernel
theorem dX10_play_38 : decode cX10_play 38 = .ok (.ifCond .eq 15, 3) := by decide +kernel
theorem dX10_play_41 : decode cX10_play 41 = .ok (.aload_n 0, 1) := by decide +kernel
theorem dX10_play_42 : decode cX10_play 42 = .ok (.getfield 67, 3) := by decide +kernel
theorem dX10_play_45 : decode cX10_play 45 = .ok (.iload 4, 2) := by decide +kernel
theorem dX10_play_47 : decode cX10_play 47 = .ok (.invokevirtual 148, 3) := by decide +kernel
theorem dX10_play_50 : decode cX10_play 50 = .ok (.ifCond .ne 6, 3) := by decide +kernel
theorem dX10_play_53 : decode cX10_play 53 = .ok (.bipush (-102), 2) := by decide +kernel
theorem dX10_play_55 : decode cX10_play 55 = .ok (.ireturn, 1) := by decide +kernel
theorem dX10_play_56 : decode cX10_play 56 = .ok (.aload_n 0, 1) := by decide +kernel
theorem dX10_play_57 : decode cX10_play 57 = .ok (.getfield 56, 3) := by decide +kernel
theorem dX10_play_60 : decode cX10_play 60 = .ok (.iload_n 1, 1) := by decide +kernel
theorem dX10_play_61 : decode cX10_play 61 = .ok (.iload_n 2, 1) := by decide +kernel
theorem dX10_play_62 : decode cX10_play 62 = .ok (.invokevirtual 151, 3) := by decide +kernel
theorem dX10_play_65 : decode cX10_play 65 = .ok (.ifCond .ne 6, 3) := by decide +kernel
theorem dX10_play_68 : decode cX10_play 68 = .ok (.bipush (-103), 2) := by decide +kernel
theorem dX10_play_70 : decode cX10_play 70 = .ok (.ireturn, 1) := by decide +kernel
theorem dX10_play_71 : decode cX10_play 71 = .ok (.aload_n 0, 1) := by decide +kernel
theorem dX10_play_72 : decode cX10_play 72 = .ok (.getfield 56, 3) := by decide +kernel
theorem dX10_play_75 : decode cX10_play 75 = .ok (.getfield 154, 3) := by decide +kernel
theorem dX10_play_78 : decode cX10_play 78 = .ok (.bipush 30, 2) := by decide +kernel
theorem dX10_play_80 : decode cX10_play 80 = .ok (.if_icmp .lt 6, 3) := by decide +kernel
theorem dX10_play_83 : decode cX10_play 83 = .ok (.bipush (-104), 2) := by decide +kernel
theorem dX10_play_85 : decode cX10_play 85 = .ok (.ireturn, 1) := by decide +kernel
theorem dX10_play_86 : decode cX10_play 86 = .ok (.aload_n 0, 1) := by decide +kernel
theorem dX10_play_87 : decode cX10_play 87 = .ok (.getfield 56, 3) := by decide +kernel
theorem dX10_play_90 : decode cX10_play 90 = .ok (.iload_n 1, 1) := by decide +kernel
theorem dX10_play_91 : decode cX10_play 91 = .ok (.iload_n 2, 1) := by decide +kernel
theorem dX10_play_92 : decode cX10_play 92 = .ok (.iload_n 3, 1) := by decide +kernel
theorem dX10_play_93 : decode cX10_play 93 = .ok (.iload 4, 2) := by decide +kernel
theorem dX10_play_95 : decode cX10_play 95 = .ok (.invokevirtual 157, 3) := by decide +kernel
theorem dX10_play_98 : decode cX10_play 98 = .ok (.ireturn, 1) := by decide +kernel
set_option maxRecDepth 20000 in
theorem ggX10_odds_X10_isBelow : GoodIn wsX10_odds wsX10_isBelow := goodIn_r _ [6] (by decide +kernel) (by decide +kernel)
set_option maxRecDepth 20000 in
theorem gX10_odds_X10_isBelow : GoodIn wsX10_odds (va_wsS RX10 121 yX10_isBelow wsX10_isBelow) := goodIn_app (goodIn_of _ (by decide +kernel)) ggX10_odds_X10_isBelow
set_option maxRecDepth 20000 in
theorem ggX10_odds_X7_hasHall : GoodIn wsX10_odds wsX7_hasHall := goodIn_r _ [10, 11, 35, 36, 37, 38, 39, 40] (by decide +kernel) (by decide +kernel)
set_option maxRecDepth 20000 in
theorem gX10_odds_X7_hasHall_n161 : GoodIn wsX10_odds (wsX7_hasHall) := ggX10_odds_X7_hasHall
set_option maxRecDepth 20000 in
theorem ggX10_odds_X5_waysTo : GoodIn wsX10_odds wsX5_waysTo := goodIn_r _ [15, 16, 4, 5, 6, 33, 34] (by decide +kernel) (by decide +kernel)
set_option maxRecDepth 20000 in
theorem gX10_odds_X5_waysTo_n164 : GoodIn wsX10_odds (wsX5_waysTo) := ggX10_odds_X5_waysTo
set_option maxRecDepth 20000 in
theorem ggX10_odds_X10_lowestTerm : GoodIn wsX10_odds wsX10_lowestTerm := goodIn_r _ [19, 20, 21, 5, 22] (by decide +kernel) (by decide +kernel)
set_option maxRecDepth 20000 in
theorem gX10_odds_X10_lowestTerm : GoodIn wsX10_odds (va_wsS RX10 170 yX10_lowestTerm wsX10_lowestTerm) := goodIn_app (goodIn_of _ (by decide +kernel)) ggX10_odds_X10_lowestTerm
theorem dX10_odds_0 : decode cX10_odds 0 = .ok (.iload_n 1, 1) := by decide +kernel
theorem dX10_odds_1 : decode cX10_odds 1 = .ok (.bipush 6, 2) := by decide +kernel
theorem dX10_odds_3 : decode cX10_odds 3 = .ok (.invokestatic 121, 3) := by decide +kernel
theorem dX10_odds_6 : decode cX10_odds 6 = .ok (.ifCond .ne 6, 3) := by decide +kernel
theorem dX10_odds_9 : decode cX10_odds 9 = .ok (.bipush (-102), 2) := by decide +kernel
theorem dX10_odds_11 : decode cX10_odds 11 = .ok (.ireturn, 1) := by decide +kernel
theorem dX10_odds_12 : decode cX10_odds 12 = .ok (.aload_n 0, 1) := by decide +kernel
theorem dX10_odds_13 : decode cX10_odds 13 = .ok (.getfield 56, 3) := by decide +kernel
theorem dX10_odds_16 : decode cX10_odds 16 = .ok (.invokevirtual 161, 3) := by decide +kernel
theorem dX10_odds_19 : decode cX10_odds 19 = .ok (.ifCond .ne 6, 3) := by decide +kernel
theorem dX10_odds_22 : decode cX10_odds 22 = .ok (.bipush (-103), 2) := by decide +kernel
theorem dX10_odds_24 : decode cX10_odds 24 = .ok (.ireturn, 1) := by decide +kernel
theorem dX10_odds_25 : decode cX10_odds 25 = .ok (.aload_n 0, 1) := by decide +kernel
theorem dX10_odds_26 : decode cX10_odds 26 = .ok (.getfield 42, 3) := by decide +kernel
theorem dX10_odds_29 : decode cX10_odds 29 = .ok (.iload_n 1, 1) := by decide +kernel
theorem dX10_odds_30 : decode cX10_odds 30 = .ok (.iconst 2, 1) := by decide +kernel
theorem dX10_odds_31 : decode cX10_odds 31 = .ok (.idiv, 1) := by decide +kernel
theorem dX10_odds_32 : decode cX10_odds 32 = .ok (.invokevirtual 164, 3) := by decide +kernel
theorem dX10_odds_35 : decode cX10_odds 35 = .ok (.i2l, 1) := by decide +kernel
theorem dX10_odds_36 : decode cX10_odds 36 = .ok (.aload_n 0, 1) := by decide +kernel
theorem dX10_odds_37 : decode cX10_odds 37 = .ok (.getfield 42, 3) := by decide +kernel
theorem dX10_odds_40 : decode cX10_odds 40 = .ok (.getfield 167, 3) := by decide +kernel
theorem dX10_odds_43 : decode cX10_odds 43 = .ok (.i2l, 1) := by decide +kernel
theorem dX10_odds_44 : decode cX10_odds 44 = .ok (.iload_n 1, 1) := by decide +kernel
theorem dX10_odds_45 : decode cX10_odds 45 = .ok (.iconst 2, 1) := by decide +kernel
theorem dX10_odds_46 : decode cX10_odds 46 = .ok (.irem, 1) := by decide +kernel
theorem dX10_odds_47 : decode cX10_odds 47 = .ok (.invokestatic 170, 3) := by decide +kernel
theorem dX10_odds_50 : decode cX10_odds 50 = .ok (.l2i, 1) := by decide +kernel
theorem dX10_odds_51 : decode cX10_odds 51 = .ok (.ireturn, 1) := by decide +kernel
set_option maxRecDepth 20000 in
theorem ggX10_back_X7_has : GoodIn wsX10_back wsX7_has := goodIn_r _ [9, 10, 11, 12, 13, 51, 52, 53, 54, 55, 56] (by decide +kernel) (by decide +kernel)
set_option maxRecDepth 20000 in
theorem gX10_back_X7_has_n117 : GoodIn wsX10_back (wsX7_has) := ggX10_back_X7_has
set_option maxRecDepth 20000 in
theorem ggX10_back_X10_isBelow : GoodIn wsX10_back wsX10_isBelow := goodIn_r _ [13] (by decide +kernel) (by decide +kernel)
set_option maxRecDepth 20000 in
theorem gX10_back_X10_isBelow : GoodIn wsX10_back (va_wsS RX10 121 yX10_isBelow wsX10_isBelow) := goodIn_app (goodIn_of _ (by decide +kernel)) ggX10_back_X10_isBelow
set_option maxRecDepth 20000 in
theorem ggX10_back_X7_stakesFor : GoodIn wsX10_back wsX7_stakesFor := goodIn_r _ [17, 10, 18, 19, 20, 7, 21, 22, 23, 6, 8, 9, 11, 12, 13, 51, 52, 53, 54, 55, 56, 57, 58, 59, 60, 61, 62] (by decide +kernel) (by decide +kernel)
set_option maxRecDepth 20000 in
theorem gX10_back_X7_stakesFor_n183 : GoodIn wsX10_back (wsX7_stakesFor) := ggX10_back_X7_stakesFor
set_option maxRecDepth 20000 in
theorem ggX10_back_X10_waysBack : GoodIn wsX10_back wsX10_waysBack := goodIn_r _ [26, 27, 28, 29, 30, 31, 11, 12, 13, 32, 33, 34, 24, 25, 63, 64] (by decide +kernel) (by decide +kernel)
set_option maxRecDepth 20000 in
theorem gX10_back_X10_waysBack : GoodIn wsX10_back (va_wsS RX10 186 yX10_waysBack wsX10_waysBack) := goodIn_app (goodIn_of _ (by decide +kernel)) ggX10_back_X10_waysBack
set_option maxRecDepth 20000 in
theorem ggX10_back_X10_power : GoodIn wsX10_back wsX10_power := goodIn_r _ [34] (by decide +kernel) (by decide +kernel)
set_option maxRecDepth 20000 in
theorem gX10_back_X10_power : GoodIn wsX10_back (va_wsS RX10 190 yX10_power wsX10_power) := goodIn_app (goodIn_of _ (by decide +kernel)) ggX10_back_X10_power
set_option maxRecDepth 20000 in
theorem ggX10_back_X10_lowestTerm : GoodIn wsX10_back wsX10_lowestTerm := goodIn_r _ [37, 38, 39, 12, 40] (by decide +kernel) (by decide +kernel)
set_option maxRecDepth 20000 in
theorem gX10_back_X10_lowestTerm : GoodIn wsX10_back (va_wsS RX10 170 yX10_lowestTerm wsX10_lowestTerm) := goodIn_app (goodIn_of _ (by decide +kernel)) ggX10_back_X10_lowestTerm
theorem dX10_back_0 : decode cX10_back 0 = .ok (.aload_n 0, 1) := by decide +kernel
theorem dX10_back_1 : decode cX10_back 1 = .ok (.getfield 56, 3) := by decide +kernel
theorem dX10_back_4 : decode cX10_back 4 = .ok (.iload_n 1, 1) := by decide +kernel
theorem dX10_back_5 : decode cX10_back 5 = .ok (.invokevirtual 117, 3) := by decide +kernel
theorem dX10_back_8 : decode cX10_back 8 = .ok (.ifCond .ne 7, 3) := by decide +kernel
theorem dX10_back_11 : decode cX10_back 11 = .ok (.ldc2_w 174, 3) := by decide +kernel
theorem dX10_back_14 : decode cX10_back 14 = .ok (.lreturn, 1) := by decide +kernel
theorem dX10_back_15 : decode cX10_back 15 = .ok (.iload_n 2, 1) := by decide +kernel
theorem dX10_back_16 : decode cX10_back 16 = .ok (.iconst 1, 1) := by decide +kernel
theorem dX10_back_17 : decode cX10_back 17 = .ok (.if_icmp .lt 16, 3) := by decide +kernel
theorem dX10_back_20 : decode cX10_back 20 = .ok (.iload_n 2, 1) := by decide +kernel
theorem dX10_back_21 : decode cX10_back 21 = .ok (.iconst 5, 1) := by decide +kernel
theorem dX10_back_22 : decode cX10_back 22 = .ok (.if_icmp .gt 11, 3) := by decide +kernel
theorem dX10_back_25 : decode cX10_back 25 = .ok (.iload_n 3, 1) := by decide +kernel
theorem dX10_back_26 : decode cX10_back 26 = .ok (.iconst 2, 1) := by decide +kernel
theorem dX10_back_27 : decode cX10_back 27 = .ok (.invokestatic 121, 3) := by decide +kernel
theorem dX10_back_30 : decode cX10_back 30 = .ok (.ifCond .ne 7, 3) := by decide +kernel
theorem dX10_back_33 : decode cX10_back 33 = .ok (.ldc2_w 176, 3) := by decide +kernel
theorem dX10_back_36 : decode cX10_back 36 = .ok (.lreturn, 1) := by decide +kernel
theorem dX10_back_37 : decode cX10_back 37 = .ok (.aload_n 0, 1) := by decide +kernel
theorem dX10_back_38 : decode cX10_back 38 = .ok (.getfield 56, 3) := by decide +kernel
theorem dX10_back_41 : decode cX10_back 41 = .ok (.getfield 125, 3) := by decide +kernel
theorem dX10_back_44 : decode cX10_back 44 = .ok (.iload_n 1, 1) := by decide +kernel
theorem dX10_back_45 : decode cX10_back 45 = .ok (.aaload, 1) := by decide +kernel
theorem dX10_back_46 : decode cX10_back 46 = .ok (.getfield 178, 3) := by decide +kernel
theorem dX10_back_49 : decode cX10_back 49 = .ok (.ifCond .eq 7, 3) := by decide +kernel
theorem dX10_back_52 : decode cX10_back 52 = .ok (.ldc2_w 181, 3) := by decide +kernel
theorem dX10_back_55 : decode cX10_back 55 = .ok (.lreturn, 1) := by decide +kernel
theorem dX10_back_56 : decode cX10_back 56 = .ok (.aload_n 0, 1) := by decide +kernel
theorem dX10_back_57 : decode cX10_back 57 = .ok (.getfield 42, 3) := by decide +kernel
theorem dX10_back_60 : decode cX10_back 60 = .ok (.iload_n 2, 1) := by decide +kernel
theorem dX10_back_61 : decode cX10_back 61 = .ok (.aload_n 0, 1) := by decide +kernel
theorem dX10_back_62 : decode cX10_back 62 = .ok (.getfield 56, 3) := by decide +kernel
theorem dX10_back_65 : decode cX10_back 65 = .ok (.iload_n 1, 1) := by decide +kernel
theorem dX10_back_66 : decode cX10_back 66 = .ok (.invokevirtual 183, 3) := by decide +kernel
theorem dX10_back_69 : decode cX10_back 69 = .ok (.invokestatic 186, 3) := by decide +kernel
theorem dX10_back_72 : decode cX10_back 72 = .ok (.lstore 4, 2) := by decide +kernel
theorem dX10_back_74 : decode cX10_back 74 = .ok (.lload 4, 2) := by decide +kernel
theorem dX10_back_76 : decode cX10_back 76 = .ok (.aload_n 0, 1) := by decide +kernel
theorem dX10_back_77 : decode cX10_back 77 = .ok (.getfield 42, 3) := by decide +kernel
theorem dX10_back_80 : decode cX10_back 80 = .ok (.getfield 167, 3) := by decide +kernel
theorem dX10_back_83 : decode cX10_back 83 = .ok (.i2l, 1) := by decide +kernel
theorem dX10_back_84 : decode cX10_back 84 = .ok (.iload_n 2, 1) := by decide +kernel
theorem dX10_back_85 : decode cX10_back 85 = .ok (.invokestatic 190, 3) := by decide +kernel
theorem dX10_back_88 : decode cX10_back 88 = .ok (.iload_n 3, 1) := by decide +kernel
theorem dX10_back_89 : decode cX10_back 89 = .ok (.invokestatic 170, 3) := by decide +kernel
theorem dX10_back_92 : decode cX10_back 92 = .ok (.lreturn, 1) := by decide +kernel
set_option maxRecDepth 20000 in
theorem ggX10_laws_X10_isBelow : GoodIn wsX10_laws wsX10_isBelow := goodIn_r _ [5] (by decide +kernel) (by decide +kernel)
set_option maxRecDepth 20000 in
theorem gX10_laws_X10_isBelow : GoodIn wsX10_laws (va_wsS RX10 121 yX10_isBelow wsX10_isBelow) := goodIn_app (goodIn_of _ (by decide +kernel)) ggX10_laws_X10_isBelow
set_option maxRecDepth 20000 in
theorem ggX10_laws_X7_hasHall : GoodIn wsX10_laws wsX7_hasHall := goodIn_r _ [9, 10, 39, 40, 41, 42, 43, 44] (by decide +kernel) (by decide +kernel)
set_option maxRecDepth 20000 in
theorem gX10_laws_X7_hasHall_n161 : GoodIn wsX10_laws (wsX7_hasHall) := ggX10_laws_X7_hasHall
set_option maxRecDepth 20000 in
theorem ggX10_laws_X7_kingsBy : GoodIn wsX10_laws wsX7_kingsBy := goodIn_r _ [13, 10, 14, 15, 16, 17, 18, 19, 20, 21, 22, 23, 24, 25, 39, 40, 41, 42, 43, 44, 45, 46, 47, 48, 49, 50] (by decide +kernel) (by decide +kernel)
set_option maxRecDepth 20000 in
theorem gX10_laws_X7_kingsBy_n194 : GoodIn wsX10_laws (wsX7_kingsBy) := ggX10_laws_X7_kingsBy
set_option maxRecDepth 20000 in
theorem ggX10_laws_X7_worthOf : GoodIn wsX10_laws wsX7_worthOf := goodIn_r _ [28, 10, 14, 39, 40, 41, 42, 43, 44, 45, 46, 47, 48, 49, 50] (by decide +kernel) (by decide +kernel)
set_option maxRecDepth 20000 in
theorem gX10_laws_X7_worthOf_n197 : GoodIn wsX10_laws (wsX7_worthOf) := ggX10_laws_X7_worthOf
theorem dX10_laws_0 : decode cX10_laws 0 = .ok (.iload_n 1, 1) := by decide +kernel
theorem dX10_laws_1 : decode cX10_laws 1 = .ok (.iconst 4, 1) := by decide +kernel
theorem dX10_laws_2 : decode cX10_laws 2 = .ok (.invokestatic 121, 3) := by decide +kernel
theorem dX10_laws_5 : decode cX10_laws 5 = .ok (.ifCond .eq 11, 3) := by decide +kernel
theorem dX10_laws_8 : decode cX10_laws 8 = .ok (.iload_n 2, 1) := by decide +kernel
theorem dX10_laws_9 : decode cX10_laws 9 = .ok (.iconst 2, 1) := by decide +kernel
theorem dX10_laws_10 : decode cX10_laws 10 = .ok (.invokestatic 121, 3) := by decide +kernel
theorem dX10_laws_13 : decode cX10_laws 13 = .ok (.ifCond .ne 6, 3) := by decide +kernel
theorem dX10_laws_16 : decode cX10_laws 16 = .ok (.bipush (-102), 2) := by decide +kernel
theorem dX10_laws_18 : decode cX10_laws 18 = .ok (.ireturn, 1) := by decide +kernel
theorem dX10_laws_19 : decode cX10_laws 19 = .ok (.aload_n 0, 1) := by decide +kernel
theorem dX10_laws_20 : decode cX10_laws 20 = .ok (.getfield 56, 3) := by decide +kernel
theorem dX10_laws_23 : decode cX10_laws 23 = .ok (.invokevirtual 161, 3) := by decide +kernel
theorem dX10_laws_26 : decode cX10_laws 26 = .ok (.ifCond .ne 6, 3) := by decide +kernel
theorem dX10_laws_29 : decode cX10_laws 29 = .ok (.bipush (-103), 2) := by decide +kernel
theorem dX10_laws_31 : decode cX10_laws 31 = .ok (.ireturn, 1) := by decide +kernel
theorem dX10_laws_32 : decode cX10_laws 32 = .ok (.aload_n 0, 1) := by decide +kernel
theorem dX10_laws_33 : decode cX10_laws 33 = .ok (.getfield 56, 3) := by decide +kernel
theorem dX10_laws_36 : decode cX10_laws 36 = .ok (.iload_n 1, 1) := by decide +kernel
theorem dX10_laws_37 : decode cX10_laws 37 = .ok (.invokevirtual 194, 3) := by decide +kernel
theorem dX10_laws_40 : decode cX10_laws 40 = .ok (.istore_n 3, 1) := by decide +kernel
theorem dX10_laws_41 : decode cX10_laws 41 = .ok (.iload_n 2, 1) := by decide +kernel
theorem dX10_laws_42 : decode cX10_laws 42 = .ok (.ifCond .ne 7, 3) := by decide +kernel
theorem dX10_laws_45 : decode cX10_laws 45 = .ok (.iload_n 3, 1) := by decide +kernel
theorem dX10_laws_46 : decode cX10_laws 46 = .ok (.goto 11, 3) := by decide +kernel
theorem dX10_laws_49 : decode cX10_laws 49 = .ok (.aload_n 0, 1) := by decide +kernel
theorem dX10_laws_50 : decode cX10_laws 50 = .ok (.getfield 56, 3) := by decide +kernel
theorem dX10_laws_53 : decode cX10_laws 53 = .ok (.iload_n 3, 1) := by decide +kernel
theorem dX10_laws_54 : decode cX10_laws 54 = .ok (.invokevirtual 197, 3) := by decide +kernel
theorem dX10_laws_57 : decode cX10_laws 57 = .ok (.ireturn, 1) := by decide +kernel
set_option maxRecDepth 20000 in
theorem ggX10_see_X10_isSum : GoodIn wsX10_see wsX10_isSum := goodIn_r _ [5] (by decide +kernel) (by decide +kernel)
set_option maxRecDepth 20000 in
theorem gX10_see_X10_isSum : GoodIn wsX10_see (va_wsS RX10 145 yX10_isSum wsX10_isSum) := goodIn_app (goodIn_of _ (by decide +kernel)) ggX10_see_X10_isSum
set_option maxRecDepth 20000 in
theorem ggX10_see_X7_addSeen : GoodIn wsX10_see wsX7_addSeen := goodIn_r _ [9, 10, 11, 12, 4, 13, 24, 25, 26, 27, 28, 29] (by decide +kernel) (by decide +kernel)
set_option maxRecDepth 20000 in
theorem gX10_see_X7_addSeen_n203 : GoodIn wsX10_see (wsX7_addSeen) := ggX10_see_X7_addSeen
theorem dX10_see_0 : decode cX10_see 0 = .ok (.iload_n 1, 1) := by decide +kernel
theorem dX10_see_1 : decode cX10_see 1 = .ok (.invokestatic 145, 3) := by decide +kernel
theorem dX10_see_4 : decode cX10_see 4 = .ok (.ifCond .ne 6, 3) := by decide +kernel
theorem dX10_see_7 : decode cX10_see 7 = .ok (.bipush (-102), 2) := by decide +kernel
theorem dX10_see_9 : decode cX10_see 9 = .ok (.ireturn, 1) := by decide +kernel
theorem dX10_see_10 : decode cX10_see 10 = .ok (.aload_n 0, 1) := by decide +kernel
theorem dX10_see_11 : decode cX10_see 11 = .ok (.getfield 56, 3) := by decide +kernel
theorem dX10_see_14 : decode cX10_see 14 = .ok (.getfield 200, 3) := by decide +kernel
theorem dX10_see_17 : decode cX10_see 17 = .ok (.bipush 8, 2) := by decide +kernel
theorem dX10_see_19 : decode cX10_see 19 = .ok (.if_icmp .lt 8, 3) := by decide +kernel
theorem dX10_see_22 : decode cX10_see 22 = .ok (.bipush (-104), 2) := by decide +kernel
theorem dX10_see_24 : decode cX10_see 24 = .ok (.goto 11, 3) := by decide +kernel
theorem dX10_see_27 : decode cX10_see 27 = .ok (.aload_n 0, 1) := by decide +kernel
theorem dX10_see_28 : decode cX10_see 28 = .ok (.getfield 56, 3) := by decide +kernel
theorem dX10_see_31 : decode cX10_see 31 = .ok (.iload_n 1, 1) := by decide +kernel
theorem dX10_see_32 : decode cX10_see 32 = .ok (.invokevirtual 203, 3) := by decide +kernel
theorem dX10_see_35 : decode cX10_see 35 = .ok (.ireturn, 1) := by decide +kernel
set_option maxRecDepth 20000 in
theorem ggX10_forget_X7_clearSeen : GoodIn wsX10_forget wsX7_clearSeen := goodIn_r _ [5, 6, 17, 18, 19, 20, 21, 22] (by decide +kernel) (by decide +kernel)
set_option maxRecDepth 20000 in
theorem gX10_forget_X7_clearSeen_n206 : GoodIn wsX10_forget (wsX7_clearSeen) := ggX10_forget_X7_clearSeen
theorem dX10_forget_0 : decode cX10_forget 0 = .ok (.aload_n 0, 1) := by decide +kernel
theorem dX10_forget_1 : decode cX10_forget 1 = .ok (.getfield 56, 3) := by decide +kernel
theorem dX10_forget_4 : decode cX10_forget 4 = .ok (.invokevirtual 206, 3) := by decide +kernel
theorem dX10_forget_7 : decode cX10_forget 7 = .ok (.ireturn, 1) := by decide +kernel
set_option maxRecDepth 20000 in
theorem ggX10_which_X7_waysSeenBy : GoodIn wsX10_which wsX7_waysSeenBy := goodIn_r _ [6, 7, 8, 9, 10, 11, 12, 13, 14, 15, 16, 17, 18, 19, 20, 21, 22, 23, 24, 25, 26, 27, 28, 39, 40, 41, 42, 43, 44, 45, 46, 47, 48, 49, 50, 51, 52, 53, 54, 55, 56, 57, 58, 59] (by decide +kernel) (by decide +kernel)
set_option maxRecDepth 20000 in
theorem gX10_which_X7_waysSeenBy_n209 : GoodIn wsX10_which (wsX7_waysSeenBy) := ggX10_which_X7_waysSeenBy
theorem dX10_which_0 : decode cX10_which 0 = .ok (.iconst 0, 1) := by decide +kernel
theorem dX10_which_1 : decode cX10_which 1 = .ok (.istore_n 1, 1) := by decide +kernel
theorem dX10_which_2 : decode cX10_which 2 = .ok (.iconst 0, 1) := by decide +kernel
theorem dX10_which_3 : decode cX10_which 3 = .ok (.istore_n 2, 1) := by decide +kernel
theorem dX10_which_4 : decode cX10_which 4 = .ok (.iload_n 2, 1) := by decide +kernel
theorem dX10_which_5 : decode cX10_which 5 = .ok (.aload_n 0, 1) := by decide +kernel
theorem dX10_which_6 : decode cX10_which 6 = .ok (.getfield 35, 3) := by decide +kernel
theorem dX10_which_9 : decode cX10_which 9 = .ok (.arraylength, 1) := by decide +kernel
theorem dX10_which_10 : decode cX10_which 10 = .ok (.if_icmp .ge 33, 3) := by decide +kernel
theorem dX10_which_13 : decode cX10_which 13 = .ok (.aload_n 0, 1) := by decide +kernel
theorem dX10_which_14 : decode cX10_which 14 = .ok (.getfield 56, 3) := by decide +kernel
theorem dX10_which_17 : decode cX10_which 17 = .ok (.aload_n 0, 1) := by decide +kernel
theorem dX10_which_18 : decode cX10_which 18 = .ok (.getfield 35, 3) := by decide +kernel
theorem dX10_which_21 : decode cX10_which 21 = .ok (.iload_n 2, 1) := by decide +kernel
theorem dX10_which_22 : decode cX10_which 22 = .ok (.aaload, 1) := by decide +kernel
theorem dX10_which_23 : decode cX10_which 23 = .ok (.invokevirtual 209, 3) := by decide +kernel
theorem dX10_which_26 : decode cX10_which 26 = .ok (.lconst 0, 1) := by decide +kernel
theorem dX10_which_27 : decode cX10_which 27 = .ok (.lcmp, 1) := by decide +kernel
theorem dX10_which_28 : decode cX10_which 28 = .ok (.ifCond .le 9, 3) := by decide +kernel
theorem dX10_which_31 : decode cX10_which 31 = .ok (.iload_n 1, 1) := by decide +kernel
theorem dX10_which_32 : decode cX10_which 32 = .ok (.iconst 1, 1) := by decide +kernel
theorem dX10_which_33 : decode cX10_which 33 = .ok (.iload_n 2, 1) := by decide +kernel
theorem dX10_which_34 : decode cX10_which 34 = .ok (.ishl, 1) := by decide +kernel
theorem dX10_which_35 : decode cX10_which 35 = .ok (.ior, 1) := by decide +kernel
theorem dX10_which_36 : decode cX10_which 36 = .ok (.istore_n 1, 1) := by decide +kernel
theorem dX10_which_37 : decode cX10_which 37 = .ok (.iinc 2 1, 3) := by decide +kernel
theorem dX10_which_40 : decode cX10_which 40 = .ok (.goto (-36), 3) := by decide +kernel
theorem dX10_which_43 : decode cX10_which 43 = .ok (.iload_n 1, 1) := by decide +kernel
theorem dX10_which_44 : decode cX10_which 44 = .ok (.ireturn, 1) := by decide +kernel
set_option maxRecDepth 20000 in
theorem ggX10_likely_X7_waysSeenBy : GoodIn wsX10_likely wsX7_waysSeenBy := goodIn_r _ [6, 7, 8, 9, 10, 11, 12, 13, 14, 15, 16, 17, 18, 19, 20, 21, 22, 23, 24, 25, 26, 27, 28, 68, 69, 70, 71, 72, 73, 74, 75, 76, 77, 78, 79, 80, 81, 82, 83, 84, 85, 86, 87, 88] (by decide +kernel) (by decide +kernel)
set_option maxRecDepth 20000 in
theorem gX10_likely_X7_waysSeenBy_n209 : GoodIn wsX10_likely (wsX7_waysSeenBy) := ggX10_likely_X7_waysSeenBy
set_option maxRecDepth 20000 in
theorem ggX10_likely_X1_wayMany : GoodIn wsX10_likely wsX1_wayMany := goodIn_r _ [33, 34, 35, 36, 37, 13, 38, 16, 15, 39, 40, 41, 42, 43, 74, 75, 76, 77, 78, 79, 80, 81, 82, 83, 84, 85, 86, 87, 88] (by decide +kernel) (by decide +kernel)
set_option maxRecDepth 20000 in
theorem gX10_likely_X1_wayMany_u213X0 : GoodIn wsX10_likely (va_wsU RX10 213 RX0 "KingdomAtDice$Dice" ⟨"KingdomAtDice$Dice", "wayMany", "()I"⟩ yX1_wayMany wsX1_wayMany) := goodIn_app (goodIn_of _ (by decide +kernel)) ggX10_likely_X1_wayMany
set_option maxRecDepth 20000 in
theorem gX10_likely_X1_wayMany : GoodIn wsX10_likely (wsV RX10 213 RX1 yX1_wayMany wsX1_wayMany) := goodIn_app (goodIn_of _ (by decide +kernel)) ggX10_likely_X1_wayMany
set_option maxRecDepth 20000 in
theorem gX10_likely_X1_wayMany_u213X3 : GoodIn wsX10_likely (va_wsU RX10 213 RX3 "KingdomAtDice$Dice" ⟨"KingdomAtDice$Dice", "wayMany", "()I"⟩ yX1_wayMany wsX1_wayMany) := goodIn_app (goodIn_of _ (by decide +kernel)) ggX10_likely_X1_wayMany
set_option maxRecDepth 20000 in
theorem gX10_likely_X1_wayMany_u213X4 : GoodIn wsX10_likely (va_wsU RX10 213 RX4 "KingdomAtDice$Dice" ⟨"KingdomAtDice$Dice", "wayMany", "()I"⟩ yX1_wayMany wsX1_wayMany) := goodIn_app (goodIn_of _ (by decide +kernel)) ggX10_likely_X1_wayMany
set_option maxRecDepth 20000 in
theorem ggX10_likely_X9_wayMany : GoodIn wsX10_likely wsX9_wayMany := goodIn_r _ [51, 52, 53, 54, 37, 13, 38, 16, 15, 74, 75, 76, 77, 78, 79, 80, 81, 82, 83, 84, 85, 86, 87, 88] (by decide +kernel) (by decide +kernel)
set_option maxRecDepth 20000 in
theorem gX10_likely_X9_wayMany_u213X9 : GoodIn wsX10_likely (va_wsO RX10 213 RX9 "KingdomAtDice$Dice" ⟨"KingdomAtDice$Dice", "wayMany", "()I"⟩ yX9_wayMany wsX9_wayMany) := goodIn_app (goodIn_of _ (by decide +kernel)) ggX10_likely_X9_wayMany
set_option maxRecDepth 20000 in
theorem ggX10_likely_X10_power : GoodIn wsX10_likely wsX10_power := goodIn_r _ [57] (by decide +kernel) (by decide +kernel)
set_option maxRecDepth 20000 in
theorem gX10_likely_X10_power : GoodIn wsX10_likely (va_wsS RX10 190 yX10_power wsX10_power) := goodIn_app (goodIn_of _ (by decide +kernel)) ggX10_likely_X10_power
theorem dX10_likely_0 : decode cX10_likely 0 = .ok (.iconst (-1), 1) := by decide +kernel
theorem dX10_likely_1 : decode cX10_likely 1 = .ok (.istore_n 1, 1) := by decide +kernel
theorem dX10_likely_2 : decode cX10_likely 2 = .ok (.lconst 0, 1) := by decide +kernel
theorem dX10_likely_3 : decode cX10_likely 3 = .ok (.lstore_n 2, 1) := by decide +kernel
theorem dX10_likely_4 : decode cX10_likely 4 = .ok (.lconst 1, 1) := by decide +kernel
theorem dX10_likely_5 : decode cX10_likely 5 = .ok (.lstore 4, 2) := by decide +kernel
theorem dX10_likely_7 : decode cX10_likely 7 = .ok (.iconst 0, 1) := by decide +kernel
theorem dX10_likely_8 : decode cX10_likely 8 = .ok (.istore 6, 2) := by decide +kernel
theorem dX10_likely_10 : decode cX10_likely 10 = .ok (.iload 6, 2) := by decide +kernel
theorem dX10_likely_12 : decode cX10_likely 12 = .ok (.aload_n 0, 1) := by decide +kernel
theorem dX10_likely_13 : decode cX10_likely 13 = .ok (.getfield 35, 3) := by decide +kernel
theorem dX10_likely_16 : decode cX10_likely 16 = .ok (.arraylength, 1) := by decide +kernel
theorem dX10_likely_17 : decode cX10_likely 17 = .ok (.if_icmp .ge 71, 3) := by decide +kernel
theorem dX10_likely_20 : decode cX10_likely 20 = .ok (.aload_n 0, 1) := by decide +kernel
theorem dX10_likely_21 : decode cX10_likely 21 = .ok (.getfield 56, 3) := by decide +kernel
theorem dX10_likely_24 : decode cX10_likely 24 = .ok (.aload_n 0, 1) := by decide +kernel
theorem dX10_likely_25 : decode cX10_likely 25 = .ok (.getfield 35, 3) := by decide +kernel
theorem dX10_likely_28 : decode cX10_likely 28 = .ok (.iload 6, 2) := by decide +kernel
theorem dX10_likely_30 : decode cX10_likely 30 = .ok (.aaload, 1) := by decide +kernel
theorem dX10_likely_31 : decode cX10_likely 31 = .ok (.invokevirtual 209, 3) := by decide +kernel
theorem dX10_likely_34 : decode cX10_likely 34 = .ok (.lstore 7, 2) := by decide +kernel
theorem dX10_likely_36 : decode cX10_likely 36 = .ok (.aload_n 0, 1) := by decide +kernel
theorem dX10_likely_37 : decode cX10_likely 37 = .ok (.getfield 35, 3) := by decide +kernel
theorem dX10_likely_40 : decode cX10_likely 40 = .ok (.iload 6, 2) := by decide +kernel
theorem dX10_likely_42 : decode cX10_likely 42 = .ok (.aaload, 1) := by decide +kernel
theorem dX10_likely_43 : decode cX10_likely 43 = .ok (.invokevirtual 213, 3) := by decide +kernel
theorem dX10_likely_46 : decode cX10_likely 46 = .ok (.i2l, 1) := by decide +kernel
theorem dX10_likely_47 : decode cX10_likely 47 = .ok (.aload_n 0, 1) := by decide +kernel
theorem dX10_likely_48 : decode cX10_likely 48 = .ok (.getfield 56, 3) := by decide +kernel
theorem dX10_likely_51 : decode cX10_likely 51 = .ok (.getfield 200, 3) := by decide +kernel
theorem dX10_likely_54 : decode cX10_likely 54 = .ok (.invokestatic 190, 3) := by decide +kernel
theorem dX10_likely_57 : decode cX10_likely 57 = .ok (.lstore 9, 2) := by decide +kernel
theorem dX10_likely_59 : decode cX10_likely 59 = .ok (.lload 7, 2) := by decide +kernel
theorem dX10_likely_61 : decode cX10_likely 61 = .ok (.lload 4, 2) := by decide +kernel
theorem dX10_likely_63 : decode cX10_likely 63 = .ok (.lmul, 1) := by decide +kernel
theorem dX10_likely_64 : decode cX10_likely 64 = .ok (.lload_n 2, 1) := by decide +kernel
theorem dX10_likely_65 : decode cX10_likely 65 = .ok (.lload 9, 2) := by decide +kernel
theorem dX10_likely_67 : decode cX10_likely 67 = .ok (.lmul, 1) := by decide +kernel
theorem dX10_likely_68 : decode cX10_likely 68 = .ok (.lcmp, 1) := by decide +kernel
theorem dX10_likely_69 : decode cX10_likely 69 = .ok (.ifCond .le 13, 3) := by decide +kernel
theorem dX10_likely_72 : decode cX10_likely 72 = .ok (.iload 6, 2) := by decide +kernel
theorem dX10_likely_74 : decode cX10_likely 74 = .ok (.istore_n 1, 1) := by decide +kernel
theorem dX10_likely_75 : decode cX10_likely 75 = .ok (.lload 7, 2) := by decide +kernel
theorem dX10_likely_77 : decode cX10_likely 77 = .ok (.lstore_n 2, 1) := by decide +kernel
theorem dX10_likely_78 : decode cX10_likely 78 = .ok (.lload 9, 2) := by decide +kernel
theorem dX10_likely_80 : decode cX10_likely 80 = .ok (.lstore 4, 2) := by decide +kernel
theorem dX10_likely_82 : decode cX10_likely 82 = .ok (.iinc 6 1, 3) := by decide +kernel
theorem dX10_likely_85 : decode cX10_likely 85 = .ok (.goto (-75), 3) := by decide +kernel
theorem dX10_likely_88 : decode cX10_likely 88 = .ok (.iload_n 1, 1) := by decide +kernel
theorem dX10_likely_89 : decode cX10_likely 89 = .ok (.ireturn, 1) := by decide +kernel
set_option maxRecDepth 20000 in
theorem ggX10_halls_X10_isBelow : GoodIn wsX10_halls wsX10_isBelow := goodIn_r _ [8] (by decide +kernel) (by decide +kernel)
set_option maxRecDepth 20000 in
theorem gX10_halls_X10_isBelow : GoodIn wsX10_halls (va_wsS RX10 121 yX10_isBelow wsX10_isBelow) := goodIn_app (goodIn_of _ (by decide +kernel)) ggX10_halls_X10_isBelow
set_option maxRecDepth 20000 in
theorem ggX10_halls_X7_hasHall : GoodIn wsX10_halls wsX7_hasHall := goodIn_r _ [12, 13, 99, 100, 101, 102, 103, 104] (by decide +kernel) (by decide +kernel)
set_option maxRecDepth 20000 in
theorem gX10_halls_X7_hasHall_n161 : GoodIn wsX10_halls (wsX7_hasHall) := ggX10_halls_X7_hasHall
set_option maxRecDepth 20000 in
theorem ggX10_halls_X7_kingsBy : GoodIn wsX10_halls wsX7_kingsBy := goodIn_r _ [16, 13, 17, 18, 19, 20, 21, 22, 23, 24, 25, 26, 27, 28, 99, 100, 101, 102, 103, 104, 105, 106, 107, 108, 109, 110] (by decide +kernel) (by decide +kernel)
set_option maxRecDepth 20000 in
theorem gX10_halls_X7_kingsBy_n194 : GoodIn wsX10_halls (wsX7_kingsBy) := ggX10_halls_X7_kingsBy
set_option maxRecDepth 20000 in
theorem ggX10_halls_X2_begin : GoodIn wsX10_halls wsX2_begin := goodIn_r _ [32, 33, 111] (by decide +kernel) (by decide +kernel)
set_option maxRecDepth 20000 in
theorem gX10_halls_X2_begin_n219 : GoodIn wsX10_halls (wsX2_begin) := ggX10_halls_X2_begin
set_option maxRecDepth 20000 in
theorem ggX10_halls_J6_lowestOneBit_0f7a4 : GoodIn wsX10_halls wsJ6_lowestOneBit_0f7a4 := goodIn_r _ [37] (by decide +kernel) (by decide +kernel)
set_option maxRecDepth 20000 in
theorem gX10_halls_J6_lowestOneBit_0f7a4 : GoodIn wsX10_halls (va_wsS RX10 222 yJ6_lowestOneBit_0f7a4 wsJ6_lowestOneBit_0f7a4) := goodIn_app (goodIn_of _ (by decide +kernel)) ggX10_halls_J6_lowestOneBit_0f7a4
set_option maxRecDepth 20000 in
theorem ggX10_halls_X1_fall : GoodIn wsX10_halls wsX1_fall := goodIn_r _ [43, 44, 45, 46, 47, 48, 42, 49, 50, 51, 52, 53, 54, 55, 56, 30, 57, 58, 59, 33, 60, 61, 62, 112, 113, 114, 115, 116, 117, 118, 119, 120, 121, 122, 123, 124, 125, 126, 111] (by decide +kernel) (by decide +kernel)
set_option maxRecDepth 20000 in
theorem gX10_halls_X1_fall_u227X0 : GoodIn wsX10_halls (va_wsU RX10 227 RX0 "KingdomAtDice$Dice" ⟨"KingdomAtDice$Dice", "fall", "(LKingdomAtDice$Draws;)I"⟩ yX1_fall wsX1_fall) := goodIn_app (goodIn_of _ (by decide +kernel)) ggX10_halls_X1_fall
set_option maxRecDepth 20000 in
theorem gX10_halls_X1_fall : GoodIn wsX10_halls (wsV RX10 227 RX1 yX1_fall wsX1_fall) := goodIn_app (goodIn_of _ (by decide +kernel)) ggX10_halls_X1_fall
set_option maxRecDepth 20000 in
theorem gX10_halls_X1_fall_u227X3 : GoodIn wsX10_halls (va_wsU RX10 227 RX3 "KingdomAtDice$Dice" ⟨"KingdomAtDice$Dice", "fall", "(LKingdomAtDice$Draws;)I"⟩ yX1_fall wsX1_fall) := goodIn_app (goodIn_of _ (by decide +kernel)) ggX10_halls_X1_fall
set_option maxRecDepth 20000 in
theorem gX10_halls_X1_fall_u227X4 : GoodIn wsX10_halls (va_wsU RX10 227 RX4 "KingdomAtDice$Dice" ⟨"KingdomAtDice$Dice", "fall", "(LKingdomAtDice$Draws;)I"⟩ yX1_fall wsX1_fall) := goodIn_app (goodIn_of _ (by decide +kernel)) ggX10_halls_X1_fall
set_option maxRecDepth 20000 in
theorem ggX10_halls_X9_fall : GoodIn wsX10_halls wsX9_fall := goodIn_r _ [71, 72, 73, 74, 75, 76, 48, 42, 49, 50, 44, 56, 30, 57, 58, 59, 33, 60, 61, 62, 112, 113, 114, 115, 116, 117, 118, 119, 120, 121, 122, 123, 124, 125, 126, 111] (by decide +kernel) (by decide +kernel)
set_option maxRecDepth 20000 in
theorem gX10_halls_X9_fall_u227X9 : GoodIn wsX10_halls (va_wsO RX10 227 RX9 "KingdomAtDice$Dice" ⟨"KingdomAtDice$Dice", "fall", "(LKingdomAtDice$Draws;)I"⟩ yX9_fall wsX9_fall) := goodIn_app (goodIn_of _ (by decide +kernel)) ggX10_halls_X9_fall
set_option maxRecDepth 20000 in
theorem ggX10_halls_X7_worthOf : GoodIn wsX10_halls wsX7_worthOf := goodIn_r _ [79, 13, 17, 99, 100, 101, 102, 103, 104, 105, 106, 107, 108, 109, 110] (by decide +kernel) (by decide +kernel)
set_option maxRecDepth 20000 in
theorem gX10_halls_X7_worthOf_n197 : GoodIn wsX10_halls (wsX7_worthOf) := ggX10_halls_X7_worthOf
set_option maxRecDepth 20000 in
theorem ggX10_halls_J6_bitCount_0f7a4 : GoodIn wsX10_halls wsJ6_bitCount_0f7a4 := goodIn_r _ [82, 83, 84, 85] (by decide +kernel) (by decide +kernel)
set_option maxRecDepth 20000 in
theorem gX10_halls_J6_bitCount_0f7a4 : GoodIn wsX10_halls (va_wsS RX10 231 yJ6_bitCount_0f7a4 wsJ6_bitCount_0f7a4) := goodIn_app (goodIn_of _ (by decide +kernel)) ggX10_halls_J6_bitCount_0f7a4
set_option maxRecDepth 20000 in
theorem ggX10_halls_X2_seedNow : GoodIn wsX10_halls wsX2_seedNow := goodIn_r _ [88, 33, 111] (by decide +kernel) (by decide +kernel)
set_option maxRecDepth 20000 in
theorem gX10_halls_X2_seedNow_n234 : GoodIn wsX10_halls (wsX2_seedNow) := ggX10_halls_X2_seedNow
theorem dX10_halls_0 : decode cX10_halls 0 = .ok (.iload_n 1, 1) := by decide +kernel
theorem dX10_halls_1 : decode cX10_halls 1 = .ok (.iconst 1, 1) := by decide +kernel
theorem dX10_halls_2 : decode cX10_halls 2 = .ok (.if_icmp .lt 21, 3) := by decide +kernel
theorem dX10_halls_5 : decode cX10_halls 5 = .ok (.iload_n 1, 1) := by decide +kernel
theorem dX10_halls_6 : decode cX10_halls 6 = .ok (.bipush 60, 2) := by decide +kernel
theorem dX10_halls_8 : decode cX10_halls 8 = .ok (.if_icmp .gt 15, 3) := by decide +kernel
theorem dX10_halls_11 : decode cX10_halls 11 = .ok (.iload_n 2, 1) := by decide +kernel
theorem dX10_halls_12 : decode cX10_halls 12 = .ok (.ifCond .lt 11, 3) := by decide +kernel
theorem dX10_halls_15 : decode cX10_halls 15 = .ok (.iload_n 3, 1) := by decide +kernel
theorem dX10_halls_16 : decode cX10_halls 16 = .ok (.iconst 3, 1) := by decide +kernel
theorem dX10_halls_17 : decode cX10_halls 17 = .ok (.invokestatic 121, 3) := by decide +kernel
theorem dX10_halls_20 : decode cX10_halls 20 = .ok (.ifCond .ne 6, 3) := by decide +kernel
theorem dX10_halls_23 : decode cX10_halls 23 = .ok (.bipush (-102), 2) := by decide +kernel
theorem dX10_halls_25 : decode cX10_halls 25 = .ok (.ireturn, 1) := by decide +kernel
theorem dX10_halls_26 : decode cX10_halls 26 = .ok (.aload_n 0, 1) := by decide +kernel
theorem dX10_halls_27 : decode cX10_halls 27 = .ok (.getfield 56, 3) := by decide +kernel
theorem dX10_halls_30 : decode cX10_halls 30 = .ok (.invokevirtual 161, 3) := by decide +kernel
theorem dX10_halls_33 : decode cX10_halls 33 = .ok (.ifCond .ne 6, 3) := by decide +kernel
theorem dX10_halls_36 : decode cX10_halls 36 = .ok (.bipush (-103), 2) := by decide +kernel
theorem dX10_halls_38 : decode cX10_halls 38 = .ok (.ireturn, 1) := by decide +kernel
theorem dX10_halls_39 : decode cX10_halls 39 = .ok (.aload_n 0, 1) := by decide +kernel
theorem dX10_halls_40 : decode cX10_halls 40 = .ok (.getfield 56, 3) := by decide +kernel
theorem dX10_halls_43 : decode cX10_halls 43 = .ok (.iconst 0, 1) := by decide +kernel
theorem dX10_halls_44 : decode cX10_halls 44 = .ok (.invokevirtual 194, 3) := by decide +kernel
theorem dX10_halls_47 : decode cX10_halls 47 = .ok (.istore 4, 2) := by decide +kernel
theorem dX10_halls_49 : decode cX10_halls 49 = .ok (.aload_n 0, 1) := by decide +kernel
theorem dX10_halls_50 : decode cX10_halls 50 = .ok (.getfield 56, 3) := by decide +kernel
theorem dX10_halls_53 : decode cX10_halls 53 = .ok (.getfield 216, 3) := by decide +kernel
theorem dX10_halls_56 : decode cX10_halls 56 = .ok (.istore 5, 2) := by decide +kernel
theorem dX10_halls_58 : decode cX10_halls 58 = .ok (.aload_n 0, 1) := by decide +kernel
theorem dX10_halls_59 : decode cX10_halls 59 = .ok (.getfield 49, 3) := by decide +kernel
theorem dX10_halls_62 : decode cX10_halls 62 = .ok (.iload_n 2, 1) := by decide +kernel
theorem dX10_halls_63 : decode cX10_halls 63 = .ok (.invokevirtual 219, 3) := by decide +kernel
theorem dX10_halls_66 : decode cX10_halls 66 = .ok (.iconst 0, 1) := by decide +kernel
theorem dX10_halls_67 : decode cX10_halls 67 = .ok (.istore 6, 2) := by decide +kernel
theorem dX10_halls_69 : decode cX10_halls 69 = .ok (.iload 6, 2) := by decide +kernel
theorem dX10_halls_71 : decode cX10_halls 71 = .ok (.iload_n 1, 1) := by decide +kernel
theorem dX10_halls_72 : decode cX10_halls 72 = .ok (.if_icmp .ge 85, 3) := by decide +kernel
theorem dX10_halls_75 : decode cX10_halls 75 = .ok (.iload 4, 2) := by decide +kernel
theorem dX10_halls_77 : decode cX10_halls 77 = .ok (.ifCond .eq 80, 3) := by decide +kernel
theorem dX10_halls_80 : decode cX10_halls 80 = .ok (.iload 4, 2) := by decide +kernel
theorem dX10_halls_82 : decode cX10_halls 82 = .ok (.invokestatic 222, 3) := by decide +kernel
theorem dX10_halls_85 : decode cX10_halls 85 = .ok (.istore 7, 2) := by decide +kernel
theorem dX10_halls_87 : decode cX10_halls 87 = .ok (.aload_n 0, 1) := by decide +kernel
theorem dX10_halls_88 : decode cX10_halls 88 = .ok (.getfield 63, 3) := by decide +kernel
theorem dX10_halls_91 : decode cX10_halls 91 = .ok (.aload_n 0, 1) := by decide +kernel
theorem dX10_halls_92 : decode cX10_halls 92 = .ok (.getfield 49, 3) := by decide +kernel
theorem dX10_halls_95 : decode cX10_halls 95 = .ok (.invokevirtual 227, 3) := by decide +kernel
theorem dX10_halls_98 : decode cX10_halls 98 = .ok (.istore 8, 2) := by decide +kernel
theorem dX10_halls_100 : decode cX10_halls 100 = .ok (.aload_n 0, 1) := by decide +kernel
theorem dX10_halls_101 : decode cX10_halls 101 = .ok (.getfield 67, 3) := by decide +kernel
theorem dX10_halls_104 : decode cX10_halls 104 = .ok (.aload_n 0, 1) := by decide +kernel
theorem dX10_halls_105 : decode cX10_halls 105 = .ok (.getfield 49, 3) := by decide +kernel
theorem dX10_halls_108 : decode cX10_halls 108 = .ok (.invokevirtual 227, 3) := by decide +kernel
theorem dX10_halls_111 : decode cX10_halls 111 = .ok (.istore 9, 2) := by decide +kernel
theorem dX10_halls_113 : decode cX10_halls 113 = .ok (.iload 8, 2) := by decide +kernel
theorem dX10_halls_115 : decode cX10_halls 115 = .ok (.iload 9, 2) := by decide +kernel
theorem dX10_halls_117 : decode cX10_halls 117 = .ok (.if_icmp .le 20, 3) := by decide +kernel
theorem dX10_halls_120 : decode cX10_halls 120 = .ok (.iload 5, 2) := by decide +kernel
theorem dX10_halls_122 : decode cX10_halls 122 = .ok (.aload_n 0, 1) := by decide +kernel
theorem dX10_halls_123 : decode cX10_halls 123 = .ok (.getfield 56, 3) := by decide +kernel
theorem dX10_halls_126 : decode cX10_halls 126 = .ok (.iload 7, 2) := by decide +kernel
theorem dX10_halls_128 : decode cX10_halls 128 = .ok (.invokevirtual 197, 3) := by decide +kernel
theorem dX10_halls_131 : decode cX10_halls 131 = .ok (.iadd, 1) := by decide +kernel
theorem dX10_halls_132 : decode cX10_halls 132 = .ok (.istore 5, 2) := by decide +kernel
theorem dX10_halls_134 : decode cX10_halls 134 = .ok (.goto 17, 3) := by decide +kernel
theorem dX10_halls_137 : decode cX10_halls 137 = .ok (.iload 8, 2) := by decide +kernel
theorem dX10_halls_139 : decode cX10_halls 139 = .ok (.iload 9, 2) := by decide +kernel
theorem dX10_halls_141 : decode cX10_halls 141 = .ok (.if_icmp .ge 10, 3) := by decide +kernel
theorem dX10_halls_144 : decode cX10_halls 144 = .ok (.iload 4, 2) := by decide +kernel
theorem dX10_halls_146 : decode cX10_halls 146 = .ok (.iload 7, 2) := by decide +kernel
theorem dX10_halls_148 : decode cX10_halls 148 = .ok (.isub, 1) := by decide +kernel
theorem dX10_halls_149 : decode cX10_halls 149 = .ok (.istore 4, 2) := by decide +kernel
theorem dX10_halls_151 : decode cX10_halls 151 = .ok (.iinc 6 1, 3) := by decide +kernel
theorem dX10_halls_154 : decode cX10_halls 154 = .ok (.goto (-85), 3) := by decide +kernel
theorem dX10_halls_157 : decode cX10_halls 157 = .ok (.iload_n 3, 1) := by decide +kernel
theorem dX10_halls_158 : decode cX10_halls 158 = .ok (.lookupswitch 35 #[(0, 26), (1, 32)], 26) := by decide +kernel
theorem dX10_halls_184 : decode cX10_halls 184 = .ok (.iload 4, 2) := by decide +kernel
theorem dX10_halls_186 : decode cX10_halls 186 = .ok (.invokestatic 231, 3) := by decide +kernel
theorem dX10_halls_189 : decode cX10_halls 189 = .ok (.ireturn, 1) := by decide +kernel
theorem dX10_halls_190 : decode cX10_halls 190 = .ok (.iload 5, 2) := by decide +kernel
theorem dX10_halls_192 : decode cX10_halls 192 = .ok (.ireturn, 1) := by decide +kernel
theorem dX10_halls_193 : decode cX10_halls 193 = .ok (.aload_n 0, 1) := by decide +kernel
theorem dX10_halls_194 : decode cX10_halls 194 = .ok (.getfield 49, 3) := by decide +kernel
theorem dX10_halls_197 : decode cX10_halls 197 = .ok (.invokevirtual 234, 3) := by decide +kernel
theorem dX10_halls_200 : decode cX10_halls 200 = .ok (.ireturn, 1) := by decide +kernel
set_option maxRecDepth 20000 in
theorem ggX10_image_X7_hasHall : GoodIn wsX10_image wsX7_hasHall := goodIn_r _ [7, 8, 37, 38, 39, 40, 41, 42] (by decide +kernel) (by decide +kernel)
set_option maxRecDepth 20000 in
theorem gX10_image_X7_hasHall_n161 : GoodIn wsX10_image (wsX7_hasHall) := ggX10_image_X7_hasHall
set_option maxRecDepth 20000 in
theorem ggX10_image_X7_copy : GoodIn wsX10_image wsX7_copy := goodIn_r _ [11, 12, 13, 8, 14, 15, 16, 17, 18, 19, 20, 21, 22, 23, 24, 25, 26, 37, 38, 39, 40, 41, 42, 43, 44, 45, 46, 47, 48] (by decide +kernel) (by decide +kernel)
set_option maxRecDepth 20000 in
theorem gX10_image_X7_copy_n237 : GoodIn wsX10_image (wsX7_copy) := ggX10_image_X7_copy
theorem dX10_image_0 : decode cX10_image 0 = .ok (.aload_n 0, 1) := by decide +kernel
theorem dX10_image_1 : decode cX10_image 1 = .ok (.getfield 56, 3) := by decide +kernel
theorem dX10_image_4 : decode cX10_image 4 = .ok (.invokevirtual 161, 3) := by decide +kernel
theorem dX10_image_7 : decode cX10_image 7 = .ok (.ifCond .ne 6, 3) := by decide +kernel
theorem dX10_image_10 : decode cX10_image 10 = .ok (.bipush (-103), 2) := by decide +kernel
theorem dX10_image_12 : decode cX10_image 12 = .ok (.ireturn, 1) := by decide +kernel
theorem dX10_image_13 : decode cX10_image 13 = .ok (.aload_n 0, 1) := by decide +kernel
theorem dX10_image_14 : decode cX10_image 14 = .ok (.getfield 60, 3) := by decide +kernel
theorem dX10_image_17 : decode cX10_image 17 = .ok (.aload_n 0, 1) := by decide +kernel
theorem dX10_image_18 : decode cX10_image 18 = .ok (.getfield 56, 3) := by decide +kernel
theorem dX10_image_21 : decode cX10_image 21 = .ok (.invokevirtual 237, 3) := by decide +kernel
theorem dX10_image_24 : decode cX10_image 24 = .ok (.aload_n 0, 1) := by decide +kernel
theorem dX10_image_25 : decode cX10_image 25 = .ok (.iconst 1, 1) := by decide +kernel
theorem dX10_image_26 : decode cX10_image 26 = .ok (.putfield 70, 3) := by decide +kernel
theorem dX10_image_29 : decode cX10_image 29 = .ok (.aload_n 0, 1) := by decide +kernel
theorem dX10_image_30 : decode cX10_image 30 = .ok (.getfield 56, 3) := by decide +kernel
theorem dX10_image_33 : decode cX10_image 33 = .ok (.getfield 154, 3) := by decide +kernel
theorem dX10_image_36 : decode cX10_image 36 = .ok (.ireturn, 1) := by decide +kernel
set_option maxRecDepth 20000 in
theorem ggX10_restore_X7_copy : GoodIn wsX10_restore wsX7_copy := goodIn_r _ [7, 8, 9, 10, 11, 12, 13, 14, 15, 16, 17, 18, 19, 20, 21, 22, 23, 34, 35, 36, 37, 38, 39, 40, 41, 42, 43, 44, 45] (by decide +kernel) (by decide +kernel)
set_option maxRecDepth 20000 in
theorem gX10_restore_X7_copy_n237 : GoodIn wsX10_restore (wsX7_copy) := ggX10_restore_X7_copy
theorem dX10_restore_0 : decode cX10_restore 0 = .ok (.aload_n 0, 1) := by decide +kernel
theorem dX10_restore_1 : decode cX10_restore 1 = .ok (.getfield 70, 3) := by decide +kernel
theorem dX10_restore_4 : decode cX10_restore 4 = .ok (.ifCond .ne 6, 3) := by decide +kernel
theorem dX10_restore_7 : decode cX10_restore 7 = .ok (.bipush (-103), 2) := by decide +kernel
theorem dX10_restore_9 : decode cX10_restore 9 = .ok (.ireturn, 1) := by decide +kernel
theorem dX10_restore_10 : decode cX10_restore 10 = .ok (.aload_n 0, 1) := by decide +kernel
theorem dX10_restore_11 : decode cX10_restore 11 = .ok (.getfield 56, 3) := by decide +kernel
theorem dX10_restore_14 : decode cX10_restore 14 = .ok (.aload_n 0, 1) := by decide +kernel
theorem dX10_restore_15 : decode cX10_restore 15 = .ok (.getfield 60, 3) := by decide +kernel
theorem dX10_restore_18 : decode cX10_restore 18 = .ok (.invokevirtual 237, 3) := by decide +kernel
theorem dX10_restore_21 : decode cX10_restore 21 = .ok (.aload_n 0, 1) := by decide +kernel
theorem dX10_restore_22 : decode cX10_restore 22 = .ok (.getfield 56, 3) := by decide +kernel
theorem dX10_restore_25 : decode cX10_restore 25 = .ok (.getfield 154, 3) := by decide +kernel
theorem dX10_restore_28 : decode cX10_restore 28 = .ok (.ireturn, 1) := by decide +kernel
set_option maxRecDepth 20000 in
theorem ggX10_count_X7_kingsBy : GoodIn wsX10_count wsX7_kingsBy := goodIn_r _ [7, 8, 9, 10, 11, 12, 13, 14, 15, 16, 17, 18, 19, 20, 44, 45, 46, 47, 48, 49, 52, 53, 54, 55, 56, 57] (by decide +kernel) (by decide +kernel)
set_option maxRecDepth 20000 in
theorem gX10_count_X7_kingsBy_n194 : GoodIn wsX10_count (wsX7_kingsBy) := ggX10_count_X7_kingsBy
set_option maxRecDepth 20000 in
theorem ggX10_count_J6_bitCount_0f7a4 : GoodIn wsX10_count wsJ6_bitCount_0f7a4 := goodIn_r _ [24, 25, 26, 27] (by decide +kernel) (by decide +kernel)
set_option maxRecDepth 20000 in
theorem gX10_count_J6_bitCount_0f7a4 : GoodIn wsX10_count (va_wsS RX10 231 yJ6_bitCount_0f7a4 wsJ6_bitCount_0f7a4) := goodIn_app (goodIn_of _ (by decide +kernel)) ggX10_count_J6_bitCount_0f7a4
set_option maxRecDepth 20000 in
theorem ggX10_count_X7_worthOf : GoodIn wsX10_count wsX7_worthOf := goodIn_r _ [30, 8, 9, 44, 45, 46, 47, 48, 49, 52, 53, 54, 55, 56, 57] (by decide +kernel) (by decide +kernel)
set_option maxRecDepth 20000 in
theorem gX10_count_X7_worthOf_n197 : GoodIn wsX10_count (wsX7_worthOf) := ggX10_count_X7_worthOf
set_option maxRecDepth 20000 in
theorem ggX10_count_X7_wrongMany : GoodIn wsX10_count wsX7_wrongMany := goodIn_r _ [33, 8, 9, 17, 11, 18, 19, 14, 20, 44, 45, 46, 47, 48, 49, 52, 53, 54, 55, 56, 57] (by decide +kernel) (by decide +kernel)
set_option maxRecDepth 20000 in
theorem gX10_count_X7_wrongMany_n241 : GoodIn wsX10_count (wsX7_wrongMany) := ggX10_count_X7_wrongMany
theorem dX10_count_0 : decode cX10_count 0 = .ok (.iload_n 1, 1) := by decide +kernel
theorem dX10_count_1 : decode cX10_count 1 = .ok (.tableswitch 132 0 8 #[51, 59, 71, 87, 95, 103, 111, 119, 127], 51) := by decide +kernel
theorem dX10_count_52 : decode cX10_count 52 = .ok (.aload_n 0, 1) := by decide +kernel
theorem dX10_count_53 : decode cX10_count 53 = .ok (.getfield 56, 3) := by decide +kernel
theorem dX10_count_56 : decode cX10_count 56 = .ok (.getfield 114, 3) := by decide +kernel
theorem dX10_count_59 : decode cX10_count 59 = .ok (.ireturn, 1) := by decide +kernel
theorem dX10_count_60 : decode cX10_count 60 = .ok (.aload_n 0, 1) := by decide +kernel
theorem dX10_count_61 : decode cX10_count 61 = .ok (.getfield 56, 3) := by decide +kernel
theorem dX10_count_64 : decode cX10_count 64 = .ok (.iconst 0, 1) := by decide +kernel
theorem dX10_count_65 : decode cX10_count 65 = .ok (.invokevirtual 194, 3) := by decide +kernel
theorem dX10_count_68 : decode cX10_count 68 = .ok (.invokestatic 231, 3) := by decide +kernel
theorem dX10_count_71 : decode cX10_count 71 = .ok (.ireturn, 1) := by decide +kernel
theorem dX10_count_72 : decode cX10_count 72 = .ok (.aload_n 0, 1) := by decide +kernel
theorem dX10_count_73 : decode cX10_count 73 = .ok (.getfield 56, 3) := by decide +kernel
theorem dX10_count_76 : decode cX10_count 76 = .ok (.aload_n 0, 1) := by decide +kernel
theorem dX10_count_77 : decode cX10_count 77 = .ok (.getfield 56, 3) := by decide +kernel
theorem dX10_count_80 : decode cX10_count 80 = .ok (.iconst 0, 1) := by decide +kernel
theorem dX10_count_81 : decode cX10_count 81 = .ok (.invokevirtual 194, 3) := by decide +kernel
theorem dX10_count_84 : decode cX10_count 84 = .ok (.invokevirtual 197, 3) := by decide +kernel
theorem dX10_count_87 : decode cX10_count 87 = .ok (.ireturn, 1) := by decide +kernel
theorem dX10_count_88 : decode cX10_count 88 = .ok (.aload_n 0, 1) := by decide +kernel
theorem dX10_count_89 : decode cX10_count 89 = .ok (.getfield 56, 3) := by decide +kernel
theorem dX10_count_92 : decode cX10_count 92 = .ok (.getfield 216, 3) := by decide +kernel
theorem dX10_count_95 : decode cX10_count 95 = .ok (.ireturn, 1) := by decide +kernel
theorem dX10_count_96 : decode cX10_count 96 = .ok (.aload_n 0, 1) := by decide +kernel
theorem dX10_count_97 : decode cX10_count 97 = .ok (.getfield 56, 3) := by decide +kernel
theorem dX10_count_100 : decode cX10_count 100 = .ok (.getfield 154, 3) := by decide +kernel
theorem dX10_count_103 : decode cX10_count 103 = .ok (.ireturn, 1) := by decide +kernel
theorem dX10_count_104 : decode cX10_count 104 = .ok (.aload_n 0, 1) := by decide +kernel
theorem dX10_count_105 : decode cX10_count 105 = .ok (.getfield 56, 3) := by decide +kernel
theorem dX10_count_108 : decode cX10_count 108 = .ok (.invokevirtual 241, 3) := by decide +kernel
theorem dX10_count_111 : decode cX10_count 111 = .ok (.ireturn, 1) := by decide +kernel
theorem dX10_count_112 : decode cX10_count 112 = .ok (.aload_n 0, 1) := by decide +kernel
theorem dX10_count_113 : decode cX10_count 113 = .ok (.getfield 56, 3) := by decide +kernel
theorem dX10_count_116 : decode cX10_count 116 = .ok (.getfield 200, 3) := by decide +kernel
theorem dX10_count_119 : decode cX10_count 119 = .ok (.ireturn, 1) := by decide +kernel
theorem dX10_count_120 : decode cX10_count 120 = .ok (.aload_n 0, 1) := by decide +kernel
theorem dX10_count_121 : decode cX10_count 121 = .ok (.getfield 10, 3) := by decide +kernel
theorem dX10_count_124 : decode cX10_count 124 = .ok (.getfield 244, 3) := by decide +kernel
theorem dX10_count_127 : decode cX10_count 127 = .ok (.ireturn, 1) := by decide +kernel
theorem dX10_count_128 : decode cX10_count 128 = .ok (.aload_n 0, 1) := by decide +kernel
theorem dX10_count_129 : decode cX10_count 129 = .ok (.getfield 74, 3) := by decide +kernel
theorem dX10_count_132 : decode cX10_count 132 = .ok (.ireturn, 1) := by decide +kernel
theorem dX10_count_133 : decode cX10_count 133 = .ok (.bipush (-102), 2) := by decide +kernel
theorem dX10_count_135 : decode cX10_count 135 = .ok (.ireturn, 1) := by decide +kernel
set_option maxRecDepth 20000 in
theorem ggX10_digest_X10_digestThing : GoodIn wsX10_digest wsX10_digestThing := goodIn_r _ [8, 2, 9, 10, 11, 7, 12, 13, 14, 15, 16, 17, 18, 19, 20, 21, 22, 23, 24, 25, 26, 27, 28, 29, 30, 31, 32, 33, 34, 35, 36, 37, 38, 39, 40, 41, 42, 43, 44, 45, 46, 47, 48, 49, 50, 51, 52, 53, 54, 55, 56, 57, 58, 59, 60, 61, 62, 63, 64, 65, 66, 67, 68, 204, 205, 206, 207, 208, 209, 210, 211, 212, 213, 214, 215, 216, 217, 218, 219, 222, 223, 224, 225, 226, 227, 228, 229] (by decide +kernel) (by decide +kernel)
set_option maxRecDepth 20000 in
theorem gX10_digest_X10_digestThing : GoodIn wsX10_digest (wsV RX10 249 RX10 yX10_digestThing wsX10_digestThing) := goodIn_app (goodIn_of _ (by decide +kernel)) ggX10_digest_X10_digestThing
set_option maxRecDepth 20000 in
theorem ggX10_digest_X7_hasHall : GoodIn wsX10_digest wsX7_hasHall := goodIn_r _ [71, 17, 214, 215, 216, 217, 218, 219] (by decide +kernel) (by decide +kernel)
set_option maxRecDepth 20000 in
theorem gX10_digest_X7_hasHall_n161 : GoodIn wsX10_digest (wsX7_hasHall) := ggX10_digest_X7_hasHall
set_option maxRecDepth 20000 in
theorem ggX10_digest_X10_digestHall : GoodIn wsX10_digest wsX10_digestHall := goodIn_r _ [75, 76, 77, 78, 7, 79, 80, 81, 82, 83, 2, 69, 14, 70, 71, 17, 20, 18, 19, 84, 85, 86, 87, 88, 89, 90, 91, 92, 93, 94, 95, 96, 97, 98, 99, 100, 101, 102, 103, 104, 105, 106, 107, 108, 109, 110, 111, 112, 113, 114, 115, 116, 117, 118, 119, 120, 121, 122, 123, 124, 125, 126, 127, 128, 129, 130, 31, 32, 33, 34, 131, 132, 133, 134, 42, 55, 56, 57, 58, 59, 63, 64, 65, 66, 67, 68, 135, 136, 137, 138, 139, 140, 141, 50, 142, 22, 143, 144, 27, 25, 145, 146, 147, 148, 29, 149, 150, 151, 204, 205, 206, 207, 208, 209, 210, 211, 212, 213, 214, 215, 216, 217, 218, 219, 230, 231, 232, 233, 234, 235, 236, 237, 238, 239, 240, 241, 242, 243, 244, 228, 229, 222, 223, 224, 225, 226, 227] (by decide +kernel) (by decide +kernel)
set_option maxRecDepth 20000 in
theorem gX10_digest_X10_digestHall : GoodIn wsX10_digest (wsV RX10 252 RX10 yX10_digestHall wsX10_digestHall) := goodIn_app (goodIn_of _ (by decide +kernel)) ggX10_digest_X10_digestHall
set_option maxRecDepth 20000 in
theorem ggX10_digest_X10_which : GoodIn wsX10_digest wsX10_which := goodIn_r _ [155, 156, 2, 157, 14, 158, 159, 160, 161, 162, 163, 164, 165, 94, 166, 97, 98, 167, 7, 168, 169, 170, 171, 172, 173, 174, 175, 121, 176, 204, 205, 206, 207, 208, 209, 210, 211, 212, 213, 214, 215, 216, 217, 218, 219, 230, 231, 232, 233, 234, 235, 236, 237, 238, 239, 240, 241, 242, 243, 244] (by decide +kernel) (by decide +kernel)
set_option maxRecDepth 20000 in
theorem gX10_digest_X10_which : GoodIn wsX10_digest (wsV RX10 256 RX10 yX10_which wsX10_which) := goodIn_app (goodIn_of _ (by decide +kernel)) ggX10_digest_X10_which
set_option maxRecDepth 20000 in
theorem ggX10_digest_X10_mix : GoodIn wsX10_digest wsX10_mix := goodIn_r _ [33, 34] (by decide +kernel) (by decide +kernel)
set_option maxRecDepth 20000 in
theorem gX10_digest_X10_mix : GoodIn wsX10_digest (va_wsS RX10 259 yX10_mix wsX10_mix) := goodIn_app (goodIn_of _ (by decide +kernel)) ggX10_digest_X10_mix
set_option maxRecDepth 20000 in
theorem ggX10_digest_X10_likely : GoodIn wsX10_digest wsX10_likely := goodIn_r _ [180, 156, 2, 157, 14, 158, 159, 160, 161, 162, 163, 164, 165, 94, 166, 97, 98, 167, 7, 168, 169, 170, 171, 172, 173, 174, 175, 121, 176, 181, 100, 101, 102, 103, 104, 105, 106, 107, 108, 109, 110, 111, 112, 113, 182, 115, 116, 117, 118, 119, 120, 122, 123, 124, 125, 60, 61, 62, 204, 205, 206, 207, 208, 209, 210, 211, 212, 213, 214, 215, 216, 217, 218, 219, 230, 231, 232, 233, 234, 235, 236, 237, 238, 239, 240, 241, 242, 243, 244] (by decide +kernel) (by decide +kernel)
set_option maxRecDepth 20000 in
theorem gX10_digest_X10_likely : GoodIn wsX10_digest (wsV RX10 263 RX10 yX10_likely wsX10_likely) := goodIn_app (goodIn_of _ (by decide +kernel)) ggX10_digest_X10_likely
set_option maxRecDepth 20000 in
theorem ggX10_digest_X6_codeAt : GoodIn wsX10_digest wsX6_codeAt := goodIn_r _ [186, 187, 188, 18, 7, 19, 220, 221] (by decide +kernel) (by decide +kernel)
set_option maxRecDepth 20000 in
theorem gX10_digest_X6_codeAt_n266 : GoodIn wsX10_digest (wsX6_codeAt) := ggX10_digest_X6_codeAt
set_option maxRecDepth 20000 in
theorem ggX10_digest_X10_count : GoodIn wsX10_digest wsX10_count := goodIn_r _ [192, 2, 3, 193, 139, 14, 140, 141, 17, 50, 142, 22, 143, 144, 27, 25, 145, 146, 147, 148, 29, 194, 195, 196, 197, 198, 199, 200, 149, 150, 151, 201, 202, 203, 204, 205, 206, 207, 208, 209, 210, 211, 212, 213, 214, 215, 216, 217, 218, 219, 220, 221, 222, 223, 224, 225, 226, 227] (by decide +kernel) (by decide +kernel)
set_option maxRecDepth 20000 in
theorem gX10_digest_X10_count : GoodIn wsX10_digest (wsV RX10 269 RX10 yX10_count wsX10_count) := goodIn_app (goodIn_of _ (by decide +kernel)) ggX10_digest_X10_count
theorem dX10_digest_0 : decode cX10_digest 0 = .ok (.ldc2_w 247, 3) := by decide +kernel
theorem dX10_digest_3 : decode cX10_digest 3 = .ok (.lstore_n 1, 1) := by decide +kernel
theorem dX10_digest_4 : decode cX10_digest 4 = .ok (.iconst 0, 1) := by decide +kernel
theorem dX10_digest_5 : decode cX10_digest 5 = .ok (.istore_n 3, 1) := by decide +kernel
theorem dX10_digest_6 : decode cX10_digest 6 = .ok (.iload_n 3, 1) := by decide +kernel
theorem dX10_digest_7 : decode cX10_digest 7 = .ok (.aload_n 0, 1) := by decide +kernel
theorem dX10_digest_8 : decode cX10_digest 8 = .ok (.getfield 56, 3) := by decide +kernel
theorem dX10_digest_11 : decode cX10_digest 11 = .ok (.getfield 114, 3) := by decide +kernel
theorem dX10_digest_14 : decode cX10_digest 14 = .ok (.if_icmp .ge 16, 3) := by decide +kernel
theorem dX10_digest_17 : decode cX10_digest 17 = .ok (.aload_n 0, 1) := by decide +kernel
theorem dX10_digest_18 : decode cX10_digest 18 = .ok (.lload_n 1, 1) := by decide +kernel
theorem dX10_digest_19 : decode cX10_digest 19 = .ok (.iload_n 3, 1) := by decide +kernel
theorem dX10_digest_20 : decode cX10_digest 20 = .ok (.invokevirtual 249, 3) := by decide +kernel
theorem dX10_digest_23 : decode cX10_digest 23 = .ok (.lstore_n 1, 1) := by decide +kernel
theorem dX10_digest_24 : decode cX10_digest 24 = .ok (.iinc 3 1, 3) := by decide +kernel
theorem dX10_digest_27 : decode cX10_digest 27 = .ok (.goto (-21), 3) := by decide +kernel
theorem dX10_digest_30 : decode cX10_digest 30 = .ok (.aload_n 0, 1) := by decide +kernel
theorem dX10_digest_31 : decode cX10_digest 31 = .ok (.getfield 56, 3) := by decide +kernel
theorem dX10_digest_34 : decode cX10_digest 34 = .ok (.invokevirtual 161, 3) := by decide +kernel
theorem dX10_digest_37 : decode cX10_digest 37 = .ok (.ifCond .eq 9, 3) := by decide +kernel
theorem dX10_digest_40 : decode cX10_digest 40 = .ok (.aload_n 0, 1) := by decide +kernel
theorem dX10_digest_41 : decode cX10_digest 41 = .ok (.lload_n 1, 1) := by decide +kernel
theorem dX10_digest_42 : decode cX10_digest 42 = .ok (.invokevirtual 252, 3) := by decide +kernel
theorem dX10_digest_45 : decode cX10_digest 45 = .ok (.lstore_n 1, 1) := by decide +kernel
theorem dX10_digest_46 : decode cX10_digest 46 = .ok (.lload_n 1, 1) := by decide +kernel
theorem dX10_digest_47 : decode cX10_digest 47 = .ok (.aload_n 0, 1) := by decide +kernel
theorem dX10_digest_48 : decode cX10_digest 48 = .ok (.invokevirtual 256, 3) := by decide +kernel
theorem dX10_digest_51 : decode cX10_digest 51 = .ok (.i2l, 1) := by decide +kernel
theorem dX10_digest_52 : decode cX10_digest 52 = .ok (.invokestatic 259, 3) := by decide +kernel
theorem dX10_digest_55 : decode cX10_digest 55 = .ok (.lstore_n 1, 1) := by decide +kernel
theorem dX10_digest_56 : decode cX10_digest 56 = .ok (.lload_n 1, 1) := by decide +kernel
theorem dX10_digest_57 : decode cX10_digest 57 = .ok (.aload_n 0, 1) := by decide +kernel
theorem dX10_digest_58 : decode cX10_digest 58 = .ok (.invokevirtual 263, 3) := by decide +kernel
theorem dX10_digest_61 : decode cX10_digest 61 = .ok (.i2l, 1) := by decide +kernel
theorem dX10_digest_62 : decode cX10_digest 62 = .ok (.invokestatic 259, 3) := by decide +kernel
theorem dX10_digest_65 : decode cX10_digest 65 = .ok (.lstore_n 1, 1) := by decide +kernel
theorem dX10_digest_66 : decode cX10_digest 66 = .ok (.iconst 0, 1) := by decide +kernel
theorem dX10_digest_67 : decode cX10_digest 67 = .ok (.istore_n 3, 1) := by decide +kernel
theorem dX10_digest_68 : decode cX10_digest 68 = .ok (.iload_n 3, 1) := by decide +kernel
theorem dX10_digest_69 : decode cX10_digest 69 = .ok (.aload_n 0, 1) := by decide +kernel
theorem dX10_digest_70 : decode cX10_digest 70 = .ok (.getfield 10, 3) := by decide +kernel
theorem dX10_digest_73 : decode cX10_digest 73 = .ok (.getfield 244, 3) := by decide +kernel
theorem dX10_digest_76 : decode cX10_digest 76 = .ok (.if_icmp .ge 23, 3) := by decide +kernel
theorem dX10_digest_79 : decode cX10_digest 79 = .ok (.lload_n 1, 1) := by decide +kernel
theorem dX10_digest_80 : decode cX10_digest 80 = .ok (.aload_n 0, 1) := by decide +kernel
theorem dX10_digest_81 : decode cX10_digest 81 = .ok (.getfield 10, 3) := by decide +kernel
theorem dX10_digest_84 : decode cX10_digest 84 = .ok (.iload_n 3, 1) := by decide +kernel
theorem dX10_digest_85 : decode cX10_digest 85 = .ok (.invokevirtual 266, 3) := by decide +kernel
theorem dX10_digest_88 : decode cX10_digest 88 = .ok (.i2l, 1) := by decide +kernel
theorem dX10_digest_89 : decode cX10_digest 89 = .ok (.invokestatic 259, 3) := by decide +kernel
theorem dX10_digest_92 : decode cX10_digest 92 = .ok (.lstore_n 1, 1) := by decide +kernel
theorem dX10_digest_93 : decode cX10_digest 93 = .ok (.iinc 3 1, 3) := by decide +kernel
theorem dX10_digest_96 : decode cX10_digest 96 = .ok (.goto (-28), 3) := by decide +kernel
theorem dX10_digest_99 : decode cX10_digest 99 = .ok (.iconst 0, 1) := by decide +kernel
theorem dX10_digest_100 : decode cX10_digest 100 = .ok (.istore_n 3, 1) := by decide +kernel
theorem dX10_digest_101 : decode cX10_digest 101 = .ok (.iload_n 3, 1) := by decide +kernel
theorem dX10_digest_102 : decode cX10_digest 102 = .ok (.bipush 9, 2) := by decide +kernel
theorem dX10_digest_104 : decode cX10_digest 104 = .ok (.if_icmp .ge 20, 3) := by decide +kernel
theorem dX10_digest_107 : decode cX10_digest 107 = .ok (.lload_n 1, 1) := by decide +kernel
theorem dX10_digest_108 : decode cX10_digest 108 = .ok (.aload_n 0, 1) := by decide +kernel
theorem dX10_digest_109 : decode cX10_digest 109 = .ok (.iload_n 3, 1) := by decide +kernel
theorem dX10_digest_110 : decode cX10_digest 110 = .ok (.invokevirtual 269, 3) := by decide +kernel
theorem dX10_digest_113 : decode cX10_digest 113 = .ok (.i2l, 1) := by decide +kernel
theorem dX10_digest_114 : decode cX10_digest 114 = .ok (.invokestatic 259, 3) := by decide +kernel
theorem dX10_digest_117 : decode cX10_digest 117 = .ok (.lstore_n 1, 1) := by decide +kernel
theorem dX10_digest_118 : decode cX10_digest 118 = .ok (.iinc 3 1, 3) := by decide +kernel
theorem dX10_digest_121 : decode cX10_digest 121 = .ok (.goto (-20), 3) := by decide +kernel
theorem dX10_digest_124 : decode cX10_digest 124 = .ok (.lload_n 1, 1) := by decide +kernel
theorem dX10_digest_125 : decode cX10_digest 125 = .ok (.lreturn, 1) := by decide +kernel
set_option maxRecDepth 20000 in
theorem ggX10_digestThing_X10_thing : GoodIn wsX10_digestThing wsX10_thing := goodIn_r _ [6, 1, 7, 8, 9, 10, 11, 12, 5, 13, 14, 15, 16, 17, 18, 19, 20, 21, 22, 23, 24, 63, 64, 65, 66, 67, 68, 69, 70, 71, 72, 73, 74, 75, 76, 77, 78, 79, 80, 81, 82, 83, 84] (by decide +kernel) (by decide +kernel)
set_option maxRecDepth 20000 in
theorem gX10_digestThing_X10_thing : GoodIn wsX10_digestThing (wsV RX10 272 RX10 yX10_thing wsX10_thing) := goodIn_app (goodIn_of _ (by decide +kernel)) ggX10_digestThing_X10_thing
set_option maxRecDepth 20000 in
theorem ggX10_digestThing_X10_mix : GoodIn wsX10_digestThing wsX10_mix := goodIn_r _ [27, 28] (by decide +kernel) (by decide +kernel)
set_option maxRecDepth 20000 in
theorem gX10_digestThing_X10_mix : GoodIn wsX10_digestThing (va_wsS RX10 259 yX10_mix wsX10_mix) := goodIn_app (goodIn_of _ (by decide +kernel)) ggX10_digestThing_X10_mix
set_option maxRecDepth 20000 in
theorem ggX10_digestThing_X10_back : GoodIn wsX10_digestThing wsX10_back := goodIn_r _ [32, 1, 33, 34, 35, 36, 7, 8, 9, 10, 11, 12, 5, 13, 14, 37, 38, 39, 40, 41, 42, 43, 44, 45, 46, 47, 48, 49, 50, 51, 52, 53, 54, 55, 56, 57, 58, 59, 60, 61, 62, 63, 64, 65, 66, 67, 68, 69, 70, 71, 72, 73, 74, 75, 76, 77, 78, 79, 80, 81, 82, 83, 84, 85, 86] (by decide +kernel) (by decide +kernel)
set_option maxRecDepth 20000 in
theorem gX10_digestThing_X10_back : GoodIn wsX10_digestThing (wsV RX10 276 RX10 yX10_back wsX10_back) := goodIn_app (goodIn_of _ (by decide +kernel)) ggX10_digestThing_X10_back
theorem dX10_digestThing_0 : decode cX10_digestThing 0 = .ok (.lload_n 1, 1) := by decide +kernel
theorem dX10_digestThing_1 : decode cX10_digestThing 1 = .ok (.lstore 4, 2) := by decide +kernel
theorem dX10_digestThing_3 : decode cX10_digestThing 3 = .ok (.iconst 0, 1) := by decide +kernel
theorem dX10_digestThing_4 : decode cX10_digestThing 4 = .ok (.istore 6, 2) := by decide +kernel
theorem dX10_digestThing_6 : decode cX10_digestThing 6 = .ok (.iload 6, 2) := by decide +kernel
theorem dX10_digestThing_8 : decode cX10_digestThing 8 = .ok (.bipush 6, 2) := by decide +kernel
theorem dX10_digestThing_10 : decode cX10_digestThing 10 = .ok (.if_icmp .ge 24, 3) := by decide +kernel
theorem dX10_digestThing_13 : decode cX10_digestThing 13 = .ok (.lload 4, 2) := by decide +kernel
theorem dX10_digestThing_15 : decode cX10_digestThing 15 = .ok (.aload_n 0, 1) := by decide +kernel
theorem dX10_digestThing_16 : decode cX10_digestThing 16 = .ok (.iload_n 3, 1) := by decide +kernel
theorem dX10_digestThing_17 : decode cX10_digestThing 17 = .ok (.iload 6, 2) := by decide +kernel
theorem dX10_digestThing_19 : decode cX10_digestThing 19 = .ok (.invokevirtual 272, 3) := by decide +kernel
theorem dX10_digestThing_22 : decode cX10_digestThing 22 = .ok (.i2l, 1) := by decide +kernel
theorem dX10_digestThing_23 : decode cX10_digestThing 23 = .ok (.invokestatic 259, 3) := by decide +kernel
theorem dX10_digestThing_26 : decode cX10_digestThing 26 = .ok (.lstore 4, 2) := by decide +kernel
theorem dX10_digestThing_28 : decode cX10_digestThing 28 = .ok (.iinc 6 1, 3) := by decide +kernel
theorem dX10_digestThing_31 : decode cX10_digestThing 31 = .ok (.goto (-25), 3) := by decide +kernel
theorem dX10_digestThing_34 : decode cX10_digestThing 34 = .ok (.aload_n 0, 1) := by decide +kernel
theorem dX10_digestThing_35 : decode cX10_digestThing 35 = .ok (.getfield 56, 3) := by decide +kernel
theorem dX10_digestThing_38 : decode cX10_digestThing 38 = .ok (.getfield 125, 3) := by decide +kernel
theorem dX10_digestThing_41 : decode cX10_digestThing 41 = .ok (.iload_n 3, 1) := by decide +kernel
theorem dX10_digestThing_42 : decode cX10_digestThing 42 = .ok (.aaload, 1) := by decide +kernel
theorem dX10_digestThing_43 : decode cX10_digestThing 43 = .ok (.getfield 178, 3) := by decide +kernel
theorem dX10_digestThing_46 : decode cX10_digestThing 46 = .ok (.ifCond .ne 31, 3) := by decide +kernel
theorem dX10_digestThing_49 : decode cX10_digestThing 49 = .ok (.lload 4, 2) := by decide +kernel
theorem dX10_digestThing_51 : decode cX10_digestThing 51 = .ok (.aload_n 0, 1) := by decide +kernel
theorem dX10_digestThing_52 : decode cX10_digestThing 52 = .ok (.iload_n 3, 1) := by decide +kernel
theorem dX10_digestThing_53 : decode cX10_digestThing 53 = .ok (.iconst 3, 1) := by decide +kernel
theorem dX10_digestThing_54 : decode cX10_digestThing 54 = .ok (.iconst 0, 1) := by decide +kernel
theorem dX10_digestThing_55 : decode cX10_digestThing 55 = .ok (.invokevirtual 276, 3) := by decide +kernel
theorem dX10_digestThing_58 : decode cX10_digestThing 58 = .ok (.invokestatic 259, 3) := by decide +kernel
theorem dX10_digestThing_61 : decode cX10_digestThing 61 = .ok (.lstore 4, 2) := by decide +kernel
theorem dX10_digestThing_63 : decode cX10_digestThing 63 = .ok (.lload 4, 2) := by decide +kernel
theorem dX10_digestThing_65 : decode cX10_digestThing 65 = .ok (.aload_n 0, 1) := by decide +kernel
theorem dX10_digestThing_66 : decode cX10_digestThing 66 = .ok (.iload_n 3, 1) := by decide +kernel
theorem dX10_digestThing_67 : decode cX10_digestThing 67 = .ok (.iconst 3, 1) := by decide +kernel
theorem dX10_digestThing_68 : decode cX10_digestThing 68 = .ok (.iconst 1, 1) := by decide +kernel
theorem dX10_digestThing_69 : decode cX10_digestThing 69 = .ok (.invokevirtual 276, 3) := by decide +kernel
theorem dX10_digestThing_72 : decode cX10_digestThing 72 = .ok (.invokestatic 259, 3) := by decide +kernel
theorem dX10_digestThing_75 : decode cX10_digestThing 75 = .ok (.lstore 4, 2) := by decide +kernel
theorem dX10_digestThing_77 : decode cX10_digestThing 77 = .ok (.lload 4, 2) := by decide +kernel
theorem dX10_digestThing_79 : decode cX10_digestThing 79 = .ok (.lreturn, 1) := by decide +kernel
set_option maxRecDepth 20000 in
theorem ggX10_digestHall_X10_dice : GoodIn wsX10_digestHall wsX10_dice := goodIn_r _ [5, 6, 7, 8, 4, 9, 10, 11, 12, 13, 14, 15, 16, 17, 18, 19, 20, 21, 22, 23, 24, 25, 26, 27, 28, 29, 30, 31, 32, 33, 34, 35, 36, 37, 38, 39, 40, 41, 42, 43, 44, 45, 46, 47, 48, 49, 50, 51, 52, 53, 54, 55, 56, 57, 58, 59, 60, 61, 62, 63, 64, 65, 108, 109, 110, 111, 112, 113, 114, 115, 116, 117, 118, 119, 120, 121, 122, 123, 124, 125, 126, 127, 128, 129, 130, 131, 132, 133, 134, 135, 136, 137, 138] (by decide +kernel) (by decide +kernel)
set_option maxRecDepth 20000 in
theorem gX10_digestHall_X10_dice : GoodIn wsX10_digestHall (wsV RX10 280 RX10 yX10_dice wsX10_dice) := goodIn_app (goodIn_of _ (by decide +kernel)) ggX10_digestHall_X10_dice
set_option maxRecDepth 20000 in
theorem ggX10_digestHall_X10_mix : GoodIn wsX10_digestHall wsX10_mix := goodIn_r _ [68, 69] (by decide +kernel) (by decide +kernel)
set_option maxRecDepth 20000 in
theorem gX10_digestHall_X10_mix : GoodIn wsX10_digestHall (va_wsS RX10 259 yX10_mix wsX10_mix) := goodIn_app (goodIn_of _ (by decide +kernel)) ggX10_digestHall_X10_mix
set_option maxRecDepth 20000 in
theorem ggX10_digestHall_X10_odds : GoodIn wsX10_digestHall wsX10_odds := goodIn_r _ [73, 10, 74, 16, 17, 4, 18, 11, 12, 13, 14, 15, 75, 76, 77, 78, 79, 80, 81, 82, 83, 84, 85, 108, 109, 110, 111, 112, 113, 114, 115, 116, 117, 139, 140, 118, 119, 120, 121, 122, 123] (by decide +kernel) (by decide +kernel)
set_option maxRecDepth 20000 in
theorem gX10_digestHall_X10_odds : GoodIn wsX10_digestHall (wsV RX10 283 RX10 yX10_odds wsX10_odds) := goodIn_app (goodIn_of _ (by decide +kernel)) ggX10_digestHall_X10_odds
set_option maxRecDepth 20000 in
theorem ggX10_digestHall_X10_laws : GoodIn wsX10_digestHall wsX10_laws := goodIn_r _ [89, 10, 16, 17, 4, 18, 11, 12, 13, 14, 15, 90, 91, 92, 93, 94, 95, 96, 97, 98, 99, 100, 101, 102, 103, 104, 105, 106, 107, 108, 109, 110, 111, 112, 113, 114, 115, 116, 117, 118, 119, 120, 121, 122, 123, 141, 142, 143, 144, 145, 146] (by decide +kernel) (by decide +kernel)
set_option maxRecDepth 20000 in
theorem gX10_digestHall_X10_laws : GoodIn wsX10_digestHall (wsV RX10 285 RX10 yX10_laws wsX10_laws) := goodIn_app (goodIn_of _ (by decide +kernel)) ggX10_digestHall_X10_laws
theorem dX10_digestHall_0 : decode cX10_digestHall 0 = .ok (.lload_n 1, 1) := by decide +kernel
theorem dX10_digestHall_1 : decode cX10_digestHall 1 = .ok (.lstore_n 3, 1) := by decide +kernel
theorem dX10_digestHall_2 : decode cX10_digestHall 2 = .ok (.iconst 0, 1) := by decide +kernel
theorem dX10_digestHall_3 : decode cX10_digestHall 3 = .ok (.istore 5, 2) := by decide +kernel
theorem dX10_digestHall_5 : decode cX10_digestHall 5 = .ok (.iload 5, 2) := by decide +kernel
theorem dX10_digestHall_7 : decode cX10_digestHall 7 = .ok (.iconst 1, 1) := by decide +kernel
theorem dX10_digestHall_8 : decode cX10_digestHall 8 = .ok (.if_icmp .gt 38, 3) := by decide +kernel
theorem dX10_digestHall_11 : decode cX10_digestHall 11 = .ok (.iconst 0, 1) := by decide +kernel
theorem dX10_digestHall_12 : decode cX10_digestHall 12 = .ok (.istore 6, 2) := by decide +kernel
theorem dX10_digestHall_14 : decode cX10_digestHall 14 = .ok (.iload 6, 2) := by decide +kernel
theorem dX10_digestHall_16 : decode cX10_digestHall 16 = .ok (.iconst 4, 1) := by decide +kernel
theorem dX10_digestHall_17 : decode cX10_digestHall 17 = .ok (.if_icmp .ge 23, 3) := by decide +kernel
theorem dX10_digestHall_20 : decode cX10_digestHall 20 = .ok (.lload_n 3, 1) := by decide +kernel
theorem dX10_digestHall_21 : decode cX10_digestHall 21 = .ok (.aload_n 0, 1) := by decide +kernel
theorem dX10_digestHall_22 : decode cX10_digestHall 22 = .ok (.iload 5, 2) := by decide +kernel
theorem dX10_digestHall_24 : decode cX10_digestHall 24 = .ok (.iload 6, 2) := by decide +kernel
theorem dX10_digestHall_26 : decode cX10_digestHall 26 = .ok (.invokevirtual 280, 3) := by decide +kernel
theorem dX10_digestHall_29 : decode cX10_digestHall 29 = .ok (.i2l, 1) := by decide +kernel
theorem dX10_digestHall_30 : decode cX10_digestHall 30 = .ok (.invokestatic 259, 3) := by decide +kernel
theorem dX10_digestHall_33 : decode cX10_digestHall 33 = .ok (.lstore_n 3, 1) := by decide +kernel
theorem dX10_digestHall_34 : decode cX10_digestHall 34 = .ok (.iinc 6 1, 3) := by decide +kernel
theorem dX10_digestHall_37 : decode cX10_digestHall 37 = .ok (.goto (-23), 3) := by decide +kernel
theorem dX10_digestHall_40 : decode cX10_digestHall 40 = .ok (.iinc 5 1, 3) := by decide +kernel
theorem dX10_digestHall_43 : decode cX10_digestHall 43 = .ok (.goto (-38), 3) := by decide +kernel
theorem dX10_digestHall_46 : decode cX10_digestHall 46 = .ok (.iconst 0, 1) := by decide +kernel
theorem dX10_digestHall_47 : decode cX10_digestHall 47 = .ok (.istore 5, 2) := by decide +kernel
theorem dX10_digestHall_49 : decode cX10_digestHall 49 = .ok (.iload 5, 2) := by decide +kernel
theorem dX10_digestHall_51 : decode cX10_digestHall 51 = .ok (.bipush 6, 2) := by decide +kernel
theorem dX10_digestHall_53 : decode cX10_digestHall 53 = .ok (.if_icmp .ge 21, 3) := by decide +kernel
theorem dX10_digestHall_56 : decode cX10_digestHall 56 = .ok (.lload_n 3, 1) := by decide +kernel
theorem dX10_digestHall_57 : decode cX10_digestHall 57 = .ok (.aload_n 0, 1) := by decide +kernel
theorem dX10_digestHall_58 : decode cX10_digestHall 58 = .ok (.iload 5, 2) := by decide +kernel
theorem dX10_digestHall_60 : decode cX10_digestHall 60 = .ok (.invokevirtual 283, 3) := by decide +kernel
theorem dX10_digestHall_63 : decode cX10_digestHall 63 = .ok (.i2l, 1) := by decide +kernel
theorem dX10_digestHall_64 : decode cX10_digestHall 64 = .ok (.invokestatic 259, 3) := by decide +kernel
theorem dX10_digestHall_67 : decode cX10_digestHall 67 = .ok (.lstore_n 3, 1) := by decide +kernel
theorem dX10_digestHall_68 : decode cX10_digestHall 68 = .ok (.iinc 5 1, 3) := by decide +kernel
theorem dX10_digestHall_71 : decode cX10_digestHall 71 = .ok (.goto (-22), 3) := by decide +kernel
theorem dX10_digestHall_74 : decode cX10_digestHall 74 = .ok (.iconst 0, 1) := by decide +kernel
theorem dX10_digestHall_75 : decode cX10_digestHall 75 = .ok (.istore 5, 2) := by decide +kernel
theorem dX10_digestHall_77 : decode cX10_digestHall 77 = .ok (.iload 5, 2) := by decide +kernel
theorem dX10_digestHall_79 : decode cX10_digestHall 79 = .ok (.iconst 4, 1) := by decide +kernel
theorem dX10_digestHall_80 : decode cX10_digestHall 80 = .ok (.if_icmp .ge 35, 3) := by decide +kernel
theorem dX10_digestHall_83 : decode cX10_digestHall 83 = .ok (.lload_n 3, 1) := by decide +kernel
theorem dX10_digestHall_84 : decode cX10_digestHall 84 = .ok (.aload_n 0, 1) := by decide +kernel
theorem dX10_digestHall_85 : decode cX10_digestHall 85 = .ok (.iload 5, 2) := by decide +kernel
theorem dX10_digestHall_87 : decode cX10_digestHall 87 = .ok (.iconst 0, 1) := by decide +kernel
theorem dX10_digestHall_88 : decode cX10_digestHall 88 = .ok (.invokevirtual 285, 3) := by decide +kernel
theorem dX10_digestHall_91 : decode cX10_digestHall 91 = .ok (.i2l, 1) := by decide +kernel
theorem dX10_digestHall_92 : decode cX10_digestHall 92 = .ok (.invokestatic 259, 3) := by decide +kernel
theorem dX10_digestHall_95 : decode cX10_digestHall 95 = .ok (.lstore_n 3, 1) := by decide +kernel
theorem dX10_digestHall_96 : decode cX10_digestHall 96 = .ok (.lload_n 3, 1) := by decide +kernel
theorem dX10_digestHall_97 : decode cX10_digestHall 97 = .ok (.aload_n 0, 1) := by decide +kernel
theorem dX10_digestHall_98 : decode cX10_digestHall 98 = .ok (.iload 5, 2) := by decide +kernel
theorem dX10_digestHall_100 : decode cX10_digestHall 100 = .ok (.iconst 1, 1) := by decide +kernel
theorem dX10_digestHall_101 : decode cX10_digestHall 101 = .ok (.invokevirtual 285, 3) := by decide +kernel
theorem dX10_digestHall_104 : decode cX10_digestHall 104 = .ok (.i2l, 1) := by decide +kernel
theorem dX10_digestHall_105 : decode cX10_digestHall 105 = .ok (.invokestatic 259, 3) := by decide +kernel
theorem dX10_digestHall_108 : decode cX10_digestHall 108 = .ok (.lstore_n 3, 1) := by decide +kernel
theorem dX10_digestHall_109 : decode cX10_digestHall 109 = .ok (.iinc 5 1, 3) := by decide +kernel
theorem dX10_digestHall_112 : decode cX10_digestHall 112 = .ok (.goto (-35), 3) := by decide +kernel
theorem dX10_digestHall_115 : decode cX10_digestHall 115 = .ok (.lload_n 3, 1) := by decide +kernel
theorem dX10_digestHall_116 : decode cX10_digestHall 116 = .ok (.lreturn, 1) := by decide +kernel
theorem dX10_mix_0 : decode cX10_mix 0 = .ok (.ldc2_w 288, 3) := by decide +kernel
theorem dX10_mix_3 : decode cX10_mix 3 = .ok (.lload_n 0, 1) := by decide +kernel
theorem dX10_mix_4 : decode cX10_mix 4 = .ok (.lmul, 1) := by decide +kernel
theorem dX10_mix_5 : decode cX10_mix 5 = .ok (.lload_n 2, 1) := by decide +kernel
theorem dX10_mix_6 : decode cX10_mix 6 = .ok (.ladd, 1) := by decide +kernel
theorem dX10_mix_7 : decode cX10_mix 7 = .ok (.lreturn, 1) := by decide +kernel
set_option maxRecDepth 20000 in
theorem ggX10_hasDice_X7_hasHall : GoodIn wsX10_hasDice wsX7_hasHall := goodIn_r _ [5, 6, 17, 18, 19, 20, 21, 22] (by decide +kernel) (by decide +kernel)
set_option maxRecDepth 20000 in
theorem gX10_hasDice_X7_hasHall_n161 : GoodIn wsX10_hasDice (wsX7_hasHall) := ggX10_hasDice_X7_hasHall
theorem dX10_hasDice_0 : decode cX10_hasDice 0 = .ok (.aload_n 0, 1) := by decide +kernel
theorem dX10_hasDice_1 : decode cX10_hasDice 1 = .ok (.getfield 56, 3) := by decide +kernel
theorem dX10_hasDice_4 : decode cX10_hasDice 4 = .ok (.invokevirtual 161, 3) := by decide +kernel
theorem dX10_hasDice_7 : decode cX10_hasDice 7 = .ok (.ifCond .eq 16, 3) := by decide +kernel
theorem dX10_hasDice_10 : decode cX10_hasDice 10 = .ok (.iload_n 1, 1) := by decide +kernel
theorem dX10_hasDice_11 : decode cX10_hasDice 11 = .ok (.ifCond .eq 8, 3) := by decide +kernel
theorem dX10_hasDice_14 : decode cX10_hasDice 14 = .ok (.iload_n 1, 1) := by decide +kernel
theorem dX10_hasDice_15 : decode cX10_hasDice 15 = .ok (.iconst 1, 1) := by decide +kernel
theorem dX10_hasDice_16 : decode cX10_hasDice 16 = .ok (.if_icmp .ne 7, 3) := by decide +kernel
theorem dX10_hasDice_19 : decode cX10_hasDice 19 = .ok (.iconst 1, 1) := by decide +kernel
theorem dX10_hasDice_20 : decode cX10_hasDice 20 = .ok (.goto 4, 3) := by decide +kernel
theorem dX10_hasDice_23 : decode cX10_hasDice 23 = .ok (.iconst 0, 1) := by decide +kernel
theorem dX10_hasDice_24 : decode cX10_hasDice 24 = .ok (.ireturn, 1) := by decide +kernel
theorem dX10_diceOf_0 : decode cX10_diceOf 0 = .ok (.iload_n 1, 1) := by decide +kernel
theorem dX10_diceOf_1 : decode cX10_diceOf 1 = .ok (.ifCond .ne 10, 3) := by decide +kernel
theorem dX10_diceOf_4 : decode cX10_diceOf 4 = .ok (.aload_n 0, 1) := by decide +kernel
theorem dX10_diceOf_5 : decode cX10_diceOf 5 = .ok (.getfield 63, 3) := by decide +kernel
theorem dX10_diceOf_8 : decode cX10_diceOf 8 = .ok (.goto 7, 3) := by decide +kernel
theorem dX10_diceOf_11 : decode cX10_diceOf 11 = .ok (.aload_n 0, 1) := by decide +kernel
theorem dX10_diceOf_12 : decode cX10_diceOf 12 = .ok (.getfield 67, 3) := by decide +kernel
theorem dX10_diceOf_15 : decode cX10_diceOf 15 = .ok (.areturn, 1) := by decide +kernel
set_option maxRecDepth 20000 in
theorem ggX10_diceByLetter_J0_indexOf_0f7a4 : GoodIn wsX10_diceByLetter wsJ0_indexOf_0f7a4 := goodIn_r _ [6, 7, 8, 9, 5, 10, 11, 12, 13, 14, 15, 16, 17, 18, 19, 20, 21, 22, 23, 24, 25, 26, 27, 28, 29, 30, 31, 32, 33, 34, 35, 36, 37, 38, 39, 40, 41, 42, 43, 44, 45, 46, 47, 48, 49, 50, 51, 52, 53, 54, 55, 56, 57, 58, 59, 60, 61, 62, 63, 64, 65, 66, 67, 68, 69, 70, 71, 72, 73, 74, 75, 76, 77, 78, 79, 80, 81, 82, 83, 84, 85, 86, 87, 88, 89, 90] (by decide +kernel) (by decide +kernel)
set_option maxRecDepth 20000 in
theorem gX10_diceByLetter_J0_indexOf_0f7a4 : GoodIn wsX10_diceByLetter (wsV RX10 292 RJ0 yJ0_indexOf_0f7a4 wsJ0_indexOf_0f7a4) := goodIn_app (goodIn_of _ (by decide +kernel)) ggX10_diceByLetter_J0_indexOf_0f7a4
set_option maxRecDepth 20000 in
theorem ggX10_diceByLetter_X10_isBelow : GoodIn wsX10_diceByLetter wsX10_isBelow := goodIn_r _ [94] (by decide +kernel) (by decide +kernel)
set_option maxRecDepth 20000 in
theorem gX10_diceByLetter_X10_isBelow : GoodIn wsX10_diceByLetter (va_wsS RX10 121 yX10_isBelow wsX10_isBelow) := goodIn_app (goodIn_of _ (by decide +kernel)) ggX10_diceByLetter_X10_isBelow
theorem dX10_diceByLetter_0 : decode cX10_diceByLetter 0 = .ok (.ldc_w 290, 3) := by decide +kernel
theorem dX10_diceByLetter_3 : decode cX10_diceByLetter 3 = .ok (.iload_n 1, 1) := by decide +kernel
theorem dX10_diceByLetter_4 : decode cX10_diceByLetter 4 = .ok (.i2c, 1) := by decide +kernel
theorem dX10_diceByLetter_5 : decode cX10_diceByLetter 5 = .ok (.invokevirtual 292, 3) := by decide +kernel
theorem dX10_diceByLetter_8 : decode cX10_diceByLetter 8 = .ok (.istore_n 2, 1) := by decide +kernel
theorem dX10_diceByLetter_9 : decode cX10_diceByLetter 9 = .ok (.iload_n 2, 1) := by decide +kernel
theorem dX10_diceByLetter_10 : decode cX10_diceByLetter 10 = .ok (.aload_n 0, 1) := by decide +kernel
theorem dX10_diceByLetter_11 : decode cX10_diceByLetter 11 = .ok (.getfield 35, 3) := by decide +kernel
theorem dX10_diceByLetter_14 : decode cX10_diceByLetter 14 = .ok (.arraylength, 1) := by decide +kernel
theorem dX10_diceByLetter_15 : decode cX10_diceByLetter 15 = .ok (.invokestatic 121, 3) := by decide +kernel
theorem dX10_diceByLetter_18 : decode cX10_diceByLetter 18 = .ok (.ifCond .eq 12, 3) := by decide +kernel
theorem dX10_diceByLetter_21 : decode cX10_diceByLetter 21 = .ok (.aload_n 0, 1) := by decide +kernel
theorem dX10_diceByLetter_22 : decode cX10_diceByLetter 22 = .ok (.getfield 35, 3) := by decide +kernel
theorem dX10_diceByLetter_25 : decode cX10_diceByLetter 25 = .ok (.iload_n 2, 1) := by decide +kernel
theorem dX10_diceByLetter_26 : decode cX10_diceByLetter 26 = .ok (.aaload, 1) := by decide +kernel
theorem dX10_diceByLetter_27 : decode cX10_diceByLetter 27 = .ok (.goto 9, 3) := by decide +kernel
theorem dX10_diceByLetter_30 : decode cX10_diceByLetter 30 = .ok (.aload_n 0, 1) := by decide +kernel
theorem dX10_diceByLetter_31 : decode cX10_diceByLetter 31 = .ok (.getfield 35, 3) := by decide +kernel
theorem dX10_diceByLetter_34 : decode cX10_diceByLetter 34 = .ok (.iconst 0, 1) := by decide +kernel
theorem dX10_diceByLetter_35 : decode cX10_diceByLetter 35 = .ok (.aaload, 1) := by decide +kernel
theorem dX10_diceByLetter_36 : decode cX10_diceByLetter 36 = .ok (.areturn, 1) := by decide +kernel
theorem dX10_isOfKind_0 : decode cX10_isOfKind 0 = .ok (.iload_n 1, 1) := by decide +kernel
theorem dX10_isOfKind_1 : decode cX10_isOfKind 1 = .ok (.tableswitch 57 0 4 #[35, 37, 42, 47, 52], 35) := by decide +kernel
theorem dX10_isOfKind_36 : decode cX10_isOfKind 36 = .ok (.iconst 1, 1) := by decide +kernel
theorem dX10_isOfKind_37 : decode cX10_isOfKind 37 = .ok (.ireturn, 1) := by decide +kernel
theorem dX10_isOfKind_38 : decode cX10_isOfKind 38 = .ok (.aload_n 0, 1) := by decide +kernel
theorem dX10_isOfKind_39 : decode cX10_isOfKind 39 = .ok (.instanceof 21, 3) := by decide +kernel
theorem dX10_isOfKind_42 : decode cX10_isOfKind 42 = .ok (.ireturn, 1) := by decide +kernel
theorem dX10_isOfKind_43 : decode cX10_isOfKind 43 = .ok (.aload_n 0, 1) := by decide +kernel
theorem dX10_isOfKind_44 : decode cX10_isOfKind 44 = .ok (.instanceof 26, 3) := by decide +kernel
theorem dX10_isOfKind_47 : decode cX10_isOfKind 47 = .ok (.ireturn, 1) := by decide +kernel
theorem dX10_isOfKind_48 : decode cX10_isOfKind 48 = .ok (.aload_n 0, 1) := by decide +kernel
theorem dX10_isOfKind_49 : decode cX10_isOfKind 49 = .ok (.instanceof 29, 3) := by decide +kernel
theorem dX10_isOfKind_52 : decode cX10_isOfKind 52 = .ok (.ireturn, 1) := by decide +kernel
theorem dX10_isOfKind_53 : decode cX10_isOfKind 53 = .ok (.aload_n 0, 1) := by decide +kernel
theorem dX10_isOfKind_54 : decode cX10_isOfKind 54 = .ok (.instanceof 32, 3) := by decide +kernel
theorem dX10_isOfKind_57 : decode cX10_isOfKind 57 = .ok (.ireturn, 1) := by decide +kernel
theorem dX10_isOfKind_58 : decode cX10_isOfKind 58 = .ok (.iconst 0, 1) := by decide +kernel
theorem dX10_isOfKind_59 : decode cX10_isOfKind 59 = .ok (.ireturn, 1) := by decide +kernel
theorem dX10_isSum_0 : decode cX10_isSum 0 = .ok (.iload_n 0, 1) := by decide +kernel
theorem dX10_isSum_1 : decode cX10_isSum 1 = .ok (.iconst 2, 1) := by decide +kernel
theorem dX10_isSum_2 : decode cX10_isSum 2 = .ok (.if_icmp .lt 13, 3) := by decide +kernel
theorem dX10_isSum_5 : decode cX10_isSum 5 = .ok (.iload_n 0, 1) := by decide +kernel
theorem dX10_isSum_6 : decode cX10_isSum 6 = .ok (.bipush 12, 2) := by decide +kernel
theorem dX10_isSum_8 : decode cX10_isSum 8 = .ok (.if_icmp .gt 7, 3) := by decide +kernel
theorem dX10_isSum_11 : decode cX10_isSum 11 = .ok (.iconst 1, 1) := by decide +kernel
theorem dX10_isSum_12 : decode cX10_isSum 12 = .ok (.goto 4, 3) := by decide +kernel
theorem dX10_isSum_15 : decode cX10_isSum 15 = .ok (.iconst 0, 1) := by decide +kernel
theorem dX10_isSum_16 : decode cX10_isSum 16 = .ok (.ireturn, 1) := by decide +kernel
theorem dX10_isBelow_0 : decode cX10_isBelow 0 = .ok (.iload_n 0, 1) := by decide +kernel
theorem dX10_isBelow_1 : decode cX10_isBelow 1 = .ok (.ifCond .lt 12, 3) := by decide +kernel
theorem dX10_isBelow_4 : decode cX10_isBelow 4 = .ok (.iload_n 0, 1) := by decide +kernel
theorem dX10_isBelow_5 : decode cX10_isBelow 5 = .ok (.iload_n 1, 1) := by decide +kernel
theorem dX10_isBelow_6 : decode cX10_isBelow 6 = .ok (.if_icmp .ge 7, 3) := by decide +kernel
theorem dX10_isBelow_9 : decode cX10_isBelow 9 = .ok (.iconst 1, 1) := by decide +kernel
theorem dX10_isBelow_10 : decode cX10_isBelow 10 = .ok (.goto 4, 3) := by decide +kernel
theorem dX10_isBelow_13 : decode cX10_isBelow 13 = .ok (.iconst 0, 1) := by decide +kernel
theorem dX10_isBelow_14 : decode cX10_isBelow 14 = .ok (.ireturn, 1) := by decide +kernel
set_option maxRecDepth 20000 in
theorem ggX10_lowestTerm_X10_commonDivisor : GoodIn wsX10_lowestTerm wsX10_commonDivisor := goodIn_r _ [4] (by decide +kernel) (by decide +kernel)
set_option maxRecDepth 20000 in
theorem gX10_lowestTerm_X10_commonDivisor : GoodIn wsX10_lowestTerm (va_wsS RX10 297 yX10_commonDivisor wsX10_commonDivisor) := goodIn_app (goodIn_of _ (by decide +kernel)) ggX10_lowestTerm_X10_commonDivisor
theorem dX10_lowestTerm_0 : decode cX10_lowestTerm 0 = .ok (.lload_n 0, 1) := by decide +kernel
theorem dX10_lowestTerm_1 : decode cX10_lowestTerm 1 = .ok (.lload_n 2, 1) := by decide +kernel
theorem dX10_lowestTerm_2 : decode cX10_lowestTerm 2 = .ok (.invokestatic 297, 3) := by decide +kernel
theorem dX10_lowestTerm_5 : decode cX10_lowestTerm 5 = .ok (.lstore 5, 2) := by decide +kernel
theorem dX10_lowestTerm_7 : decode cX10_lowestTerm 7 = .ok (.iload 4, 2) := by decide +kernel
theorem dX10_lowestTerm_9 : decode cX10_lowestTerm 9 = .ok (.ifCond .ne 7, 3) := by decide +kernel
theorem dX10_lowestTerm_12 : decode cX10_lowestTerm 12 = .ok (.lload_n 0, 1) := by decide +kernel
theorem dX10_lowestTerm_13 : decode cX10_lowestTerm 13 = .ok (.goto 4, 3) := by decide +kernel
theorem dX10_lowestTerm_16 : decode cX10_lowestTerm 16 = .ok (.lload_n 2, 1) := by decide +kernel
theorem dX10_lowestTerm_17 : decode cX10_lowestTerm 17 = .ok (.lstore 7, 2) := by decide +kernel
theorem dX10_lowestTerm_19 : decode cX10_lowestTerm 19 = .ok (.lload 5, 2) := by decide +kernel
theorem dX10_lowestTerm_21 : decode cX10_lowestTerm 21 = .ok (.lconst 0, 1) := by decide +kernel
theorem dX10_lowestTerm_22 : decode cX10_lowestTerm 22 = .ok (.lcmp, 1) := by decide +kernel
theorem dX10_lowestTerm_23 : decode cX10_lowestTerm 23 = .ok (.ifCond .le 11, 3) := by decide +kernel
theorem dX10_lowestTerm_26 : decode cX10_lowestTerm 26 = .ok (.lload 7, 2) := by decide +kernel
theorem dX10_lowestTerm_28 : decode cX10_lowestTerm 28 = .ok (.lload 5, 2) := by decide +kernel
theorem dX10_lowestTerm_30 : decode cX10_lowestTerm 30 = .ok (.ldiv, 1) := by decide +kernel
theorem dX10_lowestTerm_31 : decode cX10_lowestTerm 31 = .ok (.goto 5, 3) := by decide +kernel
theorem dX10_lowestTerm_34 : decode cX10_lowestTerm 34 = .ok (.lload 7, 2) := by decide +kernel
theorem dX10_lowestTerm_36 : decode cX10_lowestTerm 36 = .ok (.lreturn, 1) := by decide +kernel
theorem dX10_commonDivisor_0 : decode cX10_commonDivisor 0 = .ok (.lload_n 0, 1) := by decide +kernel
theorem dX10_commonDivisor_1 : decode cX10_commonDivisor 1 = .ok (.lstore 4, 2) := by decide +kernel
theorem dX10_commonDivisor_3 : decode cX10_commonDivisor 3 = .ok (.lload_n 2, 1) := by decide +kernel
theorem dX10_commonDivisor_4 : decode cX10_commonDivisor 4 = .ok (.lstore 6, 2) := by decide +kernel
theorem dX10_commonDivisor_6 : decode cX10_commonDivisor 6 = .ok (.iconst 0, 1) := by decide +kernel
theorem dX10_commonDivisor_7 : decode cX10_commonDivisor 7 = .ok (.istore 8, 2) := by decide +kernel
theorem dX10_commonDivisor_9 : decode cX10_commonDivisor 9 = .ok (.iload 8, 2) := by decide +kernel
theorem dX10_commonDivisor_11 : decode cX10_commonDivisor 11 = .ok (.bipush 100, 2) := by decide +kernel
theorem dX10_commonDivisor_13 : decode cX10_commonDivisor 13 = .ok (.if_icmp .ge 31, 3) := by decide +kernel
theorem dX10_commonDivisor_16 : decode cX10_commonDivisor 16 = .ok (.lload 6, 2) := by decide +kernel
theorem dX10_commonDivisor_18 : decode cX10_commonDivisor 18 = .ok (.lconst 0, 1) := by decide +kernel
theorem dX10_commonDivisor_19 : decode cX10_commonDivisor 19 = .ok (.lcmp, 1) := by decide +kernel
theorem dX10_commonDivisor_20 : decode cX10_commonDivisor 20 = .ok (.ifCond .eq 24, 3) := by decide +kernel
theorem dX10_commonDivisor_23 : decode cX10_commonDivisor 23 = .ok (.lload 4, 2) := by decide +kernel
theorem dX10_commonDivisor_25 : decode cX10_commonDivisor 25 = .ok (.lload 6, 2) := by decide +kernel
theorem dX10_commonDivisor_27 : decode cX10_commonDivisor 27 = .ok (.lrem, 1) := by decide +kernel
theorem dX10_commonDivisor_28 : decode cX10_commonDivisor 28 = .ok (.lstore 9, 2) := by decide +kernel
theorem dX10_commonDivisor_30 : decode cX10_commonDivisor 30 = .ok (.lload 6, 2) := by decide +kernel
theorem dX10_commonDivisor_32 : decode cX10_commonDivisor 32 = .ok (.lstore 4, 2) := by decide +kernel
theorem dX10_commonDivisor_34 : decode cX10_commonDivisor 34 = .ok (.lload 9, 2) := by decide +kernel
theorem dX10_commonDivisor_36 : decode cX10_commonDivisor 36 = .ok (.lstore 6, 2) := by decide +kernel
theorem dX10_commonDivisor_38 : decode cX10_commonDivisor 38 = .ok (.iinc 8 1, 3) := by decide +kernel
theorem dX10_commonDivisor_41 : decode cX10_commonDivisor 41 = .ok (.goto (-32), 3) := by decide +kernel
theorem dX10_commonDivisor_44 : decode cX10_commonDivisor 44 = .ok (.lload 4, 2) := by decide +kernel
theorem dX10_commonDivisor_46 : decode cX10_commonDivisor 46 = .ok (.lreturn, 1) := by decide +kernel
set_option maxRecDepth 20000 in
theorem ggX10_waysBack_X5_waysTo : GoodIn wsX10_waysBack wsX5_waysTo := goodIn_r _ [4, 5, 6, 7, 8, 14, 15] (by decide +kernel) (by decide +kernel)
set_option maxRecDepth 20000 in
theorem gX10_waysBack_X5_waysTo_n164 : GoodIn wsX10_waysBack (wsX5_waysTo) := ggX10_waysBack_X5_waysTo
set_option maxRecDepth 20000 in
theorem ggX10_waysBack_X10_power : GoodIn wsX10_waysBack wsX10_power := goodIn_r _ [11] (by decide +kernel) (by decide +kernel)
set_option maxRecDepth 20000 in
theorem gX10_waysBack_X10_power : GoodIn wsX10_waysBack (va_wsS RX10 190 yX10_power wsX10_power) := goodIn_app (goodIn_of _ (by decide +kernel)) ggX10_waysBack_X10_power
set_option maxRecDepth 20000 in
theorem ggX10_waysBack_X10_waysBack : GoodIn wsX10_waysBack wsX10_waysBack := goodIn_r _ [0, 1, 2, 3, 4, 5, 6, 7, 8, 9, 10, 11, 12, 13, 14, 15] (by decide +kernel) (by decide +kernel)
set_option maxRecDepth 20000 in
theorem gX10_waysBack_X10_waysBack : GoodIn wsX10_waysBack (va_wsS RX10 186 yX10_waysBack wsX10_waysBack) := goodIn_app (goodIn_of _ (by decide +kernel)) ggX10_waysBack_X10_waysBack
theorem dX10_waysBack_0 : decode cX10_waysBack 0 = .ok (.iload_n 1, 1) := by decide +kernel
theorem dX10_waysBack_1 : decode cX10_waysBack 1 = .ok (.iconst 1, 1) := by decide +kernel
theorem dX10_waysBack_2 : decode cX10_waysBack 2 = .ok (.if_icmp .lt 13, 3) := by decide +kernel
theorem dX10_waysBack_5 : decode cX10_waysBack 5 = .ok (.iload_n 1, 1) := by decide +kernel
theorem dX10_waysBack_6 : decode cX10_waysBack 6 = .ok (.iconst 5, 1) := by decide +kernel
theorem dX10_waysBack_7 : decode cX10_waysBack 7 = .ok (.if_icmp .gt 8, 3) := by decide +kernel
theorem dX10_waysBack_10 : decode cX10_waysBack 10 = .ok (.iload_n 2, 1) := by decide +kernel
theorem dX10_waysBack_11 : decode cX10_waysBack 11 = .ok (.iconst 1, 1) := by decide +kernel
theorem dX10_waysBack_12 : decode cX10_waysBack 12 = .ok (.if_icmp .ge 5, 3) := by decide +kernel
theorem dX10_waysBack_15 : decode cX10_waysBack 15 = .ok (.lconst 0, 1) := by decide +kernel
theorem dX10_waysBack_16 : decode cX10_waysBack 16 = .ok (.lreturn, 1) := by decide +kernel
theorem dX10_waysBack_17 : decode cX10_waysBack 17 = .ok (.aload_n 0, 1) := by decide +kernel
theorem dX10_waysBack_18 : decode cX10_waysBack 18 = .ok (.iconst 0, 1) := by decide +kernel
theorem dX10_waysBack_19 : decode cX10_waysBack 19 = .ok (.invokevirtual 164, 3) := by decide +kernel
theorem dX10_waysBack_22 : decode cX10_waysBack 22 = .ok (.i2l, 1) := by decide +kernel
theorem dX10_waysBack_23 : decode cX10_waysBack 23 = .ok (.aload_n 0, 1) := by decide +kernel
theorem dX10_waysBack_24 : decode cX10_waysBack 24 = .ok (.getfield 167, 3) := by decide +kernel
theorem dX10_waysBack_27 : decode cX10_waysBack 27 = .ok (.i2l, 1) := by decide +kernel
theorem dX10_waysBack_28 : decode cX10_waysBack 28 = .ok (.iload_n 1, 1) := by decide +kernel
theorem dX10_waysBack_29 : decode cX10_waysBack 29 = .ok (.iconst 1, 1) := by decide +kernel
theorem dX10_waysBack_30 : decode cX10_waysBack 30 = .ok (.isub, 1) := by decide +kernel
theorem dX10_waysBack_31 : decode cX10_waysBack 31 = .ok (.invokestatic 190, 3) := by decide +kernel
theorem dX10_waysBack_34 : decode cX10_waysBack 34 = .ok (.lmul, 1) := by decide +kernel
theorem dX10_waysBack_35 : decode cX10_waysBack 35 = .ok (.aload_n 0, 1) := by decide +kernel
theorem dX10_waysBack_36 : decode cX10_waysBack 36 = .ok (.iconst 1, 1) := by decide +kernel
theorem dX10_waysBack_37 : decode cX10_waysBack 37 = .ok (.invokevirtual 164, 3) := by decide +kernel
theorem dX10_waysBack_40 : decode cX10_waysBack 40 = .ok (.i2l, 1) := by decide +kernel
theorem dX10_waysBack_41 : decode cX10_waysBack 41 = .ok (.aload_n 0, 1) := by decide +kernel
theorem dX10_waysBack_42 : decode cX10_waysBack 42 = .ok (.iload_n 1, 1) := by decide +kernel
theorem dX10_waysBack_43 : decode cX10_waysBack 43 = .ok (.iconst 1, 1) := by decide +kernel
theorem dX10_waysBack_44 : decode cX10_waysBack 44 = .ok (.isub, 1) := by decide +kernel
theorem dX10_waysBack_45 : decode cX10_waysBack 45 = .ok (.iload_n 2, 1) := by decide +kernel
theorem dX10_waysBack_46 : decode cX10_waysBack 46 = .ok (.iconst 1, 1) := by decide +kernel
theorem dX10_waysBack_47 : decode cX10_waysBack 47 = .ok (.isub, 1) := by decide +kernel
theorem dX10_waysBack_48 : decode cX10_waysBack 48 = .ok (.invokestatic 186, 3) := by decide +kernel
theorem dX10_waysBack_51 : decode cX10_waysBack 51 = .ok (.lmul, 1) := by decide +kernel
theorem dX10_waysBack_52 : decode cX10_waysBack 52 = .ok (.ladd, 1) := by decide +kernel
theorem dX10_waysBack_53 : decode cX10_waysBack 53 = .ok (.aload_n 0, 1) := by decide +kernel
theorem dX10_waysBack_54 : decode cX10_waysBack 54 = .ok (.iconst 2, 1) := by decide +kernel
theorem dX10_waysBack_55 : decode cX10_waysBack 55 = .ok (.invokevirtual 164, 3) := by decide +kernel
theorem dX10_waysBack_58 : decode cX10_waysBack 58 = .ok (.i2l, 1) := by decide +kernel
theorem dX10_waysBack_59 : decode cX10_waysBack 59 = .ok (.aload_n 0, 1) := by decide +kernel
theorem dX10_waysBack_60 : decode cX10_waysBack 60 = .ok (.iload_n 1, 1) := by decide +kernel
theorem dX10_waysBack_61 : decode cX10_waysBack 61 = .ok (.iconst 1, 1) := by decide +kernel
theorem dX10_waysBack_62 : decode cX10_waysBack 62 = .ok (.isub, 1) := by decide +kernel
theorem dX10_waysBack_63 : decode cX10_waysBack 63 = .ok (.iload_n 2, 1) := by decide +kernel
theorem dX10_waysBack_64 : decode cX10_waysBack 64 = .ok (.invokestatic 186, 3) := by decide +kernel
theorem dX10_waysBack_67 : decode cX10_waysBack 67 = .ok (.lmul, 1) := by decide +kernel
theorem dX10_waysBack_68 : decode cX10_waysBack 68 = .ok (.ladd, 1) := by decide +kernel
theorem dX10_waysBack_69 : decode cX10_waysBack 69 = .ok (.lreturn, 1) := by decide +kernel
theorem dX10_power_0 : decode cX10_power 0 = .ok (.lconst 1, 1) := by decide +kernel
theorem dX10_power_1 : decode cX10_power 1 = .ok (.lstore_n 3, 1) := by decide +kernel
theorem dX10_power_2 : decode cX10_power 2 = .ok (.iconst 0, 1) := by decide +kernel
theorem dX10_power_3 : decode cX10_power 3 = .ok (.istore 5, 2) := by decide +kernel
theorem dX10_power_5 : decode cX10_power 5 = .ok (.iload 5, 2) := by decide +kernel
theorem dX10_power_7 : decode cX10_power 7 = .ok (.iload_n 2, 1) := by decide +kernel
theorem dX10_power_8 : decode cX10_power 8 = .ok (.if_icmp .ge 13, 3) := by decide +kernel
theorem dX10_power_11 : decode cX10_power 11 = .ok (.lload_n 3, 1) := by decide +kernel
theorem dX10_power_12 : decode cX10_power 12 = .ok (.lload_n 0, 1) := by decide +kernel
theorem dX10_power_13 : decode cX10_power 13 = .ok (.lmul, 1) := by decide +kernel
theorem dX10_power_14 : decode cX10_power 14 = .ok (.lstore_n 3, 1) := by decide +kernel
theorem dX10_power_15 : decode cX10_power 15 = .ok (.iinc 5 1, 3) := by decide +kernel
theorem dX10_power_18 : decode cX10_power 18 = .ok (.goto (-13), 3) := by decide +kernel
theorem dX10_power_21 : decode cX10_power 21 = .ok (.lload_n 3, 1) := by decide +kernel
theorem dX10_power_22 : decode cX10_power 22 = .ok (.lreturn, 1) := by decide +kernel
set_option maxRecDepth 20000 in
theorem ggX11_init_X11_leastOf : GoodIn wsX11_init wsX11_leastOf := goodIn_r _ [23] (by decide +kernel) (by decide +kernel)
set_option maxRecDepth 20000 in
theorem gX11_init_X11_leastOf : GoodIn wsX11_init (va_wsS RX11 54 yX11_leastOf wsX11_leastOf) := goodIn_app (goodIn_of _ (by decide +kernel)) ggX11_init_X11_leastOf
set_option maxRecDepth 20000 in
theorem ggX11_init_X11_mostOf : GoodIn wsX11_init wsX11_mostOf := goodIn_r _ [26] (by decide +kernel) (by decide +kernel)
set_option maxRecDepth 20000 in
theorem gX11_init_X11_mostOf : GoodIn wsX11_init (va_wsS RX11 58 yX11_mostOf wsX11_mostOf) := goodIn_app (goodIn_of _ (by decide +kernel)) ggX11_init_X11_mostOf
theorem dX11_init_0 : decode cX11_init 0 = .ok (.aload_n 0, 1) := by decide +kernel
theorem dX11_init_1 : decode cX11_init 1 = .ok (.invokespecial 1, 3) := by decide +kernel
theorem dX11_init_4 : decode cX11_init 4 = .ok (.aload_n 0, 1) := by decide +kernel
theorem dX11_init_5 : decode cX11_init 5 = .ok (.bipush 64, 2) := by decide +kernel
theorem dX11_init_7 : decode cX11_init 7 = .ok (.newarray .int, 2) := by decide +kernel
theorem dX11_init_9 : decode cX11_init 9 = .ok (.putfield 7, 3) := by decide +kernel
theorem dX11_init_12 : decode cX11_init 12 = .ok (.aload_n 0, 1) := by decide +kernel
theorem dX11_init_13 : decode cX11_init 13 = .ok (.bipush 13, 2) := by decide +kernel
theorem dX11_init_15 : decode cX11_init 15 = .ok (.newarray .int, 2) := by decide +kernel
theorem dX11_init_17 : decode cX11_init 17 = .ok (.putfield 13, 3) := by decide +kernel
theorem dX11_init_20 : decode cX11_init 20 = .ok (.aload_n 0, 1) := by decide +kernel
theorem dX11_init_21 : decode cX11_init 21 = .ok (.bipush 22, 2) := by decide +kernel
theorem dX11_init_23 : decode cX11_init 23 = .ok (.newarray .int, 2) := by decide +kernel
theorem dX11_init_25 : decode cX11_init 25 = .ok (.putfield 16, 3) := by decide +kernel
theorem dX11_init_28 : decode cX11_init 28 = .ok (.aload_n 0, 1) := by decide +kernel
theorem dX11_init_29 : decode cX11_init 29 = .ok (.bipush 12, 2) := by decide +kernel
theorem dX11_init_31 : decode cX11_init 31 = .ok (.newarray .int, 2) := by decide +kernel
theorem dX11_init_33 : decode cX11_init 33 = .ok (.putfield 19, 3) := by decide +kernel
theorem dX11_init_36 : decode cX11_init 36 = .ok (.aload_n 0, 1) := by decide +kernel
theorem dX11_init_37 : decode cX11_init 37 = .ok (.iconst 2, 1) := by decide +kernel
theorem dX11_init_38 : decode cX11_init 38 = .ok (.newarray .int, 2) := by decide +kernel
theorem dX11_init_40 : decode cX11_init 40 = .ok (.putfield 22, 3) := by decide +kernel
theorem dX11_init_43 : decode cX11_init 43 = .ok (.aload_n 0, 1) := by decide +kernel
theorem dX11_init_44 : decode cX11_init 44 = .ok (.bipush 36, 2) := by decide +kernel
theorem dX11_init_46 : decode cX11_init 46 = .ok (.newarray .int, 2) := by decide +kernel
theorem dX11_init_48 : decode cX11_init 48 = .ok (.putfield 25, 3) := by decide +kernel
theorem dX11_init_51 : decode cX11_init 51 = .ok (.aload_n 0, 1) := by decide +kernel
theorem dX11_init_52 : decode cX11_init 52 = .ok (.iconst 2, 1) := by decide +kernel
theorem dX11_init_53 : decode cX11_init 53 = .ok (.newarray .int, 2) := by decide +kernel
theorem dX11_init_55 : decode cX11_init 55 = .ok (.putfield 28, 3) := by decide +kernel
theorem dX11_init_58 : decode cX11_init 58 = .ok (.aload_n 0, 1) := by decide +kernel
theorem dX11_init_59 : decode cX11_init 59 = .ok (.bipush 7, 2) := by decide +kernel
theorem dX11_init_61 : decode cX11_init 61 = .ok (.newarray .long, 2) := by decide +kernel
theorem dX11_init_63 : decode cX11_init 63 = .ok (.putfield 31, 3) := by decide +kernel
theorem dX11_init_66 : decode cX11_init 66 = .ok (.aload_n 0, 1) := by decide +kernel
theorem dX11_init_67 : decode cX11_init 67 = .ok (.bipush 7, 2) := by decide +kernel
theorem dX11_init_69 : decode cX11_init 69 = .ok (.newarray .long, 2) := by decide +kernel
theorem dX11_init_71 : decode cX11_init 71 = .ok (.putfield 35, 3) := by decide +kernel
theorem dX11_init_74 : decode cX11_init 74 = .ok (.aload_n 0, 1) := by decide +kernel
theorem dX11_init_75 : decode cX11_init 75 = .ok (.bipush 8, 2) := by decide +kernel
theorem dX11_init_77 : decode cX11_init 77 = .ok (.newarray .int, 2) := by decide +kernel
theorem dX11_init_79 : decode cX11_init 79 = .ok (.putfield 38, 3) := by decide +kernel
theorem dX11_init_82 : decode cX11_init 82 = .ok (.aload_n 0, 1) := by decide +kernel
theorem dX11_init_83 : decode cX11_init 83 = .ok (.bipush 36, 2) := by decide +kernel
theorem dX11_init_85 : decode cX11_init 85 = .ok (.newarray .int, 2) := by decide +kernel
theorem dX11_init_87 : decode cX11_init 87 = .ok (.putfield 41, 3) := by decide +kernel
theorem dX11_init_90 : decode cX11_init 90 = .ok (.aload_n 0, 1) := by decide +kernel
theorem dX11_init_91 : decode cX11_init 91 = .ok (.bipush 36, 2) := by decide +kernel
theorem dX11_init_93 : decode cX11_init 93 = .ok (.newarray .int, 2) := by decide +kernel
theorem dX11_init_95 : decode cX11_init 95 = .ok (.putfield 44, 3) := by decide +kernel
theorem dX11_init_98 : decode cX11_init 98 = .ok (.aload_n 0, 1) := by decide +kernel
theorem dX11_init_99 : decode cX11_init 99 = .ok (.bipush 8, 2) := by decide +kernel
theorem dX11_init_101 : decode cX11_init 101 = .ok (.newarray .int, 2) := by decide +kernel
theorem dX11_init_103 : decode cX11_init 103 = .ok (.putfield 47, 3) := by decide +kernel
theorem dX11_init_106 : decode cX11_init 106 = .ok (.aload_n 0, 1) := by decide +kernel
theorem dX11_init_107 : decode cX11_init 107 = .ok (.iconst (-1), 1) := by decide +kernel
theorem dX11_init_108 : decode cX11_init 108 = .ok (.putfield 50, 3) := by decide +kernel
theorem dX11_init_111 : decode cX11_init 111 = .ok (.iconst 0, 1) := by decide +kernel
theorem dX11_init_112 : decode cX11_init 112 = .ok (.istore_n 1, 1) := by decide +kernel
theorem dX11_init_113 : decode cX11_init 113 = .ok (.iload_n 1, 1) := by decide +kernel
theorem dX11_init_114 : decode cX11_init 114 = .ok (.iconst 5, 1) := by decide +kernel
theorem dX11_init_115 : decode cX11_init 115 = .ok (.if_icmp .ge 103, 3) := by decide +kernel
theorem dX11_init_118 : decode cX11_init 118 = .ok (.iload_n 1, 1) := by decide +kernel
theorem dX11_init_119 : decode cX11_init 119 = .ok (.invokestatic 54, 3) := by decide +kernel
theorem dX11_init_122 : decode cX11_init 122 = .ok (.istore_n 2, 1) := by decide +kernel
theorem dX11_init_123 : decode cX11_init 123 = .ok (.iload_n 2, 1) := by decide +kernel
theorem dX11_init_124 : decode cX11_init 124 = .ok (.iload_n 1, 1) := by decide +kernel
theorem dX11_init_125 : decode cX11_init 125 = .ok (.invokestatic 58, 3) := by decide +kernel
theorem dX11_init_128 : decode cX11_init 128 = .ok (.if_icmp .gt 84, 3) := by decide +kernel
theorem dX11_init_131 : decode cX11_init 131 = .ok (.iload_n 1, 1) := by decide +kernel
theorem dX11_init_132 : decode cX11_init 132 = .ok (.invokestatic 54, 3) := by decide +kernel
theorem dX11_init_135 : decode cX11_init 135 = .ok (.istore_n 3, 1) := by decide +kernel
theorem dX11_init_136 : decode cX11_init 136 = .ok (.iload_n 3, 1) := by decide +kernel
theorem dX11_init_137 : decode cX11_init 137 = .ok (.iload_n 1, 1) := by decide +kernel
theorem dX11_init_138 : decode cX11_init 138 = .ok (.invokestatic 58, 3) := by decide +kernel
theorem dX11_init_141 : decode cX11_init 141 = .ok (.if_icmp .gt 65, 3) := by decide +kernel
theorem dX11_init_144 : decode cX11_init 144 = .ok (.iload_n 1, 1) := by decide +kernel
theorem dX11_init_145 : decode cX11_init 145 = .ok (.iconst 2, 1) := by decide +kernel
theorem dX11_init_146 : decode cX11_init 146 = .ok (.if_icmp .ne 8, 3) := by decide +kernel
theorem dX11_init_149 : decode cX11_init 149 = .ok (.iload_n 2, 1) := by decide +kernel
theorem dX11_init_150 : decode cX11_init 150 = .ok (.iload_n 3, 1) := by decide +kernel
theorem dX11_init_151 : decode cX11_init 151 = .ok (.if_icmp .ne 7, 3) := by decide +kernel
theorem dX11_init_154 : decode cX11_init 154 = .ok (.iconst 1, 1) := by decide +kernel
theorem dX11_init_155 : decode cX11_init 155 = .ok (.goto 4, 3) := by decide +kernel
theorem dX11_init_158 : decode cX11_init 158 = .ok (.iconst 0, 1) := by decide +kernel
theorem dX11_init_159 : decode cX11_init 159 = .ok (.istore 4, 2) := by decide +kernel
theorem dX11_init_161 : decode cX11_init 161 = .ok (.iload_n 1, 1) := by decide +kernel
theorem dX11_init_162 : decode cX11_init 162 = .ok (.iconst 4, 1) := by decide +kernel
theorem dX11_init_163 : decode cX11_init 163 = .ok (.if_icmp .ne 19, 3) := by decide +kernel
theorem dX11_init_166 : decode cX11_init 166 = .ok (.aload_n 0, 1) := by decide +kernel
theorem dX11_init_167 : decode cX11_init 167 = .ok (.getfield 13, 3) := by decide +kernel
theorem dX11_init_170 : decode cX11_init 170 = .ok (.iload_n 2, 1) := by decide +kernel
theorem dX11_init_171 : decode cX11_init 171 = .ok (.iload_n 3, 1) := by decide +kernel
theorem dX11_init_172 : decode cX11_init 172 = .ok (.iadd, 1) := by decide +kernel
theorem dX11_init_173 : decode cX11_init 173 = .ok (.dup2, 1) := by decide +kernel
theorem dX11_init_174 : decode cX11_init 174 = .ok (.iaload, 1) := by decide +kernel
theorem dX11_init_175 : decode cX11_init 175 = .ok (.iload 4, 2) := by decide +kernel
theorem dX11_init_177 : decode cX11_init 177 = .ok (.iadd, 1) := by decide +kernel
theorem dX11_init_178 : decode cX11_init 178 = .ok (.iastore, 1) := by decide +kernel
theorem dX11_init_179 : decode cX11_init 179 = .ok (.goto 21, 3) := by decide +kernel
theorem dX11_init_182 : decode cX11_init 182 = .ok (.aload_n 0, 1) := by decide +kernel
theorem dX11_init_183 : decode cX11_init 183 = .ok (.getfield 7, 3) := by decide +kernel
theorem dX11_init_186 : decode cX11_init 186 = .ok (.bipush 13, 2) := by decide +kernel
theorem dX11_init_188 : decode cX11_init 188 = .ok (.iload_n 1, 1) := by decide +kernel
theorem dX11_init_189 : decode cX11_init 189 = .ok (.imul, 1) := by decide +kernel
theorem dX11_init_190 : decode cX11_init 190 = .ok (.iload_n 2, 1) := by decide +kernel
theorem dX11_init_191 : decode cX11_init 191 = .ok (.iadd, 1) := by decide +kernel
theorem dX11_init_192 : decode cX11_init 192 = .ok (.iload_n 3, 1) := by decide +kernel
theorem dX11_init_193 : decode cX11_init 193 = .ok (.iadd, 1) := by decide +kernel
theorem dX11_init_194 : decode cX11_init 194 = .ok (.dup2, 1) := by decide +kernel
theorem dX11_init_195 : decode cX11_init 195 = .ok (.iaload, 1) := by decide +kernel
theorem dX11_init_196 : decode cX11_init 196 = .ok (.iload 4, 2) := by decide +kernel
theorem dX11_init_198 : decode cX11_init 198 = .ok (.iadd, 1) := by decide +kernel
theorem dX11_init_199 : decode cX11_init 199 = .ok (.iastore, 1) := by decide +kernel
theorem dX11_init_200 : decode cX11_init 200 = .ok (.iinc 3 1, 3) := by decide +kernel
theorem dX11_init_203 : decode cX11_init 203 = .ok (.goto (-67), 3) := by decide +kernel
theorem dX11_init_206 : decode cX11_init 206 = .ok (.iinc 2 1, 3) := by decide +kernel
theorem dX11_init_209 : decode cX11_init 209 = .ok (.goto (-86), 3) := by decide +kernel
theorem dX11_init_212 : decode cX11_init 212 = .ok (.iinc 1 1, 3) := by decide +kernel
theorem dX11_init_215 : decode cX11_init 215 = .ok (.goto (-102), 3) := by decide +kernel
theorem dX11_init_218 : decode cX11_init 218 = .ok (.return_, 1) := by decide +kernel
theorem dX11_leastOf_0 : decode cX11_leastOf 0 = .ok (.iload_n 0, 1) := by decide +kernel
theorem dX11_leastOf_1 : decode cX11_leastOf 1 = .ok (.iconst 1, 1) := by decide +kernel
theorem dX11_leastOf_2 : decode cX11_leastOf 2 = .ok (.if_icmp .ne 7, 3) := by decide +kernel
theorem dX11_leastOf_5 : decode cX11_leastOf 5 = .ok (.iconst 2, 1) := by decide +kernel
theorem dX11_leastOf_6 : decode cX11_leastOf 6 = .ok (.goto 13, 3) := by decide +kernel
theorem dX11_leastOf_9 : decode cX11_leastOf 9 = .ok (.iload_n 0, 1) := by decide +kernel
theorem dX11_leastOf_10 : decode cX11_leastOf 10 = .ok (.iconst 4, 1) := by decide +kernel
theorem dX11_leastOf_11 : decode cX11_leastOf 11 = .ok (.if_icmp .ne 7, 3) := by decide +kernel
theorem dX11_leastOf_14 : decode cX11_leastOf 14 = .ok (.iconst 4, 1) := by decide +kernel
theorem dX11_leastOf_15 : decode cX11_leastOf 15 = .ok (.goto 4, 3) := by decide +kernel
theorem dX11_leastOf_18 : decode cX11_leastOf 18 = .ok (.iconst 1, 1) := by decide +kernel
theorem dX11_leastOf_19 : decode cX11_leastOf 19 = .ok (.ireturn, 1) := by decide +kernel
theorem dX11_mostOf_0 : decode cX11_mostOf 0 = .ok (.iload_n 0, 1) := by decide +kernel
theorem dX11_mostOf_1 : decode cX11_mostOf 1 = .ok (.iconst 3, 1) := by decide +kernel
theorem dX11_mostOf_2 : decode cX11_mostOf 2 = .ok (.if_icmp .ne 7, 3) := by decide +kernel
theorem dX11_mostOf_5 : decode cX11_mostOf 5 = .ok (.iconst 3, 1) := by decide +kernel
theorem dX11_mostOf_6 : decode cX11_mostOf 6 = .ok (.goto 5, 3) := by decide +kernel
theorem dX11_mostOf_9 : decode cX11_mostOf 9 = .ok (.bipush 6, 2) := by decide +kernel
theorem dX11_mostOf_11 : decode cX11_mostOf 11 = .ok (.ireturn, 1) := by decide +kernel
theorem dX11_waysOf_0 : decode cX11_waysOf 0 = .ok (.iload_n 1, 1) := by decide +kernel
theorem dX11_waysOf_1 : decode cX11_waysOf 1 = .ok (.iconst 4, 1) := by decide +kernel
theorem dX11_waysOf_2 : decode cX11_waysOf 2 = .ok (.if_icmp .ne 12, 3) := by decide +kernel
theorem dX11_waysOf_5 : decode cX11_waysOf 5 = .ok (.aload_n 0, 1) := by decide +kernel
theorem dX11_waysOf_6 : decode cX11_waysOf 6 = .ok (.getfield 13, 3) := by decide +kernel
theorem dX11_waysOf_9 : decode cX11_waysOf 9 = .ok (.iload_n 2, 1) := by decide +kernel
theorem dX11_waysOf_10 : decode cX11_waysOf 10 = .ok (.iaload, 1) := by decide +kernel
theorem dX11_waysOf_11 : decode cX11_waysOf 11 = .ok (.goto 14, 3) := by decide +kernel
theorem dX11_waysOf_14 : decode cX11_waysOf 14 = .ok (.aload_n 0, 1) := by decide +kernel
theorem dX11_waysOf_15 : decode cX11_waysOf 15 = .ok (.getfield 7, 3) := by decide +kernel
theorem dX11_waysOf_18 : decode cX11_waysOf 18 = .ok (.bipush 13, 2) := by decide +kernel
theorem dX11_waysOf_20 : decode cX11_waysOf 20 = .ok (.iload_n 1, 1) := by decide +kernel
theorem dX11_waysOf_21 : decode cX11_waysOf 21 = .ok (.imul, 1) := by decide +kernel
theorem dX11_waysOf_22 : decode cX11_waysOf 22 = .ok (.iload_n 2, 1) := by decide +kernel
theorem dX11_waysOf_23 : decode cX11_waysOf 23 = .ok (.iadd, 1) := by decide +kernel
theorem dX11_waysOf_24 : decode cX11_waysOf 24 = .ok (.iaload, 1) := by decide +kernel
theorem dX11_waysOf_25 : decode cX11_waysOf 25 = .ok (.ireturn, 1) := by decide +kernel
set_option maxRecDepth 20000 in
theorem ggX11_allWays_X11_waysOf : GoodIn wsX11_allWays wsX11_waysOf := goodIn_r _ [5, 6, 7, 8, 9, 10, 11, 12, 13, 14, 15, 16, 17, 18, 19, 20, 21, 22, 23, 24, 25, 26, 27, 28, 29, 30, 31, 32, 33, 34, 35] (by decide +kernel) (by decide +kernel)
set_option maxRecDepth 20000 in
theorem gX11_allWays_X11_waysOf : GoodIn wsX11_allWays (wsV RX11 61 RX11 yX11_waysOf wsX11_waysOf) := goodIn_app (goodIn_of _ (by decide +kernel)) ggX11_allWays_X11_waysOf
theorem dX11_allWays_0 : decode cX11_allWays 0 = .ok (.iconst 0, 1) := by decide +kernel
theorem dX11_allWays_1 : decode cX11_allWays 1 = .ok (.istore_n 2, 1) := by decide +kernel
theorem dX11_allWays_2 : decode cX11_allWays 2 = .ok (.iconst 2, 1) := by decide +kernel
theorem dX11_allWays_3 : decode cX11_allWays 3 = .ok (.istore_n 3, 1) := by decide +kernel
theorem dX11_allWays_4 : decode cX11_allWays 4 = .ok (.iload_n 3, 1) := by decide +kernel
theorem dX11_allWays_5 : decode cX11_allWays 5 = .ok (.bipush 13, 2) := by decide +kernel
theorem dX11_allWays_7 : decode cX11_allWays 7 = .ok (.if_icmp .ge 18, 3) := by decide +kernel
theorem dX11_allWays_10 : decode cX11_allWays 10 = .ok (.iload_n 2, 1) := by decide +kernel
theorem dX11_allWays_11 : decode cX11_allWays 11 = .ok (.aload_n 0, 1) := by decide +kernel
theorem dX11_allWays_12 : decode cX11_allWays 12 = .ok (.iload_n 1, 1) := by decide +kernel
theorem dX11_allWays_13 : decode cX11_allWays 13 = .ok (.iload_n 3, 1) := by decide +kernel
theorem dX11_allWays_14 : decode cX11_allWays 14 = .ok (.invokevirtual 61, 3) := by decide +kernel
theorem dX11_allWays_17 : decode cX11_allWays 17 = .ok (.iadd, 1) := by decide +kernel
theorem dX11_allWays_18 : decode cX11_allWays 18 = .ok (.istore_n 2, 1) := by decide +kernel
theorem dX11_allWays_19 : decode cX11_allWays 19 = .ok (.iinc 3 1, 3) := by decide +kernel
theorem dX11_allWays_22 : decode cX11_allWays 22 = .ok (.goto (-18), 3) := by decide +kernel
theorem dX11_allWays_25 : decode cX11_allWays 25 = .ok (.iload_n 2, 1) := by decide +kernel
theorem dX11_allWays_26 : decode cX11_allWays 26 = .ok (.ireturn, 1) := by decide +kernel
theorem dX11_in_0 : decode cX11_in 0 = .ok (.lload_n 0, 1) := by decide +kernel
theorem dX11_in_1 : decode cX11_in 1 = .ok (.lload_n 2, 1) := by decide +kernel
theorem dX11_in_2 : decode cX11_in 2 = .ok (.lcmp, 1) := by decide +kernel
theorem dX11_in_3 : decode cX11_in 3 = .ok (.ifCond .lt 14, 3) := by decide +kernel
theorem dX11_in_6 : decode cX11_in 6 = .ok (.lload_n 0, 1) := by decide +kernel
theorem dX11_in_7 : decode cX11_in 7 = .ok (.lload 4, 2) := by decide +kernel
theorem dX11_in_9 : decode cX11_in 9 = .ok (.lcmp, 1) := by decide +kernel
theorem dX11_in_10 : decode cX11_in 10 = .ok (.ifCond .gt 7, 3) := by decide +kernel
theorem dX11_in_13 : decode cX11_in 13 = .ok (.iconst 1, 1) := by decide +kernel
theorem dX11_in_14 : decode cX11_in 14 = .ok (.goto 4, 3) := by decide +kernel
theorem dX11_in_17 : decode cX11_in 17 = .ok (.iconst 0, 1) := by decide +kernel
theorem dX11_in_18 : decode cX11_in 18 = .ok (.ireturn, 1) := by decide +kernel
theorem dX11_copy_0 : decode cX11_copy 0 = .ok (.iconst 0, 1) := by decide +kernel
theorem dX11_copy_1 : decode cX11_copy 1 = .ok (.istore_n 2, 1) := by decide +kernel
theorem dX11_copy_2 : decode cX11_copy 2 = .ok (.iload_n 2, 1) := by decide +kernel
theorem dX11_copy_3 : decode cX11_copy 3 = .ok (.aload_n 0, 1) := by decide +kernel
theorem dX11_copy_4 : decode cX11_copy 4 = .ok (.arraylength, 1) := by decide +kernel
theorem dX11_copy_5 : decode cX11_copy 5 = .ok (.if_icmp .ge 15, 3) := by decide +kernel
theorem dX11_copy_8 : decode cX11_copy 8 = .ok (.aload_n 1, 1) := by decide +kernel
theorem dX11_copy_9 : decode cX11_copy 9 = .ok (.iload_n 2, 1) := by decide +kernel
theorem dX11_copy_10 : decode cX11_copy 10 = .ok (.aload_n 0, 1) := by decide +kernel
theorem dX11_copy_11 : decode cX11_copy 11 = .ok (.iload_n 2, 1) := by decide +kernel
theorem dX11_copy_12 : decode cX11_copy 12 = .ok (.iaload, 1) := by decide +kernel
theorem dX11_copy_13 : decode cX11_copy 13 = .ok (.iastore, 1) := by decide +kernel
theorem dX11_copy_14 : decode cX11_copy 14 = .ok (.iinc 2 1, 3) := by decide +kernel
theorem dX11_copy_17 : decode cX11_copy 17 = .ok (.goto (-15), 3) := by decide +kernel
theorem dX11_copy_20 : decode cX11_copy 20 = .ok (.return_, 1) := by decide +kernel
theorem dX11_common_0 : decode cX11_common 0 = .ok (.lload_n 0, 1) := by decide +kernel
theorem dX11_common_1 : decode cX11_common 1 = .ok (.lstore 4, 2) := by decide +kernel
theorem dX11_common_3 : decode cX11_common 3 = .ok (.lload_n 2, 1) := by decide +kernel
theorem dX11_common_4 : decode cX11_common 4 = .ok (.lstore 6, 2) := by decide +kernel
theorem dX11_common_6 : decode cX11_common 6 = .ok (.lload 6, 2) := by decide +kernel
theorem dX11_common_8 : decode cX11_common 8 = .ok (.lconst 0, 1) := by decide +kernel
theorem dX11_common_9 : decode cX11_common 9 = .ok (.lcmp, 1) := by decide +kernel
theorem dX11_common_10 : decode cX11_common 10 = .ok (.ifCond .le 21, 3) := by decide +kernel
theorem dX11_common_13 : decode cX11_common 13 = .ok (.lload 4, 2) := by decide +kernel
theorem dX11_common_15 : decode cX11_common 15 = .ok (.lload 6, 2) := by decide +kernel
theorem dX11_common_17 : decode cX11_common 17 = .ok (.lrem, 1) := by decide +kernel
theorem dX11_common_18 : decode cX11_common 18 = .ok (.lstore 8, 2) := by decide +kernel
theorem dX11_common_20 : decode cX11_common 20 = .ok (.lload 6, 2) := by decide +kernel
theorem dX11_common_22 : decode cX11_common 22 = .ok (.lstore 4, 2) := by decide +kernel
theorem dX11_common_24 : decode cX11_common 24 = .ok (.lload 8, 2) := by decide +kernel
theorem dX11_common_26 : decode cX11_common 26 = .ok (.lstore 6, 2) := by decide +kernel
theorem dX11_common_28 : decode cX11_common 28 = .ok (.goto (-22), 3) := by decide +kernel
theorem dX11_common_31 : decode cX11_common 31 = .ok (.lload 4, 2) := by decide +kernel
theorem dX11_common_33 : decode cX11_common 33 = .ok (.lreturn, 1) := by decide +kernel
set_option maxRecDepth 20000 in
theorem ggX11_letter_X11_in : GoodIn wsX11_letter wsX11_in := goodIn_r _ [7] (by decide +kernel) (by decide +kernel)
set_option maxRecDepth 20000 in
theorem gX11_letter_X11_in : GoodIn wsX11_letter (va_wsS RX11 67 yX11_in wsX11_in) := goodIn_app (goodIn_of _ (by decide +kernel)) ggX11_letter_X11_in
theorem dX11_letter_0 : decode cX11_letter 0 = .ok (.iload_n 1, 1) := by decide +kernel
theorem dX11_letter_1 : decode cX11_letter 1 = .ok (.i2l, 1) := by decide +kernel
theorem dX11_letter_2 : decode cX11_letter 2 = .ok (.lconst 1, 1) := by decide +kernel
theorem dX11_letter_3 : decode cX11_letter 3 = .ok (.ldc2_w 65, 3) := by decide +kernel
theorem dX11_letter_6 : decode cX11_letter 6 = .ok (.invokestatic 67, 3) := by decide +kernel
theorem dX11_letter_9 : decode cX11_letter 9 = .ok (.ifCond .ne 6, 3) := by decide +kernel
theorem dX11_letter_12 : decode cX11_letter 12 = .ok (.bipush (-102), 2) := by decide +kernel
theorem dX11_letter_14 : decode cX11_letter 14 = .ok (.ireturn, 1) := by decide +kernel
theorem dX11_letter_15 : decode cX11_letter 15 = .ok (.aload_n 0, 1) := by decide +kernel
theorem dX11_letter_16 : decode cX11_letter 16 = .ok (.getfield 71, 3) := by decide +kernel
theorem dX11_letter_19 : decode cX11_letter 19 = .ok (.bipush 22, 2) := by decide +kernel
theorem dX11_letter_21 : decode cX11_letter 21 = .ok (.if_icmp .ne 6, 3) := by decide +kernel
theorem dX11_letter_24 : decode cX11_letter 24 = .ok (.bipush (-104), 2) := by decide +kernel
theorem dX11_letter_26 : decode cX11_letter 26 = .ok (.ireturn, 1) := by decide +kernel
theorem dX11_letter_27 : decode cX11_letter 27 = .ok (.aload_n 0, 1) := by decide +kernel
theorem dX11_letter_28 : decode cX11_letter 28 = .ok (.getfield 16, 3) := by decide +kernel
theorem dX11_letter_31 : decode cX11_letter 31 = .ok (.aload_n 0, 1) := by decide +kernel
theorem dX11_letter_32 : decode cX11_letter 32 = .ok (.getfield 71, 3) := by decide +kernel
theorem dX11_letter_35 : decode cX11_letter 35 = .ok (.iload_n 1, 1) := by decide +kernel
theorem dX11_letter_36 : decode cX11_letter 36 = .ok (.iastore, 1) := by decide +kernel
theorem dX11_letter_37 : decode cX11_letter 37 = .ok (.aload_n 0, 1) := by decide +kernel
theorem dX11_letter_38 : decode cX11_letter 38 = .ok (.dup, 1) := by decide +kernel
theorem dX11_letter_39 : decode cX11_letter 39 = .ok (.getfield 71, 3) := by decide +kernel
theorem dX11_letter_42 : decode cX11_letter 42 = .ok (.iconst 1, 1) := by decide +kernel
theorem dX11_letter_43 : decode cX11_letter 43 = .ok (.iadd, 1) := by decide +kernel
theorem dX11_letter_44 : decode cX11_letter 44 = .ok (.putfield 71, 3) := by decide +kernel
theorem dX11_letter_47 : decode cX11_letter 47 = .ok (.aload_n 0, 1) := by decide +kernel
theorem dX11_letter_48 : decode cX11_letter 48 = .ok (.getfield 71, 3) := by decide +kernel
theorem dX11_letter_51 : decode cX11_letter 51 = .ok (.ireturn, 1) := by decide +kernel
theorem dX11_blank_0 : decode cX11_blank 0 = .ok (.aload_n 0, 1) := by decide +kernel
theorem dX11_blank_1 : decode cX11_blank 1 = .ok (.getfield 71, 3) := by decide +kernel
theorem dX11_blank_4 : decode cX11_blank 4 = .ok (.istore_n 1, 1) := by decide +kernel
theorem dX11_blank_5 : decode cX11_blank 5 = .ok (.aload_n 0, 1) := by decide +kernel
theorem dX11_blank_6 : decode cX11_blank 6 = .ok (.iconst 0, 1) := by decide +kernel
theorem dX11_blank_7 : decode cX11_blank 7 = .ok (.putfield 71, 3) := by decide +kernel
theorem dX11_blank_10 : decode cX11_blank 10 = .ok (.iload_n 1, 1) := by decide +kernel
theorem dX11_blank_11 : decode cX11_blank 11 = .ok (.ireturn, 1) := by decide +kernel
theorem dX11_sortBy_0 : decode cX11_sortBy 0 = .ok (.iload_n 0, 1) := by decide +kernel
theorem dX11_sortBy_1 : decode cX11_sortBy 1 = .ok (.bipush 106, 2) := by decide +kernel
theorem dX11_sortBy_3 : decode cX11_sortBy 3 = .ok (.if_icmp .ne 7, 3) := by decide +kernel
theorem dX11_sortBy_6 : decode cX11_sortBy 6 = .ok (.iconst 0, 1) := by decide +kernel
theorem dX11_sortBy_7 : decode cX11_sortBy 7 = .ok (.goto 24, 3) := by decide +kernel
theorem dX11_sortBy_10 : decode cX11_sortBy 10 = .ok (.iload_n 0, 1) := by decide +kernel
theorem dX11_sortBy_11 : decode cX11_sortBy 11 = .ok (.bipush 98, 2) := by decide +kernel
theorem dX11_sortBy_13 : decode cX11_sortBy 13 = .ok (.if_icmp .ne 7, 3) := by decide +kernel
theorem dX11_sortBy_16 : decode cX11_sortBy 16 = .ok (.iconst 1, 1) := by decide +kernel
theorem dX11_sortBy_17 : decode cX11_sortBy 17 = .ok (.goto 14, 3) := by decide +kernel
theorem dX11_sortBy_20 : decode cX11_sortBy 20 = .ok (.iload_n 0, 1) := by decide +kernel
theorem dX11_sortBy_21 : decode cX11_sortBy 21 = .ok (.bipush 115, 2) := by decide +kernel
theorem dX11_sortBy_23 : decode cX11_sortBy 23 = .ok (.if_icmp .ne 7, 3) := by decide +kernel
theorem dX11_sortBy_26 : decode cX11_sortBy 26 = .ok (.iconst 2, 1) := by decide +kernel
theorem dX11_sortBy_27 : decode cX11_sortBy 27 = .ok (.goto 4, 3) := by decide +kernel
theorem dX11_sortBy_30 : decode cX11_sortBy 30 = .ok (.iconst (-1), 1) := by decide +kernel
theorem dX11_sortBy_31 : decode cX11_sortBy 31 = .ok (.ireturn, 1) := by decide +kernel
theorem dX11_kindBy_0 : decode cX11_kindBy 0 = .ok (.iload_n 0, 1) := by decide +kernel
theorem dX11_kindBy_1 : decode cX11_kindBy 1 = .ok (.bipush 100, 2) := by decide +kernel
theorem dX11_kindBy_3 : decode cX11_kindBy 3 = .ok (.if_icmp .ne 7, 3) := by decide +kernel
theorem dX11_kindBy_6 : decode cX11_kindBy 6 = .ok (.iconst 0, 1) := by decide +kernel
theorem dX11_kindBy_7 : decode cX11_kindBy 7 = .ok (.goto 44, 3) := by decide +kernel
theorem dX11_kindBy_10 : decode cX11_kindBy 10 = .ok (.iload_n 0, 1) := by decide +kernel
theorem dX11_kindBy_11 : decode cX11_kindBy 11 = .ok (.bipush 104, 2) := by decide +kernel
theorem dX11_kindBy_13 : decode cX11_kindBy 13 = .ok (.if_icmp .ne 7, 3) := by decide +kernel
theorem dX11_kindBy_16 : decode cX11_kindBy 16 = .ok (.iconst 1, 1) := by decide +kernel
theorem dX11_kindBy_17 : decode cX11_kindBy 17 = .ok (.goto 34, 3) := by decide +kernel
theorem dX11_kindBy_20 : decode cX11_kindBy 20 = .ok (.iload_n 0, 1) := by decide +kernel
theorem dX11_kindBy_21 : decode cX11_kindBy 21 = .ok (.bipush 116, 2) := by decide +kernel
theorem dX11_kindBy_23 : decode cX11_kindBy 23 = .ok (.if_icmp .ne 7, 3) := by decide +kernel
theorem dX11_kindBy_26 : decode cX11_kindBy 26 = .ok (.iconst 2, 1) := by decide +kernel
theorem dX11_kindBy_27 : decode cX11_kindBy 27 = .ok (.goto 24, 3) := by decide +kernel
theorem dX11_kindBy_30 : decode cX11_kindBy 30 = .ok (.iload_n 0, 1) := by decide +kernel
theorem dX11_kindBy_31 : decode cX11_kindBy 31 = .ok (.bipush 108, 2) := by decide +kernel
theorem dX11_kindBy_33 : decode cX11_kindBy 33 = .ok (.if_icmp .ne 7, 3) := by decide +kernel
theorem dX11_kindBy_36 : decode cX11_kindBy 36 = .ok (.iconst 3, 1) := by decide +kernel
theorem dX11_kindBy_37 : decode cX11_kindBy 37 = .ok (.goto 14, 3) := by decide +kernel
theorem dX11_kindBy_40 : decode cX11_kindBy 40 = .ok (.iload_n 0, 1) := by decide +kernel
theorem dX11_kindBy_41 : decode cX11_kindBy 41 = .ok (.bipush 98, 2) := by decide +kernel
theorem dX11_kindBy_43 : decode cX11_kindBy 43 = .ok (.if_icmp .ne 7, 3) := by decide +kernel
theorem dX11_kindBy_46 : decode cX11_kindBy 46 = .ok (.iconst 4, 1) := by decide +kernel
theorem dX11_kindBy_47 : decode cX11_kindBy 47 = .ok (.goto 4, 3) := by decide +kernel
theorem dX11_kindBy_50 : decode cX11_kindBy 50 = .ok (.iconst (-1), 1) := by decide +kernel
theorem dX11_kindBy_51 : decode cX11_kindBy 51 = .ok (.ireturn, 1) := by decide +kernel
set_option maxRecDepth 20000 in
theorem ggX11_go_X11_sortBy : GoodIn wsX11_go wsX11_sortBy := goodIn_r _ [11] (by decide +kernel) (by decide +kernel)
set_option maxRecDepth 20000 in
theorem gX11_go_X11_sortBy : GoodIn wsX11_go (va_wsS RX11 84 yX11_sortBy wsX11_sortBy) := goodIn_app (goodIn_of _ (by decide +kernel)) ggX11_go_X11_sortBy
set_option maxRecDepth 20000 in
theorem ggX11_go_X11_in : GoodIn wsX11_go wsX11_in := goodIn_r _ [14] (by decide +kernel) (by decide +kernel)
set_option maxRecDepth 20000 in
theorem gX11_go_X11_in : GoodIn wsX11_go (va_wsS RX11 67 yX11_in wsX11_in) := goodIn_app (goodIn_of _ (by decide +kernel)) ggX11_go_X11_in
set_option maxRecDepth 20000 in
theorem ggX11_go_X11_kindBy : GoodIn wsX11_go wsX11_kindBy := goodIn_r _ [17] (by decide +kernel) (by decide +kernel)
set_option maxRecDepth 20000 in
theorem gX11_go_X11_kindBy : GoodIn wsX11_go (va_wsS RX11 91 yX11_kindBy wsX11_kindBy) := goodIn_app (goodIn_of _ (by decide +kernel)) ggX11_go_X11_kindBy
theorem dX11_go_0 : decode cX11_go 0 = .ok (.aload_n 0, 1) := by decide +kernel
theorem dX11_go_1 : decode cX11_go 1 = .ok (.getfield 74, 3) := by decide +kernel
theorem dX11_go_4 : decode cX11_go 4 = .ok (.istore_n 2, 1) := by decide +kernel
theorem dX11_go_5 : decode cX11_go 5 = .ok (.aload_n 0, 1) := by decide +kernel
theorem dX11_go_6 : decode cX11_go 6 = .ok (.dup, 1) := by decide +kernel
theorem dX11_go_7 : decode cX11_go 7 = .ok (.getfield 74, 3) := by decide +kernel
theorem dX11_go_10 : decode cX11_go 10 = .ok (.iconst 1, 1) := by decide +kernel
theorem dX11_go_11 : decode cX11_go 11 = .ok (.iadd, 1) := by decide +kernel
theorem dX11_go_12 : decode cX11_go 12 = .ok (.putfield 74, 3) := by decide +kernel
theorem dX11_go_15 : decode cX11_go 15 = .ok (.iload_n 2, 1) := by decide +kernel
theorem dX11_go_16 : decode cX11_go 16 = .ok (.tableswitch 233 0 4 #[36, 110, 149, 207, 207], 36) := by decide +kernel
theorem dX11_go_52 : decode cX11_go 52 = .ok (.aload_n 0, 1) := by decide +kernel
theorem dX11_go_53 : decode cX11_go 53 = .ok (.getfield 77, 3) := by decide +kernel
theorem dX11_go_56 : decode cX11_go 56 = .ok (.ifCond .eq 13, 3) := by decide +kernel
theorem dX11_go_59 : decode cX11_go 59 = .ok (.iload_n 1, 1) := by decide +kernel
theorem dX11_go_60 : decode cX11_go 60 = .ok (.bipush 115, 2) := by decide +kernel
theorem dX11_go_62 : decode cX11_go 62 = .ok (.if_icmp .ne 7, 3) := by decide +kernel
theorem dX11_go_65 : decode cX11_go 65 = .ok (.iconst 1, 1) := by decide +kernel
theorem dX11_go_66 : decode cX11_go 66 = .ok (.goto 4, 3) := by decide +kernel
theorem dX11_go_69 : decode cX11_go 69 = .ok (.iconst 0, 1) := by decide +kernel
theorem dX11_go_70 : decode cX11_go 70 = .ok (.istore_n 3, 1) := by decide +kernel
theorem dX11_go_71 : decode cX11_go 71 = .ok (.aload_n 0, 1) := by decide +kernel
theorem dX11_go_72 : decode cX11_go 72 = .ok (.getfield 19, 3) := by decide +kernel
theorem dX11_go_75 : decode cX11_go 75 = .ok (.iconst 2, 1) := by decide +kernel
theorem dX11_go_76 : decode cX11_go 76 = .ok (.aload_n 0, 1) := by decide +kernel
theorem dX11_go_77 : decode cX11_go 77 = .ok (.getfield 81, 3) := by decide +kernel
theorem dX11_go_80 : decode cX11_go 80 = .ok (.imul, 1) := by decide +kernel
theorem dX11_go_81 : decode cX11_go 81 = .ok (.iload_n 1, 1) := by decide +kernel
theorem dX11_go_82 : decode cX11_go 82 = .ok (.invokestatic 84, 3) := by decide +kernel
theorem dX11_go_85 : decode cX11_go 85 = .ok (.iastore, 1) := by decide +kernel
theorem dX11_go_86 : decode cX11_go 86 = .ok (.aload_n 0, 1) := by decide +kernel
theorem dX11_go_87 : decode cX11_go 87 = .ok (.aload_n 0, 1) := by decide +kernel
theorem dX11_go_88 : decode cX11_go 88 = .ok (.getfield 77, 3) := by decide +kernel
theorem dX11_go_91 : decode cX11_go 91 = .ok (.ifCond .ne 9, 3) := by decide +kernel
theorem dX11_go_94 : decode cX11_go 94 = .ok (.iload_n 1, 1) := by decide +kernel
theorem dX11_go_95 : decode cX11_go 95 = .ok (.bipush 115, 2) := by decide +kernel
theorem dX11_go_97 : decode cX11_go 97 = .ok (.if_icmp .ne 7, 3) := by decide +kernel
theorem dX11_go_100 : decode cX11_go 100 = .ok (.iconst 1, 1) := by decide +kernel
theorem dX11_go_101 : decode cX11_go 101 = .ok (.goto 4, 3) := by decide +kernel
theorem dX11_go_104 : decode cX11_go 104 = .ok (.iconst 0, 1) := by decide +kernel
theorem dX11_go_105 : decode cX11_go 105 = .ok (.putfield 77, 3) := by decide +kernel
theorem dX11_go_108 : decode cX11_go 108 = .ok (.iload_n 1, 1) := by decide +kernel
theorem dX11_go_109 : decode cX11_go 109 = .ok (.invokestatic 84, 3) := by decide +kernel
theorem dX11_go_112 : decode cX11_go 112 = .ok (.iconst (-1), 1) := by decide +kernel
theorem dX11_go_113 : decode cX11_go 113 = .ok (.if_icmp .eq 11, 3) := by decide +kernel
theorem dX11_go_116 : decode cX11_go 116 = .ok (.iload_n 3, 1) := by decide +kernel
theorem dX11_go_117 : decode cX11_go 117 = .ok (.ifCond .ne 7, 3) := by decide +kernel
theorem dX11_go_120 : decode cX11_go 120 = .ok (.iconst 1, 1) := by decide +kernel
theorem dX11_go_121 : decode cX11_go 121 = .ok (.goto 4, 3) := by decide +kernel
theorem dX11_go_124 : decode cX11_go 124 = .ok (.iconst 0, 1) := by decide +kernel
theorem dX11_go_125 : decode cX11_go 125 = .ok (.ireturn, 1) := by decide +kernel
theorem dX11_go_126 : decode cX11_go 126 = .ok (.aload_n 0, 1) := by decide +kernel
theorem dX11_go_127 : decode cX11_go 127 = .ok (.getfield 19, 3) := by decide +kernel
theorem dX11_go_130 : decode cX11_go 130 = .ok (.iconst 2, 1) := by decide +kernel
theorem dX11_go_131 : decode cX11_go 131 = .ok (.aload_n 0, 1) := by decide +kernel
theorem dX11_go_132 : decode cX11_go 132 = .ok (.getfield 81, 3) := by decide +kernel
theorem dX11_go_135 : decode cX11_go 135 = .ok (.imul, 1) := by decide +kernel
theorem dX11_go_136 : decode cX11_go 136 = .ok (.iconst 1, 1) := by decide +kernel
theorem dX11_go_137 : decode cX11_go 137 = .ok (.iadd, 1) := by decide +kernel
theorem dX11_go_138 : decode cX11_go 138 = .ok (.iload_n 1, 1) := by decide +kernel
theorem dX11_go_139 : decode cX11_go 139 = .ok (.bipush 48, 2) := by decide +kernel
theorem dX11_go_141 : decode cX11_go 141 = .ok (.isub, 1) := by decide +kernel
theorem dX11_go_142 : decode cX11_go 142 = .ok (.iastore, 1) := by decide +kernel
theorem dX11_go_143 : decode cX11_go 143 = .ok (.aload_n 0, 1) := by decide +kernel
theorem dX11_go_144 : decode cX11_go 144 = .ok (.dup, 1) := by decide +kernel
theorem dX11_go_145 : decode cX11_go 145 = .ok (.getfield 81, 3) := by decide +kernel
theorem dX11_go_148 : decode cX11_go 148 = .ok (.iconst 1, 1) := by decide +kernel
theorem dX11_go_149 : decode cX11_go 149 = .ok (.iadd, 1) := by decide +kernel
theorem dX11_go_150 : decode cX11_go 150 = .ok (.putfield 81, 3) := by decide +kernel
theorem dX11_go_153 : decode cX11_go 153 = .ok (.iload_n 1, 1) := by decide +kernel
theorem dX11_go_154 : decode cX11_go 154 = .ok (.i2l, 1) := by decide +kernel
theorem dX11_go_155 : decode cX11_go 155 = .ok (.ldc2_w 87, 3) := by decide +kernel
theorem dX11_go_158 : decode cX11_go 158 = .ok (.ldc2_w 89, 3) := by decide +kernel
theorem dX11_go_161 : decode cX11_go 161 = .ok (.invokestatic 67, 3) := by decide +kernel
theorem dX11_go_164 : decode cX11_go 164 = .ok (.ireturn, 1) := by decide +kernel
theorem dX11_go_165 : decode cX11_go 165 = .ok (.aload_n 0, 1) := by decide +kernel
theorem dX11_go_166 : decode cX11_go 166 = .ok (.iload_n 1, 1) := by decide +kernel
theorem dX11_go_167 : decode cX11_go 167 = .ok (.bipush 44, 2) := by decide +kernel
theorem dX11_go_169 : decode cX11_go 169 = .ok (.if_icmp .ne 7, 3) := by decide +kernel
theorem dX11_go_172 : decode cX11_go 172 = .ok (.iconst 0, 1) := by decide +kernel
theorem dX11_go_173 : decode cX11_go 173 = .ok (.goto 4, 3) := by decide +kernel
theorem dX11_go_176 : decode cX11_go 176 = .ok (.iconst 3, 1) := by decide +kernel
theorem dX11_go_177 : decode cX11_go 177 = .ok (.putfield 74, 3) := by decide +kernel
theorem dX11_go_180 : decode cX11_go 180 = .ok (.iload_n 1, 1) := by decide +kernel
theorem dX11_go_181 : decode cX11_go 181 = .ok (.bipush 44, 2) := by decide +kernel
theorem dX11_go_183 : decode cX11_go 183 = .ok (.if_icmp .ne 20, 3) := by decide +kernel
theorem dX11_go_186 : decode cX11_go 186 = .ok (.aload_n 0, 1) := by decide +kernel
theorem dX11_go_187 : decode cX11_go 187 = .ok (.getfield 81, 3) := by decide +kernel
theorem dX11_go_190 : decode cX11_go 190 = .ok (.bipush 6, 2) := by decide +kernel
theorem dX11_go_192 : decode cX11_go 192 = .ok (.if_icmp .ge 7, 3) := by decide +kernel
theorem dX11_go_195 : decode cX11_go 195 = .ok (.iconst 1, 1) := by decide +kernel
theorem dX11_go_196 : decode cX11_go 196 = .ok (.goto 26, 3) := by decide +kernel
theorem dX11_go_199 : decode cX11_go 199 = .ok (.iconst 0, 1) := by decide +kernel
theorem dX11_go_200 : decode cX11_go 200 = .ok (.goto 22, 3) := by decide +kernel
theorem dX11_go_203 : decode cX11_go 203 = .ok (.iload_n 1, 1) := by decide +kernel
theorem dX11_go_204 : decode cX11_go 204 = .ok (.bipush 59, 2) := by decide +kernel
theorem dX11_go_206 : decode cX11_go 206 = .ok (.if_icmp .ne 15, 3) := by decide +kernel
theorem dX11_go_209 : decode cX11_go 209 = .ok (.aload_n 0, 1) := by decide +kernel
theorem dX11_go_210 : decode cX11_go 210 = .ok (.getfield 81, 3) := by decide +kernel
theorem dX11_go_213 : decode cX11_go 213 = .ok (.iconst 1, 1) := by decide +kernel
theorem dX11_go_214 : decode cX11_go 214 = .ok (.if_icmp .le 7, 3) := by decide +kernel
theorem dX11_go_217 : decode cX11_go 217 = .ok (.iconst 1, 1) := by decide +kernel
theorem dX11_go_218 : decode cX11_go 218 = .ok (.goto 4, 3) := by decide +kernel
theorem dX11_go_221 : decode cX11_go 221 = .ok (.iconst 0, 1) := by decide +kernel
theorem dX11_go_222 : decode cX11_go 222 = .ok (.ireturn, 1) := by decide +kernel
theorem dX11_go_223 : decode cX11_go 223 = .ok (.aload_n 0, 1) := by decide +kernel
theorem dX11_go_224 : decode cX11_go 224 = .ok (.getfield 22, 3) := by decide +kernel
theorem dX11_go_227 : decode cX11_go 227 = .ok (.iload_n 2, 1) := by decide +kernel
theorem dX11_go_228 : decode cX11_go 228 = .ok (.iconst 3, 1) := by decide +kernel
theorem dX11_go_229 : decode cX11_go 229 = .ok (.isub, 1) := by decide +kernel
theorem dX11_go_230 : decode cX11_go 230 = .ok (.iload_n 1, 1) := by decide +kernel
theorem dX11_go_231 : decode cX11_go 231 = .ok (.invokestatic 91, 3) := by decide +kernel
theorem dX11_go_234 : decode cX11_go 234 = .ok (.iastore, 1) := by decide +kernel
theorem dX11_go_235 : decode cX11_go 235 = .ok (.iload_n 1, 1) := by decide +kernel
theorem dX11_go_236 : decode cX11_go 236 = .ok (.invokestatic 91, 3) := by decide +kernel
theorem dX11_go_239 : decode cX11_go 239 = .ok (.iconst (-1), 1) := by decide +kernel
theorem dX11_go_240 : decode cX11_go 240 = .ok (.if_icmp .eq 7, 3) := by decide +kernel
theorem dX11_go_243 : decode cX11_go 243 = .ok (.iconst 1, 1) := by decide +kernel
theorem dX11_go_244 : decode cX11_go 244 = .ok (.goto 4, 3) := by decide +kernel
theorem dX11_go_247 : decode cX11_go 247 = .ok (.iconst 0, 1) := by decide +kernel
theorem dX11_go_248 : decode cX11_go 248 = .ok (.ireturn, 1) := by decide +kernel
theorem dX11_go_249 : decode cX11_go 249 = .ok (.iconst 0, 1) := by decide +kernel
theorem dX11_go_250 : decode cX11_go 250 = .ok (.ireturn, 1) := by decide +kernel
set_option maxRecDepth 20000 in
theorem ggX11_faultOf_X11_go : GoodIn wsX11_faultOf wsX11_go := goodIn_r _ [10, 3, 2, 11, 1, 12, 13, 14, 15, 16, 9, 17, 18, 19, 20, 21, 22, 23, 24, 25, 26, 27, 28, 29, 30, 31, 32, 33, 34, 35, 36, 37, 38, 39, 40, 41, 42, 43, 44, 45, 46, 47, 48, 49, 50, 51] (by decide +kernel) (by decide +kernel)
set_option maxRecDepth 20000 in
theorem gX11_faultOf_X11_go : GoodIn wsX11_faultOf (wsV RX11 94 RX11 yX11_go wsX11_go) := goodIn_app (goodIn_of _ (by decide +kernel)) ggX11_faultOf_X11_go
theorem dX11_faultOf_0 : decode cX11_faultOf 0 = .ok (.aload_n 0, 1) := by decide +kernel
theorem dX11_faultOf_1 : decode cX11_faultOf 1 = .ok (.iconst 0, 1) := by decide +kernel
theorem dX11_faultOf_2 : decode cX11_faultOf 2 = .ok (.putfield 81, 3) := by decide +kernel
theorem dX11_faultOf_5 : decode cX11_faultOf 5 = .ok (.aload_n 0, 1) := by decide +kernel
theorem dX11_faultOf_6 : decode cX11_faultOf 6 = .ok (.iconst 0, 1) := by decide +kernel
theorem dX11_faultOf_7 : decode cX11_faultOf 7 = .ok (.putfield 77, 3) := by decide +kernel
theorem dX11_faultOf_10 : decode cX11_faultOf 10 = .ok (.aload_n 0, 1) := by decide +kernel
theorem dX11_faultOf_11 : decode cX11_faultOf 11 = .ok (.iconst 0, 1) := by decide +kernel
theorem dX11_faultOf_12 : decode cX11_faultOf 12 = .ok (.putfield 74, 3) := by decide +kernel
theorem dX11_faultOf_15 : decode cX11_faultOf 15 = .ok (.iconst 0, 1) := by decide +kernel
theorem dX11_faultOf_16 : decode cX11_faultOf 16 = .ok (.istore_n 1, 1) := by decide +kernel
theorem dX11_faultOf_17 : decode cX11_faultOf 17 = .ok (.iload_n 1, 1) := by decide +kernel
theorem dX11_faultOf_18 : decode cX11_faultOf 18 = .ok (.aload_n 0, 1) := by decide +kernel
theorem dX11_faultOf_19 : decode cX11_faultOf 19 = .ok (.getfield 71, 3) := by decide +kernel
theorem dX11_faultOf_22 : decode cX11_faultOf 22 = .ok (.if_icmp .ge 22, 3) := by decide +kernel
theorem dX11_faultOf_25 : decode cX11_faultOf 25 = .ok (.aload_n 0, 1) := by decide +kernel
theorem dX11_faultOf_26 : decode cX11_faultOf 26 = .ok (.aload_n 0, 1) := by decide +kernel
theorem dX11_faultOf_27 : decode cX11_faultOf 27 = .ok (.getfield 16, 3) := by decide +kernel
theorem dX11_faultOf_30 : decode cX11_faultOf 30 = .ok (.iload_n 1, 1) := by decide +kernel
theorem dX11_faultOf_31 : decode cX11_faultOf 31 = .ok (.iaload, 1) := by decide +kernel
theorem dX11_faultOf_32 : decode cX11_faultOf 32 = .ok (.invokevirtual 94, 3) := by decide +kernel
theorem dX11_faultOf_35 : decode cX11_faultOf 35 = .ok (.ifCond .eq 9, 3) := by decide +kernel

theorem dX11_faultOf_38 : decode cX11_faultOf 38 = .ok (.iinc 1 1, 3) := by decide +kernel
theorem dX11_faultOf_41 : decode cX11_faultOf 41 = .ok (.goto (-24), 3) := by decide +kernel
theorem dX11_faultOf_44 : decode cX11_faultOf 44 = .ok (.iload_n 1, 1) := by decide +kernel
theorem dX11_faultOf_45 : decode cX11_faultOf 45 = .ok (.ireturn, 1) := by decide +kernel
set_option maxRecDepth 20000 in
theorem ggX11_fault_X11_faultOf : GoodIn wsX11_fault wsX11_faultOf := goodIn_r _ [5, 6, 7, 8, 9, 10, 11, 12, 13, 4, 14, 15, 16, 17, 18, 19, 20, 21, 22, 23, 24, 25, 26, 27, 28, 29, 30, 31, 32, 33, 34, 35, 36, 37, 38, 39, 40, 41, 42, 43, 44, 45, 46, 47, 48, 49, 50, 51, 52, 53, 54, 55] (by decide +kernel) (by decide +kernel)
set_option maxRecDepth 20000 in
theorem gX11_fault_X11_faultOf : GoodIn wsX11_fault (wsV RX11 98 RX11 yX11_faultOf wsX11_faultOf) := goodIn_app (goodIn_of _ (by decide +kernel)) ggX11_fault_X11_faultOf
theorem dX11_fault_0 : decode cX11_fault 0 = .ok (.aload_n 0, 1) := by decide +kernel
theorem dX11_fault_1 : decode cX11_fault 1 = .ok (.invokevirtual 98, 3) := by decide +kernel
theorem dX11_fault_4 : decode cX11_fault 4 = .ok (.ireturn, 1) := by decide +kernel
set_option maxRecDepth 20000 in
theorem ggX11_hall_X11_faultOf : GoodIn wsX11_hall wsX11_faultOf := goodIn_r _ [17, 3, 18, 2, 1, 19, 20, 21, 22, 16, 23, 8, 24, 25, 5, 26, 27, 28, 29, 30, 31, 32, 33, 34, 38, 39, 40, 41, 42, 43, 44, 45, 46, 47, 48, 49, 50, 51, 52, 53, 54, 55, 56, 57, 58, 59, 60, 61, 62, 63, 64, 65] (by decide +kernel) (by decide +kernel)
set_option maxRecDepth 20000 in
theorem gX11_hall_X11_faultOf : GoodIn wsX11_hall (wsV RX11 98 RX11 yX11_faultOf wsX11_faultOf) := goodIn_app (goodIn_of _ (by decide +kernel)) ggX11_hall_X11_faultOf
set_option maxRecDepth 20000 in
theorem ggX11_hall_X11_copy : GoodIn wsX11_hall wsX11_copy := goodIn_r _ [37] (by decide +kernel) (by decide +kernel)
set_option maxRecDepth 20000 in
theorem gX11_hall_X11_copy : GoodIn wsX11_hall (va_wsS RX11 105 yX11_copy wsX11_copy) := goodIn_app (goodIn_of _ (by decide +kernel)) ggX11_hall_X11_copy
theorem dX11_hall_0 : decode cX11_hall 0 = .ok (.aload_n 0, 1) := by decide +kernel
theorem dX11_hall_1 : decode cX11_hall 1 = .ok (.invokevirtual 98, 3) := by decide +kernel
theorem dX11_hall_4 : decode cX11_hall 4 = .ok (.aload_n 0, 1) := by decide +kernel
theorem dX11_hall_5 : decode cX11_hall 5 = .ok (.getfield 71, 3) := by decide +kernel
theorem dX11_hall_8 : decode cX11_hall 8 = .ok (.if_icmp .lt 11, 3) := by decide +kernel
theorem dX11_hall_11 : decode cX11_hall 11 = .ok (.aload_n 0, 1) := by decide +kernel
theorem dX11_hall_12 : decode cX11_hall 12 = .ok (.getfield 74, 3) := by decide +kernel
theorem dX11_hall_15 : decode cX11_hall 15 = .ok (.iconst 5, 1) := by decide +kernel
theorem dX11_hall_16 : decode cX11_hall 16 = .ok (.if_icmp .eq 6, 3) := by decide +kernel
theorem dX11_hall_19 : decode cX11_hall 19 = .ok (.bipush (-103), 2) := by decide +kernel
theorem dX11_hall_21 : decode cX11_hall 21 = .ok (.ireturn, 1) := by decide +kernel
theorem dX11_hall_22 : decode cX11_hall 22 = .ok (.aload_n 0, 1) := by decide +kernel
theorem dX11_hall_23 : decode cX11_hall 23 = .ok (.aload_n 0, 1) := by decide +kernel
theorem dX11_hall_24 : decode cX11_hall 24 = .ok (.getfield 81, 3) := by decide +kernel
theorem dX11_hall_27 : decode cX11_hall 27 = .ok (.putfield 102, 3) := by decide +kernel
theorem dX11_hall_30 : decode cX11_hall 30 = .ok (.aload_n 0, 1) := by decide +kernel
theorem dX11_hall_31 : decode cX11_hall 31 = .ok (.getfield 22, 3) := by decide +kernel
theorem dX11_hall_34 : decode cX11_hall 34 = .ok (.aload_n 0, 1) := by decide +kernel
theorem dX11_hall_35 : decode cX11_hall 35 = .ok (.getfield 28, 3) := by decide +kernel
theorem dX11_hall_38 : decode cX11_hall 38 = .ok (.invokestatic 105, 3) := by decide +kernel
theorem dX11_hall_41 : decode cX11_hall 41 = .ok (.iconst 0, 1) := by decide +kernel
theorem dX11_hall_42 : decode cX11_hall 42 = .ok (.istore_n 1, 1) := by decide +kernel
theorem dX11_hall_43 : decode cX11_hall 43 = .ok (.iload_n 1, 1) := by decide +kernel
theorem dX11_hall_44 : decode cX11_hall 44 = .ok (.aload_n 0, 1) := by decide +kernel
theorem dX11_hall_45 : decode cX11_hall 45 = .ok (.getfield 102, 3) := by decide +kernel
theorem dX11_hall_48 : decode cX11_hall 48 = .ok (.if_icmp .ge 95, 3) := by decide +kernel
theorem dX11_hall_51 : decode cX11_hall 51 = .ok (.aload_n 0, 1) := by decide +kernel
theorem dX11_hall_52 : decode cX11_hall 52 = .ok (.getfield 25, 3) := by decide +kernel
theorem dX11_hall_55 : decode cX11_hall 55 = .ok (.bipush 6, 2) := by decide +kernel
theorem dX11_hall_57 : decode cX11_hall 57 = .ok (.iload_n 1, 1) := by decide +kernel
theorem dX11_hall_58 : decode cX11_hall 58 = .ok (.imul, 1) := by decide +kernel
theorem dX11_hall_59 : decode cX11_hall 59 = .ok (.aload_n 0, 1) := by decide +kernel
theorem dX11_hall_60 : decode cX11_hall 60 = .ok (.getfield 19, 3) := by decide +kernel
theorem dX11_hall_63 : decode cX11_hall 63 = .ok (.iconst 2, 1) := by decide +kernel
theorem dX11_hall_64 : decode cX11_hall 64 = .ok (.iload_n 1, 1) := by decide +kernel
theorem dX11_hall_65 : decode cX11_hall 65 = .ok (.imul, 1) := by decide +kernel
theorem dX11_hall_66 : decode cX11_hall 66 = .ok (.iaload, 1) := by decide +kernel
theorem dX11_hall_67 : decode cX11_hall 67 = .ok (.iastore, 1) := by decide +kernel
theorem dX11_hall_68 : decode cX11_hall 68 = .ok (.aload_n 0, 1) := by decide +kernel
theorem dX11_hall_69 : decode cX11_hall 69 = .ok (.getfield 25, 3) := by decide +kernel
theorem dX11_hall_72 : decode cX11_hall 72 = .ok (.bipush 6, 2) := by decide +kernel
theorem dX11_hall_74 : decode cX11_hall 74 = .ok (.iload_n 1, 1) := by decide +kernel
theorem dX11_hall_75 : decode cX11_hall 75 = .ok (.imul, 1) := by decide +kernel
theorem dX11_hall_76 : decode cX11_hall 76 = .ok (.iconst 1, 1) := by decide +kernel
theorem dX11_hall_77 : decode cX11_hall 77 = .ok (.iadd, 1) := by decide +kernel
theorem dX11_hall_78 : decode cX11_hall 78 = .ok (.aload_n 0, 1) := by decide +kernel
theorem dX11_hall_79 : decode cX11_hall 79 = .ok (.getfield 19, 3) := by decide +kernel
theorem dX11_hall_82 : decode cX11_hall 82 = .ok (.iconst 2, 1) := by decide +kernel
theorem dX11_hall_83 : decode cX11_hall 83 = .ok (.iload_n 1, 1) := by decide +kernel
theorem dX11_hall_84 : decode cX11_hall 84 = .ok (.imul, 1) := by decide +kernel
theorem dX11_hall_85 : decode cX11_hall 85 = .ok (.iconst 1, 1) := by decide +kernel
theorem dX11_hall_86 : decode cX11_hall 86 = .ok (.iadd, 1) := by decide +kernel
theorem dX11_hall_87 : decode cX11_hall 87 = .ok (.iaload, 1) := by decide +kernel
theorem dX11_hall_88 : decode cX11_hall 88 = .ok (.iastore, 1) := by decide +kernel
theorem dX11_hall_89 : decode cX11_hall 89 = .ok (.aload_n 0, 1) := by decide +kernel
theorem dX11_hall_90 : decode cX11_hall 90 = .ok (.getfield 25, 3) := by decide +kernel
theorem dX11_hall_93 : decode cX11_hall 93 = .ok (.bipush 6, 2) := by decide +kernel
theorem dX11_hall_95 : decode cX11_hall 95 = .ok (.iload_n 1, 1) := by decide +kernel
theorem dX11_hall_96 : decode cX11_hall 96 = .ok (.imul, 1) := by decide +kernel
theorem dX11_hall_97 : decode cX11_hall 97 = .ok (.iconst 2, 1) := by decide +kernel
theorem dX11_hall_98 : decode cX11_hall 98 = .ok (.iadd, 1) := by decide +kernel
theorem dX11_hall_99 : decode cX11_hall 99 = .ok (.iconst 0, 1) := by decide +kernel
theorem dX11_hall_100 : decode cX11_hall 100 = .ok (.iastore, 1) := by decide +kernel
theorem dX11_hall_101 : decode cX11_hall 101 = .ok (.aload_n 0, 1) := by decide +kernel
theorem dX11_hall_102 : decode cX11_hall 102 = .ok (.getfield 25, 3) := by decide +kernel
theorem dX11_hall_105 : decode cX11_hall 105 = .ok (.bipush 6, 2) := by decide +kernel
theorem dX11_hall_107 : decode cX11_hall 107 = .ok (.iload_n 1, 1) := by decide +kernel
theorem dX11_hall_108 : decode cX11_hall 108 = .ok (.imul, 1) := by decide +kernel
theorem dX11_hall_109 : decode cX11_hall 109 = .ok (.iconst 3, 1) := by decide +kernel
theorem dX11_hall_110 : decode cX11_hall 110 = .ok (.iadd, 1) := by decide +kernel
theorem dX11_hall_111 : decode cX11_hall 111 = .ok (.iconst (-1), 1) := by decide +kernel
theorem dX11_hall_112 : decode cX11_hall 112 = .ok (.iastore, 1) := by decide +kernel
theorem dX11_hall_113 : decode cX11_hall 113 = .ok (.aload_n 0, 1) := by decide +kernel
theorem dX11_hall_114 : decode cX11_hall 114 = .ok (.getfield 25, 3) := by decide +kernel
theorem dX11_hall_117 : decode cX11_hall 117 = .ok (.bipush 6, 2) := by decide +kernel
theorem dX11_hall_119 : decode cX11_hall 119 = .ok (.iload_n 1, 1) := by decide +kernel
theorem dX11_hall_120 : decode cX11_hall 120 = .ok (.imul, 1) := by decide +kernel
theorem dX11_hall_121 : decode cX11_hall 121 = .ok (.iconst 4, 1) := by decide +kernel
theorem dX11_hall_122 : decode cX11_hall 122 = .ok (.iadd, 1) := by decide +kernel
theorem dX11_hall_123 : decode cX11_hall 123 = .ok (.iconst (-1), 1) := by decide +kernel
theorem dX11_hall_124 : decode cX11_hall 124 = .ok (.iastore, 1) := by decide +kernel
theorem dX11_hall_125 : decode cX11_hall 125 = .ok (.aload_n 0, 1) := by decide +kernel
theorem dX11_hall_126 : decode cX11_hall 126 = .ok (.getfield 25, 3) := by decide +kernel
theorem dX11_hall_129 : decode cX11_hall 129 = .ok (.bipush 6, 2) := by decide +kernel
theorem dX11_hall_131 : decode cX11_hall 131 = .ok (.iload_n 1, 1) := by decide +kernel
theorem dX11_hall_132 : decode cX11_hall 132 = .ok (.imul, 1) := by decide +kernel
theorem dX11_hall_133 : decode cX11_hall 133 = .ok (.iconst 5, 1) := by decide +kernel
theorem dX11_hall_134 : decode cX11_hall 134 = .ok (.iadd, 1) := by decide +kernel
theorem dX11_hall_135 : decode cX11_hall 135 = .ok (.iconst 0, 1) := by decide +kernel
theorem dX11_hall_136 : decode cX11_hall 136 = .ok (.iastore, 1) := by decide +kernel
theorem dX11_hall_137 : decode cX11_hall 137 = .ok (.iinc 1 1, 3) := by decide +kernel
theorem dX11_hall_140 : decode cX11_hall 140 = .ok (.goto (-97), 3) := by decide +kernel
theorem dX11_hall_143 : decode cX11_hall 143 = .ok (.aload_n 0, 1) := by decide +kernel
theorem dX11_hall_144 : decode cX11_hall 144 = .ok (.iconst 0, 1) := by decide +kernel
theorem dX11_hall_145 : decode cX11_hall 145 = .ok (.putfield 109, 3) := by decide +kernel
theorem dX11_hall_148 : decode cX11_hall 148 = .ok (.aload_n 0, 1) := by decide +kernel
theorem dX11_hall_149 : decode cX11_hall 149 = .ok (.iconst 0, 1) := by decide +kernel
theorem dX11_hall_150 : decode cX11_hall 150 = .ok (.putfield 112, 3) := by decide +kernel
theorem dX11_hall_153 : decode cX11_hall 153 = .ok (.aload_n 0, 1) := by decide +kernel
theorem dX11_hall_154 : decode cX11_hall 154 = .ok (.iconst 0, 1) := by decide +kernel
theorem dX11_hall_155 : decode cX11_hall 155 = .ok (.putfield 115, 3) := by decide +kernel
theorem dX11_hall_158 : decode cX11_hall 158 = .ok (.aload_n 0, 1) := by decide +kernel
theorem dX11_hall_159 : decode cX11_hall 159 = .ok (.dup, 1) := by decide +kernel
theorem dX11_hall_160 : decode cX11_hall 160 = .ok (.getfield 118, 3) := by decide +kernel
theorem dX11_hall_163 : decode cX11_hall 163 = .ok (.iconst 1, 1) := by decide +kernel
theorem dX11_hall_164 : decode cX11_hall 164 = .ok (.iadd, 1) := by decide +kernel
theorem dX11_hall_165 : decode cX11_hall 165 = .ok (.putfield 118, 3) := by decide +kernel
theorem dX11_hall_168 : decode cX11_hall 168 = .ok (.aload_n 0, 1) := by decide +kernel
theorem dX11_hall_169 : decode cX11_hall 169 = .ok (.iconst 0, 1) := by decide +kernel
theorem dX11_hall_170 : decode cX11_hall 170 = .ok (.putfield 71, 3) := by decide +kernel
theorem dX11_hall_173 : decode cX11_hall 173 = .ok (.aload_n 0, 1) := by decide +kernel
theorem dX11_hall_174 : decode cX11_hall 174 = .ok (.getfield 102, 3) := by decide +kernel
theorem dX11_hall_177 : decode cX11_hall 177 = .ok (.ireturn, 1) := by decide +kernel
theorem dX11_lacks_0 : decode cX11_lacks 0 = .ok (.aload_n 0, 1) := by decide +kernel
theorem dX11_lacks_1 : decode cX11_lacks 1 = .ok (.getfield 102, 3) := by decide +kernel
theorem dX11_lacks_4 : decode cX11_lacks 4 = .ok (.ifCond .ne 7, 3) := by decide +kernel
theorem dX11_lacks_7 : decode cX11_lacks 7 = .ok (.iconst 1, 1) := by decide +kernel
theorem dX11_lacks_8 : decode cX11_lacks 8 = .ok (.goto 4, 3) := by decide +kernel
theorem dX11_lacks_11 : decode cX11_lacks 11 = .ok (.iconst 0, 1) := by decide +kernel
theorem dX11_lacks_12 : decode cX11_lacks 12 = .ok (.ireturn, 1) := by decide +kernel
set_option maxRecDepth 20000 in
theorem ggX11_isThing_X11_in : GoodIn wsX11_isThing wsX11_in := goodIn_r _ [5] (by decide +kernel) (by decide +kernel)
set_option maxRecDepth 20000 in
theorem gX11_isThing_X11_in : GoodIn wsX11_isThing (va_wsS RX11 67 yX11_in wsX11_in) := goodIn_app (goodIn_of _ (by decide +kernel)) ggX11_isThing_X11_in
theorem dX11_isThing_0 : decode cX11_isThing 0 = .ok (.iload_n 1, 1) := by decide +kernel
theorem dX11_isThing_1 : decode cX11_isThing 1 = .ok (.i2l, 1) := by decide +kernel
theorem dX11_isThing_2 : decode cX11_isThing 2 = .ok (.lconst 0, 1) := by decide +kernel
theorem dX11_isThing_3 : decode cX11_isThing 3 = .ok (.aload_n 0, 1) := by decide +kernel
theorem dX11_isThing_4 : decode cX11_isThing 4 = .ok (.getfield 102, 3) := by decide +kernel
theorem dX11_isThing_7 : decode cX11_isThing 7 = .ok (.iconst 1, 1) := by decide +kernel
theorem dX11_isThing_8 : decode cX11_isThing 8 = .ok (.isub, 1) := by decide +kernel
theorem dX11_isThing_9 : decode cX11_isThing 9 = .ok (.i2l, 1) := by decide +kernel
theorem dX11_isThing_10 : decode cX11_isThing 10 = .ok (.invokestatic 67, 3) := by decide +kernel
theorem dX11_isThing_13 : decode cX11_isThing 13 = .ok (.ireturn, 1) := by decide +kernel
set_option maxRecDepth 20000 in
theorem ggX11_isOne_X11_lacks : GoodIn wsX11_isOne wsX11_lacks := goodIn_r _ [5, 6, 10, 11, 12, 13, 14, 15, 16, 17, 18, 19, 20, 21, 22, 23, 24, 25, 26, 27, 28, 29, 30, 31, 32, 33, 34, 35, 36, 37] (by decide +kernel) (by decide +kernel)
set_option maxRecDepth 20000 in
theorem gX11_isOne_X11_lacks : GoodIn wsX11_isOne (wsV RX11 121 RX11 yX11_lacks wsX11_lacks) := goodIn_app (goodIn_of _ (by decide +kernel)) ggX11_isOne_X11_lacks
set_option maxRecDepth 20000 in
theorem ggX11_isOne_X11_in : GoodIn wsX11_isOne wsX11_in := goodIn_r _ [9] (by decide +kernel) (by decide +kernel)
set_option maxRecDepth 20000 in
theorem gX11_isOne_X11_in : GoodIn wsX11_isOne (va_wsS RX11 67 yX11_in wsX11_in) := goodIn_app (goodIn_of _ (by decide +kernel)) ggX11_isOne_X11_in
theorem dX11_isOne_0 : decode cX11_isOne 0 = .ok (.aload_n 0, 1) := by decide +kernel
theorem dX11_isOne_1 : decode cX11_isOne 1 = .ok (.invokevirtual 121, 3) := by decide +kernel
theorem dX11_isOne_4 : decode cX11_isOne 4 = .ok (.ifCond .ne 17, 3) := by decide +kernel
theorem dX11_isOne_7 : decode cX11_isOne 7 = .ok (.iload_n 1, 1) := by decide +kernel
theorem dX11_isOne_8 : decode cX11_isOne 8 = .ok (.i2l, 1) := by decide +kernel
theorem dX11_isOne_9 : decode cX11_isOne 9 = .ok (.lconst 0, 1) := by decide +kernel
theorem dX11_isOne_10 : decode cX11_isOne 10 = .ok (.lconst 1, 1) := by decide +kernel
theorem dX11_isOne_11 : decode cX11_isOne 11 = .ok (.invokestatic 67, 3) := by decide +kernel
theorem dX11_isOne_14 : decode cX11_isOne 14 = .ok (.ifCond .eq 7, 3) := by decide +kernel
theorem dX11_isOne_17 : decode cX11_isOne 17 = .ok (.iconst 1, 1) := by decide +kernel
theorem dX11_isOne_18 : decode cX11_isOne 18 = .ok (.goto 4, 3) := by decide +kernel
theorem dX11_isOne_21 : decode cX11_isOne 21 = .ok (.iconst 0, 1) := by decide +kernel
theorem dX11_isOne_22 : decode cX11_isOne 22 = .ok (.ireturn, 1) := by decide +kernel
theorem dX11_isKings_0 : decode cX11_isKings 0 = .ok (.aload_n 0, 1) := by decide +kernel
theorem dX11_isKings_1 : decode cX11_isKings 1 = .ok (.getfield 25, 3) := by decide +kernel
theorem dX11_isKings_4 : decode cX11_isKings 4 = .ok (.bipush 6, 2) := by decide +kernel
theorem dX11_isKings_6 : decode cX11_isKings 6 = .ok (.iload_n 1, 1) := by decide +kernel
theorem dX11_isKings_7 : decode cX11_isKings 7 = .ok (.imul, 1) := by decide +kernel
theorem dX11_isKings_8 : decode cX11_isKings 8 = .ok (.iconst 2, 1) := by decide +kernel
theorem dX11_isKings_9 : decode cX11_isKings 9 = .ok (.iadd, 1) := by decide +kernel
theorem dX11_isKings_10 : decode cX11_isKings 10 = .ok (.iaload, 1) := by decide +kernel
theorem dX11_isKings_11 : decode cX11_isKings 11 = .ok (.ifCond .ne 7, 3) := by decide +kernel
theorem dX11_isKings_14 : decode cX11_isKings 14 = .ok (.iconst 1, 1) := by decide +kernel
theorem dX11_isKings_15 : decode cX11_isKings 15 = .ok (.goto 4, 3) := by decide +kernel
theorem dX11_isKings_18 : decode cX11_isKings 18 = .ok (.iconst 0, 1) := by decide +kernel
theorem dX11_isKings_19 : decode cX11_isKings 19 = .ok (.ireturn, 1) := by decide +kernel
set_option maxRecDepth 20000 in
theorem ggX11_thing_X11_isThing : GoodIn wsX11_thing wsX11_isThing := goodIn_r _ [7, 8, 9, 10, 6, 11, 12, 13, 14, 15, 16, 17, 18, 19, 20, 21, 22, 23, 24, 25, 26, 27, 28, 29, 30, 31, 32, 33, 34, 35, 36, 37, 38, 39] (by decide +kernel) (by decide +kernel)
set_option maxRecDepth 20000 in
theorem gX11_thing_X11_isThing : GoodIn wsX11_thing (wsV RX11 125 RX11 yX11_isThing wsX11_isThing) := goodIn_app (goodIn_of _ (by decide +kernel)) ggX11_thing_X11_isThing
set_option maxRecDepth 20000 in
theorem ggX11_thing_X11_in : GoodIn wsX11_thing wsX11_in := goodIn_r _ [11] (by decide +kernel) (by decide +kernel)
set_option maxRecDepth 20000 in
theorem gX11_thing_X11_in : GoodIn wsX11_thing (va_wsS RX11 67 yX11_in wsX11_in) := goodIn_app (goodIn_of _ (by decide +kernel)) ggX11_thing_X11_in
theorem dX11_thing_0 : decode cX11_thing 0 = .ok (.aload_n 0, 1) := by decide +kernel
theorem dX11_thing_1 : decode cX11_thing 1 = .ok (.iload_n 1, 1) := by decide +kernel
theorem dX11_thing_2 : decode cX11_thing 2 = .ok (.invokevirtual 125, 3) := by decide +kernel
theorem dX11_thing_5 : decode cX11_thing 5 = .ok (.ifCond .ne 6, 3) := by decide +kernel
theorem dX11_thing_8 : decode cX11_thing 8 = .ok (.bipush (-101), 2) := by decide +kernel
theorem dX11_thing_10 : decode cX11_thing 10 = .ok (.ireturn, 1) := by decide +kernel
theorem dX11_thing_11 : decode cX11_thing 11 = .ok (.iload_n 2, 1) := by decide +kernel
theorem dX11_thing_12 : decode cX11_thing 12 = .ok (.i2l, 1) := by decide +kernel
theorem dX11_thing_13 : decode cX11_thing 13 = .ok (.lconst 0, 1) := by decide +kernel
theorem dX11_thing_14 : decode cX11_thing 14 = .ok (.ldc2_w 128, 3) := by decide +kernel
theorem dX11_thing_17 : decode cX11_thing 17 = .ok (.invokestatic 67, 3) := by decide +kernel
theorem dX11_thing_20 : decode cX11_thing 20 = .ok (.ifCond .eq 17, 3) := by decide +kernel
theorem dX11_thing_23 : decode cX11_thing 23 = .ok (.aload_n 0, 1) := by decide +kernel
theorem dX11_thing_24 : decode cX11_thing 24 = .ok (.getfield 25, 3) := by decide +kernel
theorem dX11_thing_27 : decode cX11_thing 27 = .ok (.bipush 6, 2) := by decide +kernel
theorem dX11_thing_29 : decode cX11_thing 29 = .ok (.iload_n 1, 1) := by decide +kernel
theorem dX11_thing_30 : decode cX11_thing 30 = .ok (.imul, 1) := by decide +kernel
theorem dX11_thing_31 : decode cX11_thing 31 = .ok (.iload_n 2, 1) := by decide +kernel
theorem dX11_thing_32 : decode cX11_thing 32 = .ok (.iadd, 1) := by decide +kernel
theorem dX11_thing_33 : decode cX11_thing 33 = .ok (.iaload, 1) := by decide +kernel
theorem dX11_thing_34 : decode cX11_thing 34 = .ok (.goto 5, 3) := by decide +kernel
theorem dX11_thing_37 : decode cX11_thing 37 = .ok (.bipush (-102), 2) := by decide +kernel
theorem dX11_thing_39 : decode cX11_thing 39 = .ok (.ireturn, 1) := by decide +kernel
set_option maxRecDepth 20000 in
theorem ggX11_tellDice_X11_leastOf : GoodIn wsX11_tellDice wsX11_leastOf := goodIn_r _ [5] (by decide +kernel) (by decide +kernel)
set_option maxRecDepth 20000 in
theorem gX11_tellDice_X11_leastOf : GoodIn wsX11_tellDice (va_wsS RX11 54 yX11_leastOf wsX11_leastOf) := goodIn_app (goodIn_of _ (by decide +kernel)) ggX11_tellDice_X11_leastOf
set_option maxRecDepth 20000 in
theorem ggX11_tellDice_X11_mostOf : GoodIn wsX11_tellDice wsX11_mostOf := goodIn_r _ [8] (by decide +kernel) (by decide +kernel)
set_option maxRecDepth 20000 in
theorem gX11_tellDice_X11_mostOf : GoodIn wsX11_tellDice (va_wsS RX11 58 yX11_mostOf wsX11_mostOf) := goodIn_app (goodIn_of _ (by decide +kernel)) ggX11_tellDice_X11_mostOf
set_option maxRecDepth 20000 in
theorem ggX11_tellDice_X11_allWays : GoodIn wsX11_tellDice wsX11_allWays := goodIn_r _ [12, 13, 14, 15, 4, 16, 17, 18, 19, 20, 21, 22, 23, 24, 25, 26, 27, 28, 29, 30, 31, 32, 33, 34, 35, 36, 37, 38, 39, 40, 41, 42, 43, 44, 45, 46] (by decide +kernel) (by decide +kernel)
set_option maxRecDepth 20000 in
theorem gX11_tellDice_X11_allWays : GoodIn wsX11_tellDice (wsV RX11 130 RX11 yX11_allWays wsX11_allWays) := goodIn_app (goodIn_of _ (by decide +kernel)) ggX11_tellDice_X11_allWays
theorem dX11_tellDice_0 : decode cX11_tellDice 0 = .ok (.aload_n 0, 1) := by decide +kernel
theorem dX11_tellDice_1 : decode cX11_tellDice 1 = .ok (.getfield 28, 3) := by decide +kernel
theorem dX11_tellDice_4 : decode cX11_tellDice 4 = .ok (.iload_n 1, 1) := by decide +kernel
theorem dX11_tellDice_5 : decode cX11_tellDice 5 = .ok (.iaload, 1) := by decide +kernel
theorem dX11_tellDice_6 : decode cX11_tellDice 6 = .ok (.istore_n 3, 1) := by decide +kernel
theorem dX11_tellDice_7 : decode cX11_tellDice 7 = .ok (.iload_n 2, 1) := by decide +kernel
theorem dX11_tellDice_8 : decode cX11_tellDice 8 = .ok (.ifCond .ne 7, 3) := by decide +kernel
theorem dX11_tellDice_11 : decode cX11_tellDice 11 = .ok (.iload_n 3, 1) := by decide +kernel
theorem dX11_tellDice_12 : decode cX11_tellDice 12 = .ok (.goto 46, 3) := by decide +kernel
theorem dX11_tellDice_15 : decode cX11_tellDice 15 = .ok (.iload_n 2, 1) := by decide +kernel
theorem dX11_tellDice_16 : decode cX11_tellDice 16 = .ok (.iconst 1, 1) := by decide +kernel
theorem dX11_tellDice_17 : decode cX11_tellDice 17 = .ok (.if_icmp .ne 12, 3) := by decide +kernel
theorem dX11_tellDice_20 : decode cX11_tellDice 20 = .ok (.iconst 2, 1) := by decide +kernel
theorem dX11_tellDice_21 : decode cX11_tellDice 21 = .ok (.iload_n 3, 1) := by decide +kernel
theorem dX11_tellDice_22 : decode cX11_tellDice 22 = .ok (.invokestatic 54, 3) := by decide +kernel
theorem dX11_tellDice_25 : decode cX11_tellDice 25 = .ok (.imul, 1) := by decide +kernel
theorem dX11_tellDice_26 : decode cX11_tellDice 26 = .ok (.goto 32, 3) := by decide +kernel
theorem dX11_tellDice_29 : decode cX11_tellDice 29 = .ok (.iload_n 2, 1) := by decide +kernel
theorem dX11_tellDice_30 : decode cX11_tellDice 30 = .ok (.iconst 2, 1) := by decide +kernel
theorem dX11_tellDice_31 : decode cX11_tellDice 31 = .ok (.if_icmp .ne 12, 3) := by decide +kernel
theorem dX11_tellDice_34 : decode cX11_tellDice 34 = .ok (.iconst 2, 1) := by decide +kernel
theorem dX11_tellDice_35 : decode cX11_tellDice 35 = .ok (.iload_n 3, 1) := by decide +kernel
theorem dX11_tellDice_36 : decode cX11_tellDice 36 = .ok (.invokestatic 58, 3) := by decide +kernel
theorem dX11_tellDice_39 : decode cX11_tellDice 39 = .ok (.imul, 1) := by decide +kernel
theorem dX11_tellDice_40 : decode cX11_tellDice 40 = .ok (.goto 18, 3) := by decide +kernel
theorem dX11_tellDice_43 : decode cX11_tellDice 43 = .ok (.iload_n 2, 1) := by decide +kernel
theorem dX11_tellDice_44 : decode cX11_tellDice 44 = .ok (.iconst 3, 1) := by decide +kernel
theorem dX11_tellDice_45 : decode cX11_tellDice 45 = .ok (.if_icmp .ne 11, 3) := by decide +kernel
theorem dX11_tellDice_48 : decode cX11_tellDice 48 = .ok (.aload_n 0, 1) := by decide +kernel
theorem dX11_tellDice_49 : decode cX11_tellDice 49 = .ok (.iload_n 3, 1) := by decide +kernel
theorem dX11_tellDice_50 : decode cX11_tellDice 50 = .ok (.invokevirtual 130, 3) := by decide +kernel
theorem dX11_tellDice_53 : decode cX11_tellDice 53 = .ok (.goto 5, 3) := by decide +kernel
theorem dX11_tellDice_56 : decode cX11_tellDice 56 = .ok (.bipush (-102), 2) := by decide +kernel
theorem dX11_tellDice_58 : decode cX11_tellDice 58 = .ok (.ireturn, 1) := by decide +kernel
set_option maxRecDepth 20000 in
theorem ggX11_dice_X11_isOne : GoodIn wsX11_dice wsX11_isOne := goodIn_r _ [5, 6, 7, 8, 4, 9, 10, 11, 12, 13, 35, 36, 37, 38, 39, 40, 41, 42, 43, 44, 45, 46, 47, 48, 49, 50, 51, 52, 53, 54, 55, 56, 57, 58, 59, 60, 61, 62] (by decide +kernel) (by decide +kernel)
set_option maxRecDepth 20000 in
theorem gX11_dice_X11_isOne : GoodIn wsX11_dice (wsV RX11 133 RX11 yX11_isOne wsX11_isOne) := goodIn_app (goodIn_of _ (by decide +kernel)) ggX11_dice_X11_isOne
set_option maxRecDepth 20000 in
theorem ggX11_dice_X11_tellDice : GoodIn wsX11_dice wsX11_tellDice := goodIn_r _ [17, 18, 19, 20, 4, 21, 22, 23, 24, 25, 26, 27, 28, 29, 30, 31, 32, 33, 34, 35, 36, 37, 38, 39, 40, 41, 42, 43, 44, 45, 46, 47, 48, 49, 50, 51, 52, 53, 54, 55, 56, 57, 58, 59, 60, 61, 62] (by decide +kernel) (by decide +kernel)
set_option maxRecDepth 20000 in
theorem gX11_dice_X11_tellDice : GoodIn wsX11_dice (wsV RX11 136 RX11 yX11_tellDice wsX11_tellDice) := goodIn_app (goodIn_of _ (by decide +kernel)) ggX11_dice_X11_tellDice
theorem dX11_dice_0 : decode cX11_dice 0 = .ok (.aload_n 0, 1) := by decide +kernel
theorem dX11_dice_1 : decode cX11_dice 1 = .ok (.iload_n 1, 1) := by decide +kernel
theorem dX11_dice_2 : decode cX11_dice 2 = .ok (.invokevirtual 133, 3) := by decide +kernel
theorem dX11_dice_5 : decode cX11_dice 5 = .ok (.ifCond .eq 12, 3) := by decide +kernel
theorem dX11_dice_8 : decode cX11_dice 8 = .ok (.aload_n 0, 1) := by decide +kernel
theorem dX11_dice_9 : decode cX11_dice 9 = .ok (.iload_n 1, 1) := by decide +kernel
theorem dX11_dice_10 : decode cX11_dice 10 = .ok (.iload_n 2, 1) := by decide +kernel
theorem dX11_dice_11 : decode cX11_dice 11 = .ok (.invokevirtual 136, 3) := by decide +kernel
theorem dX11_dice_14 : decode cX11_dice 14 = .ok (.goto 5, 3) := by decide +kernel
theorem dX11_dice_17 : decode cX11_dice 17 = .ok (.bipush (-101), 2) := by decide +kernel
theorem dX11_dice_19 : decode cX11_dice 19 = .ok (.ireturn, 1) := by decide +kernel
set_option maxRecDepth 20000 in
theorem ggX11_as_X11_isOne : GoodIn wsX11_as wsX11_isOne := goodIn_r _ [7, 8, 9, 10, 6, 11, 12, 13, 14, 15, 16, 17, 18, 19, 20, 21, 22, 23, 24, 25, 26, 27, 28, 29, 30, 31, 32, 33, 34, 35, 36, 37, 38, 39, 40, 41, 42, 43] (by decide +kernel) (by decide +kernel)
set_option maxRecDepth 20000 in
theorem gX11_as_X11_isOne : GoodIn wsX11_as (wsV RX11 133 RX11 yX11_isOne wsX11_isOne) := goodIn_app (goodIn_of _ (by decide +kernel)) ggX11_as_X11_isOne
set_option maxRecDepth 20000 in
theorem ggX11_as_X11_in : GoodIn wsX11_as wsX11_in := goodIn_r _ [15] (by decide +kernel) (by decide +kernel)
set_option maxRecDepth 20000 in
theorem gX11_as_X11_in : GoodIn wsX11_as (va_wsS RX11 67 yX11_in wsX11_in) := goodIn_app (goodIn_of _ (by decide +kernel)) ggX11_as_X11_in
theorem dX11_as_0 : decode cX11_as 0 = .ok (.aload_n 0, 1) := by decide +kernel
theorem dX11_as_1 : decode cX11_as 1 = .ok (.iload_n 1, 1) := by decide +kernel
theorem dX11_as_2 : decode cX11_as 2 = .ok (.invokevirtual 133, 3) := by decide +kernel
theorem dX11_as_5 : decode cX11_as 5 = .ok (.ifCond .ne 6, 3) := by decide +kernel
theorem dX11_as_8 : decode cX11_as 8 = .ok (.bipush (-101), 2) := by decide +kernel
theorem dX11_as_10 : decode cX11_as 10 = .ok (.ireturn, 1) := by decide +kernel
theorem dX11_as_11 : decode cX11_as 11 = .ok (.iload_n 2, 1) := by decide +kernel
theorem dX11_as_12 : decode cX11_as 12 = .ok (.i2l, 1) := by decide +kernel
theorem dX11_as_13 : decode cX11_as 13 = .ok (.lconst 0, 1) := by decide +kernel
theorem dX11_as_14 : decode cX11_as 14 = .ok (.ldc2_w 139, 3) := by decide +kernel
theorem dX11_as_17 : decode cX11_as 17 = .ok (.invokestatic 67, 3) := by decide +kernel
theorem dX11_as_20 : decode cX11_as 20 = .ok (.ifCond .ne 6, 3) := by decide +kernel
theorem dX11_as_23 : decode cX11_as 23 = .ok (.bipush (-102), 2) := by decide +kernel
theorem dX11_as_25 : decode cX11_as 25 = .ok (.ireturn, 1) := by decide +kernel
theorem dX11_as_26 : decode cX11_as 26 = .ok (.iload_n 2, 1) := by decide +kernel
theorem dX11_as_27 : decode cX11_as 27 = .ok (.ifCond .eq 28, 3) := by decide +kernel
theorem dX11_as_30 : decode cX11_as 30 = .ok (.iload_n 2, 1) := by decide +kernel
theorem dX11_as_31 : decode cX11_as 31 = .ok (.aload_n 0, 1) := by decide +kernel
theorem dX11_as_32 : decode cX11_as 32 = .ok (.getfield 28, 3) := by decide +kernel
theorem dX11_as_35 : decode cX11_as 35 = .ok (.iload_n 1, 1) := by decide +kernel
theorem dX11_as_36 : decode cX11_as 36 = .ok (.iaload, 1) := by decide +kernel
theorem dX11_as_37 : decode cX11_as 37 = .ok (.if_icmp .eq 18, 3) := by decide +kernel
theorem dX11_as_40 : decode cX11_as 40 = .ok (.iload_n 2, 1) := by decide +kernel
theorem dX11_as_41 : decode cX11_as 41 = .ok (.iconst 1, 1) := by decide +kernel
theorem dX11_as_42 : decode cX11_as 42 = .ok (.if_icmp .ne 17, 3) := by decide +kernel
theorem dX11_as_45 : decode cX11_as 45 = .ok (.aload_n 0, 1) := by decide +kernel
theorem dX11_as_46 : decode cX11_as 46 = .ok (.getfield 28, 3) := by decide +kernel
theorem dX11_as_49 : decode cX11_as 49 = .ok (.iload_n 1, 1) := by decide +kernel
theorem dX11_as_50 : decode cX11_as 50 = .ok (.iaload, 1) := by decide +kernel
theorem dX11_as_51 : decode cX11_as 51 = .ok (.iconst 4, 1) := by decide +kernel
theorem dX11_as_52 : decode cX11_as 52 = .ok (.if_icmp .ne 7, 3) := by decide +kernel
theorem dX11_as_55 : decode cX11_as 55 = .ok (.iconst 1, 1) := by decide +kernel
theorem dX11_as_56 : decode cX11_as 56 = .ok (.goto 4, 3) := by decide +kernel
theorem dX11_as_59 : decode cX11_as 59 = .ok (.iconst 0, 1) := by decide +kernel
theorem dX11_as_60 : decode cX11_as 60 = .ok (.istore_n 3, 1) := by decide +kernel
theorem dX11_as_61 : decode cX11_as 61 = .ok (.iload_n 3, 1) := by decide +kernel
theorem dX11_as_62 : decode cX11_as 62 = .ok (.ifCond .eq 7, 3) := by decide +kernel
theorem dX11_as_65 : decode cX11_as 65 = .ok (.iload_n 1, 1) := by decide +kernel
theorem dX11_as_66 : decode cX11_as 66 = .ok (.goto 4, 3) := by decide +kernel
theorem dX11_as_69 : decode cX11_as 69 = .ok (.iconst (-1), 1) := by decide +kernel
theorem dX11_as_70 : decode cX11_as 70 = .ok (.ireturn, 1) := by decide +kernel
set_option maxRecDepth 20000 in
theorem ggX11_ways_X11_isOne : GoodIn wsX11_ways wsX11_isOne := goodIn_r _ [8, 9, 10, 11, 7, 12, 13, 14, 15, 16, 23, 24, 25, 26, 27, 28, 29, 30, 31, 32, 33, 34, 35, 36, 37, 38, 39, 40, 41, 42, 43, 44, 45, 46, 47, 48, 49, 50] (by decide +kernel) (by decide +kernel)
set_option maxRecDepth 20000 in
theorem gX11_ways_X11_isOne : GoodIn wsX11_ways (wsV RX11 133 RX11 yX11_isOne wsX11_isOne) := goodIn_app (goodIn_of _ (by decide +kernel)) ggX11_ways_X11_isOne
set_option maxRecDepth 20000 in
theorem ggX11_ways_X11_in : GoodIn wsX11_ways wsX11_in := goodIn_r _ [16] (by decide +kernel) (by decide +kernel)
set_option maxRecDepth 20000 in
theorem gX11_ways_X11_in : GoodIn wsX11_ways (va_wsS RX11 67 yX11_in wsX11_in) := goodIn_app (goodIn_of _ (by decide +kernel)) ggX11_ways_X11_in
set_option maxRecDepth 20000 in
theorem ggX11_ways_X11_waysOf : GoodIn wsX11_ways wsX11_waysOf := goodIn_r _ [20, 21, 22, 23, 24, 25, 26, 27, 28, 29, 30, 31, 32, 33, 34, 35, 36, 37, 38, 39, 40, 41, 42, 43, 44, 45, 46, 47, 48, 49, 50] (by decide +kernel) (by decide +kernel)
set_option maxRecDepth 20000 in
theorem gX11_ways_X11_waysOf : GoodIn wsX11_ways (wsV RX11 61 RX11 yX11_waysOf wsX11_waysOf) := goodIn_app (goodIn_of _ (by decide +kernel)) ggX11_ways_X11_waysOf
theorem dX11_ways_0 : decode cX11_ways 0 = .ok (.aload_n 0, 1) := by decide +kernel
theorem dX11_ways_1 : decode cX11_ways 1 = .ok (.iload_n 1, 1) := by decide +kernel
theorem dX11_ways_2 : decode cX11_ways 2 = .ok (.invokevirtual 133, 3) := by decide +kernel
theorem dX11_ways_5 : decode cX11_ways 5 = .ok (.ifCond .ne 6, 3) := by decide +kernel
theorem dX11_ways_8 : decode cX11_ways 8 = .ok (.bipush (-101), 2) := by decide +kernel
theorem dX11_ways_10 : decode cX11_ways 10 = .ok (.ireturn, 1) := by decide +kernel
theorem dX11_ways_11 : decode cX11_ways 11 = .ok (.iload_n 2, 1) := by decide +kernel
theorem dX11_ways_12 : decode cX11_ways 12 = .ok (.i2l, 1) := by decide +kernel
theorem dX11_ways_13 : decode cX11_ways 13 = .ok (.ldc2_w 141, 3) := by decide +kernel
theorem dX11_ways_16 : decode cX11_ways 16 = .ok (.ldc2_w 143, 3) := by decide +kernel
theorem dX11_ways_19 : decode cX11_ways 19 = .ok (.invokestatic 67, 3) := by decide +kernel
theorem dX11_ways_22 : decode cX11_ways 22 = .ok (.ifCond .eq 17, 3) := by decide +kernel
theorem dX11_ways_25 : decode cX11_ways 25 = .ok (.aload_n 0, 1) := by decide +kernel
theorem dX11_ways_26 : decode cX11_ways 26 = .ok (.aload_n 0, 1) := by decide +kernel
theorem dX11_ways_27 : decode cX11_ways 27 = .ok (.getfield 28, 3) := by decide +kernel
theorem dX11_ways_30 : decode cX11_ways 30 = .ok (.iload_n 1, 1) := by decide +kernel
theorem dX11_ways_31 : decode cX11_ways 31 = .ok (.iaload, 1) := by decide +kernel
theorem dX11_ways_32 : decode cX11_ways 32 = .ok (.iload_n 2, 1) := by decide +kernel
theorem dX11_ways_33 : decode cX11_ways 33 = .ok (.invokevirtual 61, 3) := by decide +kernel
theorem dX11_ways_36 : decode cX11_ways 36 = .ok (.goto 5, 3) := by decide +kernel
theorem dX11_ways_39 : decode cX11_ways 39 = .ok (.bipush (-102), 2) := by decide +kernel
theorem dX11_ways_41 : decode cX11_ways 41 = .ok (.ireturn, 1) := by decide +kernel
set_option maxRecDepth 20000 in
theorem ggX11_isRightNow_X11_isKings : GoodIn wsX11_isRightNow wsX11_isKings := goodIn_r _ [7, 2, 8, 9, 10, 11, 12, 13, 14, 15, 16, 17, 18, 19, 20, 21, 22, 23, 24, 25, 26, 27, 28, 29, 30, 31, 32, 33, 34, 35] (by decide +kernel) (by decide +kernel)
set_option maxRecDepth 20000 in
theorem gX11_isRightNow_X11_isKings : GoodIn wsX11_isRightNow (wsV RX11 145 RX11 yX11_isKings wsX11_isKings) := goodIn_app (goodIn_of _ (by decide +kernel)) ggX11_isRightNow_X11_isKings
theorem dX11_isRightNow_0 : decode cX11_isRightNow 0 = .ok (.iconst 1, 1) := by decide +kernel
theorem dX11_isRightNow_1 : decode cX11_isRightNow 1 = .ok (.istore_n 1, 1) := by decide +kernel
theorem dX11_isRightNow_2 : decode cX11_isRightNow 2 = .ok (.iconst 0, 1) := by decide +kernel
theorem dX11_isRightNow_3 : decode cX11_isRightNow 3 = .ok (.istore_n 2, 1) := by decide +kernel
theorem dX11_isRightNow_4 : decode cX11_isRightNow 4 = .ok (.iload_n 2, 1) := by decide +kernel
theorem dX11_isRightNow_5 : decode cX11_isRightNow 5 = .ok (.aload_n 0, 1) := by decide +kernel
theorem dX11_isRightNow_6 : decode cX11_isRightNow 6 = .ok (.getfield 102, 3) := by decide +kernel
theorem dX11_isRightNow_9 : decode cX11_isRightNow 9 = .ok (.if_icmp .ge 40, 3) := by decide +kernel
theorem dX11_isRightNow_12 : decode cX11_isRightNow 12 = .ok (.iload_n 1, 1) := by decide +kernel
theorem dX11_isRightNow_13 : decode cX11_isRightNow 13 = .ok (.ifCond .eq 28, 3) := by decide +kernel
theorem dX11_isRightNow_16 : decode cX11_isRightNow 16 = .ok (.aload_n 0, 1) := by decide +kernel
theorem dX11_isRightNow_17 : decode cX11_isRightNow 17 = .ok (.getfield 25, 3) := by decide +kernel
theorem dX11_isRightNow_20 : decode cX11_isRightNow 20 = .ok (.bipush 6, 2) := by decide +kernel
theorem dX11_isRightNow_22 : decode cX11_isRightNow 22 = .ok (.iload_n 2, 1) := by decide +kernel
theorem dX11_isRightNow_23 : decode cX11_isRightNow 23 = .ok (.imul, 1) := by decide +kernel
theorem dX11_isRightNow_24 : decode cX11_isRightNow 24 = .ok (.iaload, 1) := by decide +kernel
theorem dX11_isRightNow_25 : decode cX11_isRightNow 25 = .ok (.iconst 2, 1) := by decide +kernel
theorem dX11_isRightNow_26 : decode cX11_isRightNow 26 = .ok (.if_icmp .ne 11, 3) := by decide +kernel
theorem dX11_isRightNow_29 : decode cX11_isRightNow 29 = .ok (.aload_n 0, 1) := by decide +kernel
theorem dX11_isRightNow_30 : decode cX11_isRightNow 30 = .ok (.iload_n 2, 1) := by decide +kernel
theorem dX11_isRightNow_31 : decode cX11_isRightNow 31 = .ok (.invokevirtual 145, 3) := by decide +kernel
theorem dX11_isRightNow_34 : decode cX11_isRightNow 34 = .ok (.ifCond .eq 7, 3) := by decide +kernel
theorem dX11_isRightNow_37 : decode cX11_isRightNow 37 = .ok (.iconst 1, 1) := by decide +kernel
theorem dX11_isRightNow_38 : decode cX11_isRightNow 38 = .ok (.goto 4, 3) := by decide +kernel
theorem dX11_isRightNow_41 : decode cX11_isRightNow 41 = .ok (.iconst 0, 1) := by decide +kernel
theorem dX11_isRightNow_42 : decode cX11_isRightNow 42 = .ok (.istore_n 1, 1) := by decide +kernel
theorem dX11_isRightNow_43 : decode cX11_isRightNow 43 = .ok (.iinc 2 1, 3) := by decide +kernel
theorem dX11_isRightNow_46 : decode cX11_isRightNow 46 = .ok (.goto (-42), 3) := by decide +kernel
theorem dX11_isRightNow_49 : decode cX11_isRightNow 49 = .ok (.iload_n 1, 1) := by decide +kernel
theorem dX11_isRightNow_50 : decode cX11_isRightNow 50 = .ok (.ireturn, 1) := by decide +kernel
theorem dX11_goesOver_0 : decode cX11_goesOver 0 = .ok (.aload_n 0, 1) := by decide +kernel
theorem dX11_goesOver_1 : decode cX11_goesOver 1 = .ok (.getfield 25, 3) := by decide +kernel
theorem dX11_goesOver_4 : decode cX11_goesOver 4 = .ok (.bipush 6, 2) := by decide +kernel
theorem dX11_goesOver_6 : decode cX11_goesOver 6 = .ok (.iload_n 1, 1) := by decide +kernel
theorem dX11_goesOver_7 : decode cX11_goesOver 7 = .ok (.imul, 1) := by decide +kernel
theorem dX11_goesOver_8 : decode cX11_goesOver 8 = .ok (.iconst 2, 1) := by decide +kernel
theorem dX11_goesOver_9 : decode cX11_goesOver 9 = .ok (.iadd, 1) := by decide +kernel
theorem dX11_goesOver_10 : decode cX11_goesOver 10 = .ok (.iload_n 2, 1) := by decide +kernel
theorem dX11_goesOver_11 : decode cX11_goesOver 11 = .ok (.iastore, 1) := by decide +kernel
theorem dX11_goesOver_12 : decode cX11_goesOver 12 = .ok (.aload_n 0, 1) := by decide +kernel
theorem dX11_goesOver_13 : decode cX11_goesOver 13 = .ok (.getfield 25, 3) := by decide +kernel
theorem dX11_goesOver_16 : decode cX11_goesOver 16 = .ok (.bipush 6, 2) := by decide +kernel
theorem dX11_goesOver_18 : decode cX11_goesOver 18 = .ok (.iload_n 1, 1) := by decide +kernel
theorem dX11_goesOver_19 : decode cX11_goesOver 19 = .ok (.imul, 1) := by decide +kernel
theorem dX11_goesOver_20 : decode cX11_goesOver 20 = .ok (.iconst 5, 1) := by decide +kernel
theorem dX11_goesOver_21 : decode cX11_goesOver 21 = .ok (.iadd, 1) := by decide +kernel
theorem dX11_goesOver_22 : decode cX11_goesOver 22 = .ok (.dup2, 1) := by decide +kernel
theorem dX11_goesOver_23 : decode cX11_goesOver 23 = .ok (.iaload, 1) := by decide +kernel
theorem dX11_goesOver_24 : decode cX11_goesOver 24 = .ok (.iconst 1, 1) := by decide +kernel
theorem dX11_goesOver_25 : decode cX11_goesOver 25 = .ok (.iadd, 1) := by decide +kernel
theorem dX11_goesOver_26 : decode cX11_goesOver 26 = .ok (.iastore, 1) := by decide +kernel
theorem dX11_goesOver_27 : decode cX11_goesOver 27 = .ok (.return_, 1) := by decide +kernel
set_option maxRecDepth 20000 in
theorem ggX11_loses_X11_isRightNow : GoodIn wsX11_loses wsX11_isRightNow := goodIn_r _ [7, 8, 1, 9, 10, 11, 6, 12, 17, 18, 19, 20, 21, 22, 23, 24, 25, 26, 27, 28, 29, 30, 31, 32, 33, 34, 35, 36, 37, 38, 39, 40, 41, 42, 43, 44] (by decide +kernel) (by decide +kernel)
set_option maxRecDepth 20000 in
theorem gX11_loses_X11_isRightNow : GoodIn wsX11_loses (wsV RX11 148 RX11 yX11_isRightNow wsX11_isRightNow) := goodIn_app (goodIn_of _ (by decide +kernel)) ggX11_loses_X11_isRightNow
set_option maxRecDepth 20000 in
theorem ggX11_loses_X11_goesOver : GoodIn wsX11_loses wsX11_goesOver := goodIn_r _ [16, 1, 17, 18, 19, 20, 21, 22, 23, 24, 25, 26, 27, 28, 29, 30, 31, 32, 33, 34, 35, 36, 37, 38, 39, 40, 41, 42, 43, 44] (by decide +kernel) (by decide +kernel)
set_option maxRecDepth 20000 in
theorem gX11_loses_X11_goesOver : GoodIn wsX11_loses (wsV RX11 151 RX11 yX11_goesOver wsX11_goesOver) := goodIn_app (goodIn_of _ (by decide +kernel)) ggX11_loses_X11_goesOver
theorem dX11_loses_0 : decode cX11_loses 0 = .ok (.aload_n 0, 1) := by decide +kernel
theorem dX11_loses_1 : decode cX11_loses 1 = .ok (.getfield 25, 3) := by decide +kernel
theorem dX11_loses_4 : decode cX11_loses 4 = .ok (.bipush 6, 2) := by decide +kernel
theorem dX11_loses_6 : decode cX11_loses 6 = .ok (.iload_n 1, 1) := by decide +kernel
theorem dX11_loses_7 : decode cX11_loses 7 = .ok (.imul, 1) := by decide +kernel
theorem dX11_loses_8 : decode cX11_loses 8 = .ok (.iconst 4, 1) := by decide +kernel
theorem dX11_loses_9 : decode cX11_loses 9 = .ok (.iadd, 1) := by decide +kernel
theorem dX11_loses_10 : decode cX11_loses 10 = .ok (.aload_n 0, 1) := by decide +kernel
theorem dX11_loses_11 : decode cX11_loses 11 = .ok (.invokevirtual 148, 3) := by decide +kernel
theorem dX11_loses_14 : decode cX11_loses 14 = .ok (.ifCond .eq 7, 3) := by decide +kernel
theorem dX11_loses_17 : decode cX11_loses 17 = .ok (.iconst 1, 1) := by decide +kernel
theorem dX11_loses_18 : decode cX11_loses 18 = .ok (.goto 4, 3) := by decide +kernel
theorem dX11_loses_21 : decode cX11_loses 21 = .ok (.iconst 0, 1) := by decide +kernel
theorem dX11_loses_22 : decode cX11_loses 22 = .ok (.iastore, 1) := by decide +kernel
theorem dX11_loses_23 : decode cX11_loses 23 = .ok (.aload_n 0, 1) := by decide +kernel
theorem dX11_loses_24 : decode cX11_loses 24 = .ok (.getfield 25, 3) := by decide +kernel
theorem dX11_loses_27 : decode cX11_loses 27 = .ok (.bipush 6, 2) := by decide +kernel
theorem dX11_loses_29 : decode cX11_loses 29 = .ok (.iload_n 1, 1) := by decide +kernel
theorem dX11_loses_30 : decode cX11_loses 30 = .ok (.imul, 1) := by decide +kernel
theorem dX11_loses_31 : decode cX11_loses 31 = .ok (.iconst 3, 1) := by decide +kernel
theorem dX11_loses_32 : decode cX11_loses 32 = .ok (.iadd, 1) := by decide +kernel
theorem dX11_loses_33 : decode cX11_loses 33 = .ok (.aload_n 0, 1) := by decide +kernel
theorem dX11_loses_34 : decode cX11_loses 34 = .ok (.getfield 112, 3) := by decide +kernel
theorem dX11_loses_37 : decode cX11_loses 37 = .ok (.iastore, 1) := by decide +kernel
theorem dX11_loses_38 : decode cX11_loses 38 = .ok (.aload_n 0, 1) := by decide +kernel
theorem dX11_loses_39 : decode cX11_loses 39 = .ok (.iload_n 1, 1) := by decide +kernel
theorem dX11_loses_40 : decode cX11_loses 40 = .ok (.iconst 1, 1) := by decide +kernel
theorem dX11_loses_41 : decode cX11_loses 41 = .ok (.invokevirtual 151, 3) := by decide +kernel
theorem dX11_loses_44 : decode cX11_loses 44 = .ok (.return_, 1) := by decide +kernel
set_option maxRecDepth 20000 in
theorem ggX11_play_X11_isThing : GoodIn wsX11_play wsX11_isThing := goodIn_r _ [11, 12, 13, 14, 10, 15, 38, 39, 40, 41, 42, 43, 44, 45, 46, 47, 48, 49, 50, 51, 52, 53, 54, 55, 56, 57, 58, 59, 60, 61, 62, 63, 64, 65] (by decide +kernel) (by decide +kernel)
set_option maxRecDepth 20000 in
theorem gX11_play_X11_isThing : GoodIn wsX11_play (wsV RX11 125 RX11 yX11_isThing wsX11_isThing) := goodIn_app (goodIn_of _ (by decide +kernel)) ggX11_play_X11_isThing
set_option maxRecDepth 20000 in
theorem ggX11_play_X11_in : GoodIn wsX11_play wsX11_in := goodIn_r _ [15] (by decide +kernel) (by decide +kernel)
set_option maxRecDepth 20000 in
theorem gX11_play_X11_in : GoodIn wsX11_play (va_wsS RX11 67 yX11_in wsX11_in) := goodIn_app (goodIn_of _ (by decide +kernel)) ggX11_play_X11_in
set_option maxRecDepth 20000 in
theorem ggX11_play_X11_waysOf : GoodIn wsX11_play wsX11_waysOf := goodIn_r _ [19, 20, 21, 38, 39, 40, 41, 42, 43, 44, 45, 46, 47, 48, 49, 50, 51, 52, 53, 54, 55, 56, 57, 58, 59, 60, 61, 62, 63, 64, 65] (by decide +kernel) (by decide +kernel)
set_option maxRecDepth 20000 in
theorem gX11_play_X11_waysOf : GoodIn wsX11_play (wsV RX11 61 RX11 yX11_waysOf wsX11_waysOf) := goodIn_app (goodIn_of _ (by decide +kernel)) ggX11_play_X11_waysOf
set_option maxRecDepth 20000 in
theorem ggX11_play_X11_isKings : GoodIn wsX11_play wsX11_isKings := goodIn_r _ [25, 4, 38, 39, 40, 41, 42, 43, 44, 45, 46, 47, 48, 49, 50, 51, 52, 53, 54, 55, 56, 57, 58, 59, 60, 61, 62, 63, 64, 65] (by decide +kernel) (by decide +kernel)
set_option maxRecDepth 20000 in
theorem gX11_play_X11_isKings : GoodIn wsX11_play (wsV RX11 145 RX11 yX11_isKings wsX11_isKings) := goodIn_app (goodIn_of _ (by decide +kernel)) ggX11_play_X11_isKings
set_option maxRecDepth 20000 in
theorem ggX11_play_X11_loses : GoodIn wsX11_play wsX11_loses := goodIn_r _ [29, 4, 5, 30, 31, 32, 10, 33, 12, 22, 23, 24, 25, 34, 35, 36, 37, 38, 39, 40, 41, 42, 43, 44, 45, 46, 47, 48, 49, 50, 51, 52, 53, 54, 55, 56, 57, 58, 59, 60, 61, 62, 63, 64, 65] (by decide +kernel) (by decide +kernel)
set_option maxRecDepth 20000 in
theorem gX11_play_X11_loses : GoodIn wsX11_play (wsV RX11 155 RX11 yX11_loses wsX11_loses) := goodIn_app (goodIn_of _ (by decide +kernel)) ggX11_play_X11_loses
set_option maxRecDepth 20000 in
theorem ggX11_play_X11_goesOver : GoodIn wsX11_play wsX11_goesOver := goodIn_r _ [37, 4, 38, 39, 40, 41, 42, 43, 44, 45, 46, 47, 48, 49, 50, 51, 52, 53, 54, 55, 56, 57, 58, 59, 60, 61, 62, 63, 64, 65] (by decide +kernel) (by decide +kernel)
set_option maxRecDepth 20000 in
theorem gX11_play_X11_goesOver : GoodIn wsX11_play (wsV RX11 151 RX11 yX11_goesOver wsX11_goesOver) := goodIn_app (goodIn_of _ (by decide +kernel)) ggX11_play_X11_goesOver
theorem dX11_play_0 : decode cX11_play 0 = .ok (.aload_n 0, 1) := by decide +kernel
theorem dX11_play_1 : decode cX11_play 1 = .ok (.iload_n 1, 1) := by decide +kernel
theorem dX11_play_2 : decode cX11_play 2 = .ok (.invokevirtual 125, 3) := by decide +kernel
theorem dX11_play_5 : decode cX11_play 5 = .ok (.ifCond .eq 16, 3) := by decide +kernel
theorem dX11_play_8 : decode cX11_play 8 = .ok (.iload_n 2, 1) := by decide +kernel
theorem dX11_play_9 : decode cX11_play 9 = .ok (.iconst (-1), 1) := by decide +kernel
theorem dX11_play_10 : decode cX11_play 10 = .ok (.if_icmp .eq 14, 3) := by decide +kernel
theorem dX11_play_13 : decode cX11_play 13 = .ok (.aload_n 0, 1) := by decide +kernel
theorem dX11_play_14 : decode cX11_play 14 = .ok (.iload_n 2, 1) := by decide +kernel
theorem dX11_play_15 : decode cX11_play 15 = .ok (.invokevirtual 125, 3) := by decide +kernel
theorem dX11_play_18 : decode cX11_play 18 = .ok (.ifCond .ne 6, 3) := by decide +kernel
theorem dX11_play_21 : decode cX11_play 21 = .ok (.bipush (-101), 2) := by decide +kernel
theorem dX11_play_23 : decode cX11_play 23 = .ok (.ireturn, 1) := by decide +kernel
theorem dX11_play_24 : decode cX11_play 24 = .ok (.iload_n 3, 1) := by decide +kernel
theorem dX11_play_25 : decode cX11_play 25 = .ok (.i2l, 1) := by decide +kernel
theorem dX11_play_26 : decode cX11_play 26 = .ok (.ldc2_w 141, 3) := by decide +kernel
theorem dX11_play_29 : decode cX11_play 29 = .ok (.ldc2_w 143, 3) := by decide +kernel
theorem dX11_play_32 : decode cX11_play 32 = .ok (.invokestatic 67, 3) := by decide +kernel
theorem dX11_play_35 : decode cX11_play 35 = .ok (.ifCond .eq 47, 3) := by decide +kernel
theorem dX11_play_38 : decode cX11_play 38 = .ok (.iload 4, 2) := by decide +kernel
theorem dX11_play_40 : decode cX11_play 40 = .ok (.i2l, 1) := by decide +kernel
theorem dX11_play_41 : decode cX11_play 41 = .ok (.ldc2_w 141, 3) := by decide +kernel
theorem dX11_play_44 : decode cX11_play 44 = .ok (.ldc2_w 143, 3) := by decide +kernel
theorem dX11_play_47 : decode cX11_play 47 = .ok (.invokestatic 67, 3) := by decide +kernel
theorem dX11_play_50 : decode cX11_play 50 = .ok (.ifCond .eq 32, 3) := by decide +kernel
theorem dX11_play_53 : decode cX11_play 53 = .ok (.aload_n 0, 1) := by decide +kernel
theorem dX11_play_54 : decode cX11_play 54 = .ok (.aload_n 0, 1) := by decide +kernel
theorem dX11_play_55 : decode cX11_play 55 = .ok (.getfield 28, 3) := by decide +kernel
theorem dX11_play_58 : decode cX11_play 58 = .ok (.iconst 0, 1) := by decide +kernel
theorem dX11_play_59 : decode cX11_play 59 = .ok (.iaload, 1) := by decide +kernel
theorem dX11_play_60 : decode cX11_play 60 = .ok (.iload_n 3, 1) := by decide +kernel
theorem dX11_play_61 : decode cX11_play 61 = .ok (.invokevirtual 61, 3) := by decide +kernel
theorem dX11_play_64 : decode cX11_play 64 = .ok (.ifCond .eq 18, 3) := by decide +kernel
theorem dX11_play_67 : decode cX11_play 67 = .ok (.aload_n 0, 1) := by decide +kernel
theorem dX11_play_68 : decode cX11_play 68 = .ok (.aload_n 0, 1) := by decide +kernel
theorem dX11_play_69 : decode cX11_play 69 = .ok (.getfield 28, 3) := by decide +kernel
theorem dX11_play_72 : decode cX11_play 72 = .ok (.iconst 1, 1) := by decide +kernel
theorem dX11_play_73 : decode cX11_play 73 = .ok (.iaload, 1) := by decide +kernel
theorem dX11_play_74 : decode cX11_play 74 = .ok (.iload 4, 2) := by decide +kernel
theorem dX11_play_76 : decode cX11_play 76 = .ok (.invokevirtual 61, 3) := by decide +kernel
theorem dX11_play_79 : decode cX11_play 79 = .ok (.ifCond .ne 6, 3) := by decide +kernel
theorem dX11_play_82 : decode cX11_play 82 = .ok (.bipush (-102), 2) := by decide +kernel
theorem dX11_play_84 : decode cX11_play 84 = .ok (.ireturn, 1) := by decide +kernel
theorem dX11_play_85 : decode cX11_play 85 = .ok (.aload_n 0, 1) := by decide +kernel
theorem dX11_play_86 : decode cX11_play 86 = .ok (.iload_n 1, 1) := by decide +kernel
theorem dX11_play_87 : decode cX11_play 87 = .ok (.invokevirtual 145, 3) := by decide +kernel
theorem dX11_play_90 : decode cX11_play 90 = .ok (.ifCond .eq 41, 3) := by decide +kernel
theorem dX11_play_93 : decode cX11_play 93 = .ok (.iload_n 2, 1) := by decide +kernel
theorem dX11_play_94 : decode cX11_play 94 = .ok (.iconst (-1), 1) := by decide +kernel
theorem dX11_play_95 : decode cX11_play 95 = .ok (.if_icmp .eq 39, 3) := by decide +kernel
theorem dX11_play_98 : decode cX11_play 98 = .ok (.aload_n 0, 1) := by decide +kernel
theorem dX11_play_99 : decode cX11_play 99 = .ok (.iload_n 2, 1) := by decide +kernel
theorem dX11_play_100 : decode cX11_play 100 = .ok (.invokevirtual 145, 3) := by decide +kernel
theorem dX11_play_103 : decode cX11_play 103 = .ok (.ifCond .ne 28, 3) := by decide +kernel
theorem dX11_play_106 : decode cX11_play 106 = .ok (.aload_n 0, 1) := by decide +kernel
theorem dX11_play_107 : decode cX11_play 107 = .ok (.getfield 25, 3) := by decide +kernel
theorem dX11_play_110 : decode cX11_play 110 = .ok (.bipush 6, 2) := by decide +kernel
theorem dX11_play_112 : decode cX11_play 112 = .ok (.iload_n 2, 1) := by decide +kernel
theorem dX11_play_113 : decode cX11_play 113 = .ok (.imul, 1) := by decide +kernel
theorem dX11_play_114 : decode cX11_play 114 = .ok (.iconst 1, 1) := by decide +kernel
theorem dX11_play_115 : decode cX11_play 115 = .ok (.iadd, 1) := by decide +kernel
theorem dX11_play_116 : decode cX11_play 116 = .ok (.iaload, 1) := by decide +kernel
theorem dX11_play_117 : decode cX11_play 117 = .ok (.aload_n 0, 1) := by decide +kernel
theorem dX11_play_118 : decode cX11_play 118 = .ok (.getfield 25, 3) := by decide +kernel
theorem dX11_play_121 : decode cX11_play 121 = .ok (.bipush 6, 2) := by decide +kernel
theorem dX11_play_123 : decode cX11_play 123 = .ok (.iload_n 1, 1) := by decide +kernel
theorem dX11_play_124 : decode cX11_play 124 = .ok (.imul, 1) := by decide +kernel
theorem dX11_play_125 : decode cX11_play 125 = .ok (.iconst 1, 1) := by decide +kernel
theorem dX11_play_126 : decode cX11_play 126 = .ok (.iadd, 1) := by decide +kernel
theorem dX11_play_127 : decode cX11_play 127 = .ok (.iaload, 1) := by decide +kernel
theorem dX11_play_128 : decode cX11_play 128 = .ok (.if_icmp .le 6, 3) := by decide +kernel
theorem dX11_play_131 : decode cX11_play 131 = .ok (.bipush (-103), 2) := by decide +kernel
theorem dX11_play_133 : decode cX11_play 133 = .ok (.ireturn, 1) := by decide +kernel
theorem dX11_play_134 : decode cX11_play 134 = .ok (.aload_n 0, 1) := by decide +kernel
theorem dX11_play_135 : decode cX11_play 135 = .ok (.getfield 112, 3) := by decide +kernel
theorem dX11_play_138 : decode cX11_play 138 = .ok (.bipush 30, 2) := by decide +kernel
theorem dX11_play_140 : decode cX11_play 140 = .ok (.if_icmp .ne 6, 3) := by decide +kernel
theorem dX11_play_143 : decode cX11_play 143 = .ok (.bipush (-104), 2) := by decide +kernel
theorem dX11_play_145 : decode cX11_play 145 = .ok (.ireturn, 1) := by decide +kernel
theorem dX11_play_146 : decode cX11_play 146 = .ok (.aload_n 0, 1) := by decide +kernel
theorem dX11_play_147 : decode cX11_play 147 = .ok (.dup, 1) := by decide +kernel
theorem dX11_play_148 : decode cX11_play 148 = .ok (.getfield 112, 3) := by decide +kernel
theorem dX11_play_151 : decode cX11_play 151 = .ok (.iconst 1, 1) := by decide +kernel
theorem dX11_play_152 : decode cX11_play 152 = .ok (.iadd, 1) := by decide +kernel
theorem dX11_play_153 : decode cX11_play 153 = .ok (.putfield 112, 3) := by decide +kernel
theorem dX11_play_156 : decode cX11_play 156 = .ok (.iload_n 3, 1) := by decide +kernel
theorem dX11_play_157 : decode cX11_play 157 = .ok (.iload 4, 2) := by decide +kernel
theorem dX11_play_159 : decode cX11_play 159 = .ok (.if_icmp .ge 8, 3) := by decide +kernel
theorem dX11_play_162 : decode cX11_play 162 = .ok (.aload_n 0, 1) := by decide +kernel
theorem dX11_play_163 : decode cX11_play 163 = .ok (.iload_n 1, 1) := by decide +kernel
theorem dX11_play_164 : decode cX11_play 164 = .ok (.invokevirtual 155, 3) := by decide +kernel
theorem dX11_play_167 : decode cX11_play 167 = .ok (.iload_n 3, 1) := by decide +kernel
theorem dX11_play_168 : decode cX11_play 168 = .ok (.iload 4, 2) := by decide +kernel
theorem dX11_play_170 : decode cX11_play 170 = .ok (.if_icmp .le 28, 3) := by decide +kernel
theorem dX11_play_173 : decode cX11_play 173 = .ok (.iload_n 2, 1) := by decide +kernel
theorem dX11_play_174 : decode cX11_play 174 = .ok (.iconst (-1), 1) := by decide +kernel
theorem dX11_play_175 : decode cX11_play 175 = .ok (.if_icmp .ne 23, 3) := by decide +kernel
theorem dX11_play_178 : decode cX11_play 178 = .ok (.aload_n 0, 1) := by decide +kernel
theorem dX11_play_179 : decode cX11_play 179 = .ok (.dup, 1) := by decide +kernel
theorem dX11_play_180 : decode cX11_play 180 = .ok (.getfield 109, 3) := by decide +kernel
theorem dX11_play_183 : decode cX11_play 183 = .ok (.aload_n 0, 1) := by decide +kernel
theorem dX11_play_184 : decode cX11_play 184 = .ok (.getfield 25, 3) := by decide +kernel
theorem dX11_play_187 : decode cX11_play 187 = .ok (.bipush 6, 2) := by decide +kernel
theorem dX11_play_189 : decode cX11_play 189 = .ok (.iload_n 1, 1) := by decide +kernel
theorem dX11_play_190 : decode cX11_play 190 = .ok (.imul, 1) := by decide +kernel
theorem dX11_play_191 : decode cX11_play 191 = .ok (.iconst 1, 1) := by decide +kernel
theorem dX11_play_192 : decode cX11_play 192 = .ok (.iadd, 1) := by decide +kernel
theorem dX11_play_193 : decode cX11_play 193 = .ok (.iaload, 1) := by decide +kernel
theorem dX11_play_194 : decode cX11_play 194 = .ok (.iadd, 1) := by decide +kernel
theorem dX11_play_195 : decode cX11_play 195 = .ok (.putfield 109, 3) := by decide +kernel
theorem dX11_play_198 : decode cX11_play 198 = .ok (.iload_n 3, 1) := by decide +kernel
theorem dX11_play_199 : decode cX11_play 199 = .ok (.iload 4, 2) := by decide +kernel
theorem dX11_play_201 : decode cX11_play 201 = .ok (.if_icmp .le 14, 3) := by decide +kernel
theorem dX11_play_204 : decode cX11_play 204 = .ok (.iload_n 2, 1) := by decide +kernel
theorem dX11_play_205 : decode cX11_play 205 = .ok (.iconst (-1), 1) := by decide +kernel
theorem dX11_play_206 : decode cX11_play 206 = .ok (.if_icmp .eq 9, 3) := by decide +kernel
theorem dX11_play_209 : decode cX11_play 209 = .ok (.aload_n 0, 1) := by decide +kernel
theorem dX11_play_210 : decode cX11_play 210 = .ok (.iload_n 2, 1) := by decide +kernel
theorem dX11_play_211 : decode cX11_play 211 = .ok (.iconst 0, 1) := by decide +kernel
theorem dX11_play_212 : decode cX11_play 212 = .ok (.invokevirtual 151, 3) := by decide +kernel
theorem dX11_play_215 : decode cX11_play 215 = .ok (.iload_n 3, 1) := by decide +kernel
theorem dX11_play_216 : decode cX11_play 216 = .ok (.iload 4, 2) := by decide +kernel
theorem dX11_play_218 : decode cX11_play 218 = .ok (.if_icmp .le 7, 3) := by decide +kernel
theorem dX11_play_221 : decode cX11_play 221 = .ok (.iconst 0, 1) := by decide +kernel
theorem dX11_play_222 : decode cX11_play 222 = .ok (.goto 14, 3) := by decide +kernel
theorem dX11_play_225 : decode cX11_play 225 = .ok (.iload_n 3, 1) := by decide +kernel
theorem dX11_play_226 : decode cX11_play 226 = .ok (.iload 4, 2) := by decide +kernel
theorem dX11_play_228 : decode cX11_play 228 = .ok (.if_icmp .ge 7, 3) := by decide +kernel
theorem dX11_play_231 : decode cX11_play 231 = .ok (.iconst 1, 1) := by decide +kernel
theorem dX11_play_232 : decode cX11_play 232 = .ok (.goto 4, 3) := by decide +kernel
theorem dX11_play_235 : decode cX11_play 235 = .ok (.iconst (-1), 1) := by decide +kernel
theorem dX11_play_236 : decode cX11_play 236 = .ok (.ireturn, 1) := by decide +kernel
set_option maxRecDepth 20000 in
theorem ggX11_waysBy_X11_waysOf : GoodIn wsX11_waysBy wsX11_waysOf := goodIn_r _ [6, 7, 8, 9, 10, 11, 12, 13, 14, 15, 16, 17, 18, 19, 20, 21, 22, 23, 24, 25, 26, 27, 28, 29, 30, 31, 32, 33, 34, 35, 36] (by decide +kernel) (by decide +kernel)
set_option maxRecDepth 20000 in
theorem gX11_waysBy_X11_waysOf : GoodIn wsX11_waysBy (wsV RX11 61 RX11 yX11_waysOf wsX11_waysOf) := goodIn_app (goodIn_of _ (by decide +kernel)) ggX11_waysBy_X11_waysOf
theorem dX11_waysBy_0 : decode cX11_waysBy 0 = .ok (.lconst 0, 1) := by decide +kernel
theorem dX11_waysBy_1 : decode cX11_waysBy 1 = .ok (.lstore_n 2, 1) := by decide +kernel
theorem dX11_waysBy_2 : decode cX11_waysBy 2 = .ok (.iconst 2, 1) := by decide +kernel
theorem dX11_waysBy_3 : decode cX11_waysBy 3 = .ok (.istore 4, 2) := by decide +kernel
theorem dX11_waysBy_5 : decode cX11_waysBy 5 = .ok (.iload 4, 2) := by decide +kernel
theorem dX11_waysBy_7 : decode cX11_waysBy 7 = .ok (.bipush 13, 2) := by decide +kernel
theorem dX11_waysBy_9 : decode cX11_waysBy 9 = .ok (.if_icmp .ge 116, 3) := by decide +kernel
theorem dX11_waysBy_12 : decode cX11_waysBy 12 = .ok (.iconst 2, 1) := by decide +kernel
theorem dX11_waysBy_13 : decode cX11_waysBy 13 = .ok (.istore 5, 2) := by decide +kernel
theorem dX11_waysBy_15 : decode cX11_waysBy 15 = .ok (.iload 5, 2) := by decide +kernel
theorem dX11_waysBy_17 : decode cX11_waysBy 17 = .ok (.bipush 13, 2) := by decide +kernel
theorem dX11_waysBy_19 : decode cX11_waysBy 19 = .ok (.if_icmp .ge 100, 3) := by decide +kernel
theorem dX11_waysBy_22 : decode cX11_waysBy 22 = .ok (.iload_n 1, 1) := by decide +kernel
theorem dX11_waysBy_23 : decode cX11_waysBy 23 = .ok (.ifCond .ne 18, 3) := by decide +kernel
theorem dX11_waysBy_26 : decode cX11_waysBy 26 = .ok (.iload 4, 2) := by decide +kernel
theorem dX11_waysBy_28 : decode cX11_waysBy 28 = .ok (.iload 5, 2) := by decide +kernel
theorem dX11_waysBy_30 : decode cX11_waysBy 30 = .ok (.if_icmp .le 7, 3) := by decide +kernel
theorem dX11_waysBy_33 : decode cX11_waysBy 33 = .ok (.iconst 1, 1) := by decide +kernel
theorem dX11_waysBy_34 : decode cX11_waysBy 34 = .ok (.goto 39, 3) := by decide +kernel
theorem dX11_waysBy_37 : decode cX11_waysBy 37 = .ok (.iconst 0, 1) := by decide +kernel
theorem dX11_waysBy_38 : decode cX11_waysBy 38 = .ok (.goto 35, 3) := by decide +kernel
theorem dX11_waysBy_41 : decode cX11_waysBy 41 = .ok (.iload_n 1, 1) := by decide +kernel
theorem dX11_waysBy_42 : decode cX11_waysBy 42 = .ok (.iconst 1, 1) := by decide +kernel
theorem dX11_waysBy_43 : decode cX11_waysBy 43 = .ok (.if_icmp .ne 18, 3) := by decide +kernel
theorem dX11_waysBy_46 : decode cX11_waysBy 46 = .ok (.iload 4, 2) := by decide +kernel
theorem dX11_waysBy_48 : decode cX11_waysBy 48 = .ok (.iload 5, 2) := by decide +kernel
theorem dX11_waysBy_50 : decode cX11_waysBy 50 = .ok (.if_icmp .ge 7, 3) := by decide +kernel
theorem dX11_waysBy_53 : decode cX11_waysBy 53 = .ok (.iconst 1, 1) := by decide +kernel
theorem dX11_waysBy_54 : decode cX11_waysBy 54 = .ok (.goto 19, 3) := by decide +kernel
theorem dX11_waysBy_57 : decode cX11_waysBy 57 = .ok (.iconst 0, 1) := by decide +kernel
theorem dX11_waysBy_58 : decode cX11_waysBy 58 = .ok (.goto 15, 3) := by decide +kernel
theorem dX11_waysBy_61 : decode cX11_waysBy 61 = .ok (.iload 4, 2) := by decide +kernel
theorem dX11_waysBy_63 : decode cX11_waysBy 63 = .ok (.iload 5, 2) := by decide +kernel
theorem dX11_waysBy_65 : decode cX11_waysBy 65 = .ok (.if_icmp .ne 7, 3) := by decide +kernel
theorem dX11_waysBy_68 : decode cX11_waysBy 68 = .ok (.iconst 1, 1) := by decide +kernel
theorem dX11_waysBy_69 : decode cX11_waysBy 69 = .ok (.goto 4, 3) := by decide +kernel
theorem dX11_waysBy_72 : decode cX11_waysBy 72 = .ok (.iconst 0, 1) := by decide +kernel
theorem dX11_waysBy_73 : decode cX11_waysBy 73 = .ok (.istore 6, 2) := by decide +kernel
theorem dX11_waysBy_75 : decode cX11_waysBy 75 = .ok (.lload_n 2, 1) := by decide +kernel
theorem dX11_waysBy_76 : decode cX11_waysBy 76 = .ok (.iload 6, 2) := by decide +kernel
theorem dX11_waysBy_78 : decode cX11_waysBy 78 = .ok (.ifCond .eq 32, 3) := by decide +kernel
theorem dX11_waysBy_81 : decode cX11_waysBy 81 = .ok (.aload_n 0, 1) := by decide +kernel
theorem dX11_waysBy_82 : decode cX11_waysBy 82 = .ok (.aload_n 0, 1) := by decide +kernel
theorem dX11_waysBy_83 : decode cX11_waysBy 83 = .ok (.getfield 28, 3) := by decide +kernel
theorem dX11_waysBy_86 : decode cX11_waysBy 86 = .ok (.iconst 0, 1) := by decide +kernel
theorem dX11_waysBy_87 : decode cX11_waysBy 87 = .ok (.iaload, 1) := by decide +kernel
theorem dX11_waysBy_88 : decode cX11_waysBy 88 = .ok (.iload 4, 2) := by decide +kernel
theorem dX11_waysBy_90 : decode cX11_waysBy 90 = .ok (.invokevirtual 61, 3) := by decide +kernel
theorem dX11_waysBy_93 : decode cX11_waysBy 93 = .ok (.aload_n 0, 1) := by decide +kernel
theorem dX11_waysBy_94 : decode cX11_waysBy 94 = .ok (.aload_n 0, 1) := by decide +kernel
theorem dX11_waysBy_95 : decode cX11_waysBy 95 = .ok (.getfield 28, 3) := by decide +kernel
theorem dX11_waysBy_98 : decode cX11_waysBy 98 = .ok (.iconst 1, 1) := by decide +kernel
theorem dX11_waysBy_99 : decode cX11_waysBy 99 = .ok (.iaload, 1) := by decide +kernel
theorem dX11_waysBy_100 : decode cX11_waysBy 100 = .ok (.iload 5, 2) := by decide +kernel
theorem dX11_waysBy_102 : decode cX11_waysBy 102 = .ok (.invokevirtual 61, 3) := by decide +kernel
theorem dX11_waysBy_105 : decode cX11_waysBy 105 = .ok (.imul, 1) := by decide +kernel
theorem dX11_waysBy_106 : decode cX11_waysBy 106 = .ok (.i2l, 1) := by decide +kernel
theorem dX11_waysBy_107 : decode cX11_waysBy 107 = .ok (.goto 4, 3) := by decide +kernel
theorem dX11_waysBy_110 : decode cX11_waysBy 110 = .ok (.lconst 0, 1) := by decide +kernel
theorem dX11_waysBy_111 : decode cX11_waysBy 111 = .ok (.ladd, 1) := by decide +kernel
theorem dX11_waysBy_112 : decode cX11_waysBy 112 = .ok (.lstore_n 2, 1) := by decide +kernel
theorem dX11_waysBy_113 : decode cX11_waysBy 113 = .ok (.iinc 5 1, 3) := by decide +kernel
theorem dX11_waysBy_116 : decode cX11_waysBy 116 = .ok (.goto (-101), 3) := by decide +kernel
theorem dX11_waysBy_119 : decode cX11_waysBy 119 = .ok (.iinc 4 1, 3) := by decide +kernel
theorem dX11_waysBy_122 : decode cX11_waysBy 122 = .ok (.goto (-117), 3) := by decide +kernel
theorem dX11_waysBy_125 : decode cX11_waysBy 125 = .ok (.lload_n 2, 1) := by decide +kernel
theorem dX11_waysBy_126 : decode cX11_waysBy 126 = .ok (.lreturn, 1) := by decide +kernel
set_option maxRecDepth 20000 in
theorem ggX11_waysOfBoth_X11_allWays : GoodIn wsX11_waysOfBoth wsX11_allWays := goodIn_r _ [6, 7, 8, 9, 5, 10, 11, 12, 13, 14, 15, 16, 17, 18, 19, 20, 21, 22, 23, 24, 25, 26, 27, 28, 29, 30, 31, 32, 33, 34, 35, 36, 37, 38, 39, 40] (by decide +kernel) (by decide +kernel)
set_option maxRecDepth 20000 in
theorem gX11_waysOfBoth_X11_allWays : GoodIn wsX11_waysOfBoth (wsV RX11 130 RX11 yX11_allWays wsX11_allWays) := goodIn_app (goodIn_of _ (by decide +kernel)) ggX11_waysOfBoth_X11_allWays
theorem dX11_waysOfBoth_0 : decode cX11_waysOfBoth 0 = .ok (.aload_n 0, 1) := by decide +kernel
theorem dX11_waysOfBoth_1 : decode cX11_waysOfBoth 1 = .ok (.aload_n 0, 1) := by decide +kernel
theorem dX11_waysOfBoth_2 : decode cX11_waysOfBoth 2 = .ok (.getfield 28, 3) := by decide +kernel
theorem dX11_waysOfBoth_5 : decode cX11_waysOfBoth 5 = .ok (.iconst 0, 1) := by decide +kernel
theorem dX11_waysOfBoth_6 : decode cX11_waysOfBoth 6 = .ok (.iaload, 1) := by decide +kernel
theorem dX11_waysOfBoth_7 : decode cX11_waysOfBoth 7 = .ok (.invokevirtual 130, 3) := by decide +kernel
theorem dX11_waysOfBoth_10 : decode cX11_waysOfBoth 10 = .ok (.aload_n 0, 1) := by decide +kernel
theorem dX11_waysOfBoth_11 : decode cX11_waysOfBoth 11 = .ok (.aload_n 0, 1) := by decide +kernel
theorem dX11_waysOfBoth_12 : decode cX11_waysOfBoth 12 = .ok (.getfield 28, 3) := by decide +kernel
theorem dX11_waysOfBoth_15 : decode cX11_waysOfBoth 15 = .ok (.iconst 1, 1) := by decide +kernel
theorem dX11_waysOfBoth_16 : decode cX11_waysOfBoth 16 = .ok (.iaload, 1) := by decide +kernel
theorem dX11_waysOfBoth_17 : decode cX11_waysOfBoth 17 = .ok (.invokevirtual 130, 3) := by decide +kernel
theorem dX11_waysOfBoth_20 : decode cX11_waysOfBoth 20 = .ok (.imul, 1) := by decide +kernel
theorem dX11_waysOfBoth_21 : decode cX11_waysOfBoth 21 = .ok (.i2l, 1) := by decide +kernel
theorem dX11_waysOfBoth_22 : decode cX11_waysOfBoth 22 = .ok (.lreturn, 1) := by decide +kernel
set_option maxRecDepth 20000 in
theorem ggX11_oddsOf_X11_waysBy : GoodIn wsX11_oddsOf wsX11_waysBy := goodIn_r _ [5, 6, 7, 8, 9, 4, 10, 11, 12, 24, 25, 26, 27, 28, 29, 30, 31, 32, 33, 34, 35, 36, 37, 38, 39, 40, 41, 42, 43, 44, 45, 46, 47, 48, 49, 50, 51] (by decide +kernel) (by decide +kernel)
set_option maxRecDepth 20000 in
theorem gX11_oddsOf_X11_waysBy : GoodIn wsX11_oddsOf (wsV RX11 159 RX11 yX11_waysBy wsX11_waysBy) := goodIn_app (goodIn_of _ (by decide +kernel)) ggX11_oddsOf_X11_waysBy
set_option maxRecDepth 20000 in
theorem ggX11_oddsOf_X11_waysOfBoth : GoodIn wsX11_oddsOf wsX11_waysOfBoth := goodIn_r _ [16, 6, 17, 18, 19, 4, 20, 7, 8, 9, 10, 11, 12, 24, 25, 26, 27, 28, 29, 30, 31, 32, 33, 34, 35, 36, 37, 38, 39, 40, 41, 42, 43, 44, 45, 46, 47, 48, 49, 50, 51] (by decide +kernel) (by decide +kernel)
set_option maxRecDepth 20000 in
theorem gX11_oddsOf_X11_waysOfBoth : GoodIn wsX11_oddsOf (wsV RX11 163 RX11 yX11_waysOfBoth wsX11_waysOfBoth) := goodIn_app (goodIn_of _ (by decide +kernel)) ggX11_oddsOf_X11_waysOfBoth
set_option maxRecDepth 20000 in
theorem ggX11_oddsOf_X11_common : GoodIn wsX11_oddsOf wsX11_common := goodIn_r _ [23] (by decide +kernel) (by decide +kernel)
set_option maxRecDepth 20000 in
theorem gX11_oddsOf_X11_common : GoodIn wsX11_oddsOf (va_wsS RX11 167 yX11_common wsX11_common) := goodIn_app (goodIn_of _ (by decide +kernel)) ggX11_oddsOf_X11_common
theorem dX11_oddsOf_0 : decode cX11_oddsOf 0 = .ok (.aload_n 0, 1) := by decide +kernel
theorem dX11_oddsOf_1 : decode cX11_oddsOf 1 = .ok (.iload_n 1, 1) := by decide +kernel
theorem dX11_oddsOf_2 : decode cX11_oddsOf 2 = .ok (.iconst 2, 1) := by decide +kernel
theorem dX11_oddsOf_3 : decode cX11_oddsOf 3 = .ok (.idiv, 1) := by decide +kernel
theorem dX11_oddsOf_4 : decode cX11_oddsOf 4 = .ok (.invokevirtual 159, 3) := by decide +kernel
theorem dX11_oddsOf_7 : decode cX11_oddsOf 7 = .ok (.lstore_n 2, 1) := by decide +kernel
theorem dX11_oddsOf_8 : decode cX11_oddsOf 8 = .ok (.aload_n 0, 1) := by decide +kernel
theorem dX11_oddsOf_9 : decode cX11_oddsOf 9 = .ok (.invokevirtual 163, 3) := by decide +kernel
theorem dX11_oddsOf_12 : decode cX11_oddsOf 12 = .ok (.lload_n 2, 1) := by decide +kernel
theorem dX11_oddsOf_13 : decode cX11_oddsOf 13 = .ok (.invokestatic 167, 3) := by decide +kernel
theorem dX11_oddsOf_16 : decode cX11_oddsOf 16 = .ok (.lstore 4, 2) := by decide +kernel
theorem dX11_oddsOf_18 : decode cX11_oddsOf 18 = .ok (.iload_n 1, 1) := by decide +kernel
theorem dX11_oddsOf_19 : decode cX11_oddsOf 19 = .ok (.iconst 2, 1) := by decide +kernel
theorem dX11_oddsOf_20 : decode cX11_oddsOf 20 = .ok (.irem, 1) := by decide +kernel
theorem dX11_oddsOf_21 : decode cX11_oddsOf 21 = .ok (.ifCond .ne 10, 3) := by decide +kernel
theorem dX11_oddsOf_24 : decode cX11_oddsOf 24 = .ok (.lload_n 2, 1) := by decide +kernel
theorem dX11_oddsOf_25 : decode cX11_oddsOf 25 = .ok (.lload 4, 2) := by decide +kernel
theorem dX11_oddsOf_27 : decode cX11_oddsOf 27 = .ok (.ldiv, 1) := by decide +kernel
theorem dX11_oddsOf_28 : decode cX11_oddsOf 28 = .ok (.goto 10, 3) := by decide +kernel
theorem dX11_oddsOf_31 : decode cX11_oddsOf 31 = .ok (.aload_n 0, 1) := by decide +kernel
theorem dX11_oddsOf_32 : decode cX11_oddsOf 32 = .ok (.invokevirtual 163, 3) := by decide +kernel
theorem dX11_oddsOf_35 : decode cX11_oddsOf 35 = .ok (.lload 4, 2) := by decide +kernel
theorem dX11_oddsOf_37 : decode cX11_oddsOf 37 = .ok (.ldiv, 1) := by decide +kernel
theorem dX11_oddsOf_38 : decode cX11_oddsOf 38 = .ok (.l2i, 1) := by decide +kernel
theorem dX11_oddsOf_39 : decode cX11_oddsOf 39 = .ok (.ireturn, 1) := by decide +kernel
set_option maxRecDepth 20000 in
theorem ggX11_odds_X11_in : GoodIn wsX11_odds wsX11_in := goodIn_r _ [5] (by decide +kernel) (by decide +kernel)
set_option maxRecDepth 20000 in
theorem gX11_odds_X11_in : GoodIn wsX11_odds (va_wsS RX11 67 yX11_in wsX11_in) := goodIn_app (goodIn_of _ (by decide +kernel)) ggX11_odds_X11_in
set_option maxRecDepth 20000 in
theorem ggX11_odds_X11_lacks : GoodIn wsX11_odds wsX11_lacks := goodIn_r _ [9, 10, 37, 38, 39, 40, 41, 42, 43, 44, 45, 46, 47, 48, 49, 50, 51, 52, 53, 54, 55, 56, 57, 58, 59, 60, 61, 62, 63, 64] (by decide +kernel) (by decide +kernel)
set_option maxRecDepth 20000 in
theorem gX11_odds_X11_lacks : GoodIn wsX11_odds (wsV RX11 121 RX11 yX11_lacks wsX11_lacks) := goodIn_app (goodIn_of _ (by decide +kernel)) ggX11_odds_X11_lacks
set_option maxRecDepth 20000 in
theorem ggX11_odds_X11_oddsOf : GoodIn wsX11_odds wsX11_oddsOf := goodIn_r _ [14, 15, 16, 17, 4, 18, 19, 20, 21, 22, 23, 24, 25, 26, 27, 28, 29, 30, 31, 32, 33, 34, 35, 36, 37, 38, 39, 40, 41, 42, 43, 44, 45, 46, 47, 48, 49, 50, 51, 52, 53, 54, 55, 56, 57, 58, 59, 60, 61, 62, 63, 64] (by decide +kernel) (by decide +kernel)
set_option maxRecDepth 20000 in
theorem gX11_odds_X11_oddsOf : GoodIn wsX11_odds (wsV RX11 171 RX11 yX11_oddsOf wsX11_oddsOf) := goodIn_app (goodIn_of _ (by decide +kernel)) ggX11_odds_X11_oddsOf
theorem dX11_odds_0 : decode cX11_odds 0 = .ok (.iload_n 1, 1) := by decide +kernel
theorem dX11_odds_1 : decode cX11_odds 1 = .ok (.i2l, 1) := by decide +kernel
theorem dX11_odds_2 : decode cX11_odds 2 = .ok (.lconst 0, 1) := by decide +kernel
theorem dX11_odds_3 : decode cX11_odds 3 = .ok (.ldc2_w 128, 3) := by decide +kernel
theorem dX11_odds_6 : decode cX11_odds 6 = .ok (.invokestatic 67, 3) := by decide +kernel
theorem dX11_odds_9 : decode cX11_odds 9 = .ok (.ifCond .ne 6, 3) := by decide +kernel
theorem dX11_odds_12 : decode cX11_odds 12 = .ok (.bipush (-102), 2) := by decide +kernel
theorem dX11_odds_14 : decode cX11_odds 14 = .ok (.ireturn, 1) := by decide +kernel
theorem dX11_odds_15 : decode cX11_odds 15 = .ok (.aload_n 0, 1) := by decide +kernel
theorem dX11_odds_16 : decode cX11_odds 16 = .ok (.invokevirtual 121, 3) := by decide +kernel
theorem dX11_odds_19 : decode cX11_odds 19 = .ok (.ifCond .eq 8, 3) := by decide +kernel
theorem dX11_odds_22 : decode cX11_odds 22 = .ok (.bipush (-103), 2) := by decide +kernel
theorem dX11_odds_24 : decode cX11_odds 24 = .ok (.goto 8, 3) := by decide +kernel
theorem dX11_odds_27 : decode cX11_odds 27 = .ok (.aload_n 0, 1) := by decide +kernel
theorem dX11_odds_28 : decode cX11_odds 28 = .ok (.iload_n 1, 1) := by decide +kernel
theorem dX11_odds_29 : decode cX11_odds 29 = .ok (.invokevirtual 171, 3) := by decide +kernel
theorem dX11_odds_32 : decode cX11_odds 32 = .ok (.ireturn, 1) := by decide +kernel
set_option maxRecDepth 20000 in
theorem ggX11_backOf_X11_isKings : GoodIn wsX11_backOf wsX11_isKings := goodIn_r _ [9, 2, 32, 33, 34, 35, 36, 37, 38, 39, 40, 41, 42, 43, 44, 45, 46, 47, 48, 49, 50, 51, 52, 53, 54, 55, 56, 57, 58, 59] (by decide +kernel) (by decide +kernel)
set_option maxRecDepth 20000 in
theorem gX11_backOf_X11_isKings : GoodIn wsX11_backOf (wsV RX11 145 RX11 yX11_isKings wsX11_isKings) := goodIn_app (goodIn_of _ (by decide +kernel)) ggX11_backOf_X11_isKings
set_option maxRecDepth 20000 in
theorem ggX11_backOf_X11_waysBy : GoodIn wsX11_backOf wsX11_waysBy := goodIn_r _ [13, 14, 15, 16, 17, 8, 18, 19, 20, 32, 33, 34, 35, 36, 37, 38, 39, 40, 41, 42, 43, 44, 45, 46, 47, 48, 49, 50, 51, 52, 53, 54, 55, 56, 57, 58, 59] (by decide +kernel) (by decide +kernel)
set_option maxRecDepth 20000 in
theorem gX11_backOf_X11_waysBy : GoodIn wsX11_backOf (wsV RX11 159 RX11 yX11_waysBy wsX11_waysBy) := goodIn_app (goodIn_of _ (by decide +kernel)) ggX11_backOf_X11_waysBy
set_option maxRecDepth 20000 in
theorem ggX11_backOf_X11_waysOfBoth : GoodIn wsX11_backOf wsX11_waysOfBoth := goodIn_r _ [24, 14, 25, 26, 27, 8, 28, 15, 16, 17, 18, 19, 20, 32, 33, 34, 35, 36, 37, 38, 39, 40, 41, 42, 43, 44, 45, 46, 47, 48, 49, 50, 51, 52, 53, 54, 55, 56, 57, 58, 59] (by decide +kernel) (by decide +kernel)
set_option maxRecDepth 20000 in
theorem gX11_backOf_X11_waysOfBoth : GoodIn wsX11_backOf (wsV RX11 163 RX11 yX11_waysOfBoth wsX11_waysOfBoth) := goodIn_app (goodIn_of _ (by decide +kernel)) ggX11_backOf_X11_waysOfBoth
set_option maxRecDepth 20000 in
theorem ggX11_backOf_X11_common : GoodIn wsX11_backOf wsX11_common := goodIn_r _ [31] (by decide +kernel) (by decide +kernel)
set_option maxRecDepth 20000 in
theorem gX11_backOf_X11_common : GoodIn wsX11_backOf (va_wsS RX11 167 yX11_common wsX11_common) := goodIn_app (goodIn_of _ (by decide +kernel)) ggX11_backOf_X11_common
theorem dX11_backOf_0 : decode cX11_backOf 0 = .ok (.iconst 0, 1) := by decide +kernel
theorem dX11_backOf_1 : decode cX11_backOf 1 = .ok (.istore 4, 2) := by decide +kernel
theorem dX11_backOf_3 : decode cX11_backOf 3 = .ok (.iconst 0, 1) := by decide +kernel
theorem dX11_backOf_4 : decode cX11_backOf 4 = .ok (.istore 5, 2) := by decide +kernel
theorem dX11_backOf_6 : decode cX11_backOf 6 = .ok (.iload 5, 2) := by decide +kernel
theorem dX11_backOf_8 : decode cX11_backOf 8 = .ok (.aload_n 0, 1) := by decide +kernel
theorem dX11_backOf_9 : decode cX11_backOf 9 = .ok (.getfield 102, 3) := by decide +kernel
theorem dX11_backOf_12 : decode cX11_backOf 12 = .ok (.if_icmp .ge 54, 3) := by decide +kernel
theorem dX11_backOf_15 : decode cX11_backOf 15 = .ok (.iload 4, 2) := by decide +kernel
theorem dX11_backOf_17 : decode cX11_backOf 17 = .ok (.aload_n 0, 1) := by decide +kernel
theorem dX11_backOf_18 : decode cX11_backOf 18 = .ok (.iload 5, 2) := by decide +kernel
theorem dX11_backOf_20 : decode cX11_backOf 20 = .ok (.invokevirtual 145, 3) := by decide +kernel
theorem dX11_backOf_23 : decode cX11_backOf 23 = .ok (.ifCond .eq 33, 3) := by decide +kernel
theorem dX11_backOf_26 : decode cX11_backOf 26 = .ok (.aload_n 0, 1) := by decide +kernel
theorem dX11_backOf_27 : decode cX11_backOf 27 = .ok (.getfield 25, 3) := by decide +kernel
theorem dX11_backOf_30 : decode cX11_backOf 30 = .ok (.bipush 6, 2) := by decide +kernel
theorem dX11_backOf_32 : decode cX11_backOf 32 = .ok (.iload 5, 2) := by decide +kernel
theorem dX11_backOf_34 : decode cX11_backOf 34 = .ok (.imul, 1) := by decide +kernel
theorem dX11_backOf_35 : decode cX11_backOf 35 = .ok (.iconst 1, 1) := by decide +kernel
theorem dX11_backOf_36 : decode cX11_backOf 36 = .ok (.iadd, 1) := by decide +kernel
theorem dX11_backOf_37 : decode cX11_backOf 37 = .ok (.iaload, 1) := by decide +kernel
theorem dX11_backOf_38 : decode cX11_backOf 38 = .ok (.aload_n 0, 1) := by decide +kernel
theorem dX11_backOf_39 : decode cX11_backOf 39 = .ok (.getfield 25, 3) := by decide +kernel
theorem dX11_backOf_42 : decode cX11_backOf 42 = .ok (.bipush 6, 2) := by decide +kernel
theorem dX11_backOf_44 : decode cX11_backOf 44 = .ok (.iload_n 1, 1) := by decide +kernel
theorem dX11_backOf_45 : decode cX11_backOf 45 = .ok (.imul, 1) := by decide +kernel
theorem dX11_backOf_46 : decode cX11_backOf 46 = .ok (.iconst 1, 1) := by decide +kernel
theorem dX11_backOf_47 : decode cX11_backOf 47 = .ok (.iadd, 1) := by decide +kernel
theorem dX11_backOf_48 : decode cX11_backOf 48 = .ok (.iaload, 1) := by decide +kernel
theorem dX11_backOf_49 : decode cX11_backOf 49 = .ok (.if_icmp .lt 7, 3) := by decide +kernel
theorem dX11_backOf_52 : decode cX11_backOf 52 = .ok (.iconst 1, 1) := by decide +kernel
theorem dX11_backOf_53 : decode cX11_backOf 53 = .ok (.goto 4, 3) := by decide +kernel
theorem dX11_backOf_56 : decode cX11_backOf 56 = .ok (.iconst 0, 1) := by decide +kernel
theorem dX11_backOf_57 : decode cX11_backOf 57 = .ok (.iadd, 1) := by decide +kernel
theorem dX11_backOf_58 : decode cX11_backOf 58 = .ok (.istore 4, 2) := by decide +kernel
theorem dX11_backOf_60 : decode cX11_backOf 60 = .ok (.iinc 5 1, 3) := by decide +kernel
theorem dX11_backOf_63 : decode cX11_backOf 63 = .ok (.goto (-57), 3) := by decide +kernel
theorem dX11_backOf_66 : decode cX11_backOf 66 = .ok (.lconst 1, 1) := by decide +kernel
theorem dX11_backOf_67 : decode cX11_backOf 67 = .ok (.lstore 5, 2) := by decide +kernel
theorem dX11_backOf_69 : decode cX11_backOf 69 = .ok (.iconst 0, 1) := by decide +kernel
theorem dX11_backOf_70 : decode cX11_backOf 70 = .ok (.istore 7, 2) := by decide +kernel
theorem dX11_backOf_72 : decode cX11_backOf 72 = .ok (.iload 7, 2) := by decide +kernel
theorem dX11_backOf_74 : decode cX11_backOf 74 = .ok (.bipush 7, 2) := by decide +kernel
theorem dX11_backOf_76 : decode cX11_backOf 76 = .ok (.if_icmp .ge 17, 3) := by decide +kernel
theorem dX11_backOf_79 : decode cX11_backOf 79 = .ok (.aload_n 0, 1) := by decide +kernel
theorem dX11_backOf_80 : decode cX11_backOf 80 = .ok (.getfield 31, 3) := by decide +kernel
theorem dX11_backOf_83 : decode cX11_backOf 83 = .ok (.iload 7, 2) := by decide +kernel
theorem dX11_backOf_85 : decode cX11_backOf 85 = .ok (.lconst 0, 1) := by decide +kernel
theorem dX11_backOf_86 : decode cX11_backOf 86 = .ok (.lastore, 1) := by decide +kernel
theorem dX11_backOf_87 : decode cX11_backOf 87 = .ok (.iinc 7 1, 3) := by decide +kernel
theorem dX11_backOf_90 : decode cX11_backOf 90 = .ok (.goto (-18), 3) := by decide +kernel
theorem dX11_backOf_93 : decode cX11_backOf 93 = .ok (.iconst 0, 1) := by decide +kernel
theorem dX11_backOf_94 : decode cX11_backOf 94 = .ok (.istore 7, 2) := by decide +kernel
theorem dX11_backOf_96 : decode cX11_backOf 96 = .ok (.iload 7, 2) := by decide +kernel
theorem dX11_backOf_98 : decode cX11_backOf 98 = .ok (.iload_n 2, 1) := by decide +kernel
theorem dX11_backOf_99 : decode cX11_backOf 99 = .ok (.if_icmp .ge 116, 3) := by decide +kernel
theorem dX11_backOf_102 : decode cX11_backOf 102 = .ok (.aload_n 0, 1) := by decide +kernel
theorem dX11_backOf_103 : decode cX11_backOf 103 = .ok (.getfield 35, 3) := by decide +kernel
theorem dX11_backOf_106 : decode cX11_backOf 106 = .ok (.iconst 0, 1) := by decide +kernel
theorem dX11_backOf_107 : decode cX11_backOf 107 = .ok (.lconst 0, 1) := by decide +kernel
theorem dX11_backOf_108 : decode cX11_backOf 108 = .ok (.lastore, 1) := by decide +kernel
theorem dX11_backOf_109 : decode cX11_backOf 109 = .ok (.iconst 1, 1) := by decide +kernel
theorem dX11_backOf_110 : decode cX11_backOf 110 = .ok (.istore 8, 2) := by decide +kernel
theorem dX11_backOf_112 : decode cX11_backOf 112 = .ok (.iload 8, 2) := by decide +kernel
theorem dX11_backOf_114 : decode cX11_backOf 114 = .ok (.bipush 7, 2) := by decide +kernel
theorem dX11_backOf_116 : decode cX11_backOf 116 = .ok (.if_icmp .ge 54, 3) := by decide +kernel
theorem dX11_backOf_119 : decode cX11_backOf 119 = .ok (.aload_n 0, 1) := by decide +kernel
theorem dX11_backOf_120 : decode cX11_backOf 120 = .ok (.getfield 35, 3) := by decide +kernel
theorem dX11_backOf_123 : decode cX11_backOf 123 = .ok (.iload 8, 2) := by decide +kernel
theorem dX11_backOf_125 : decode cX11_backOf 125 = .ok (.aload_n 0, 1) := by decide +kernel
theorem dX11_backOf_126 : decode cX11_backOf 126 = .ok (.iconst 0, 1) := by decide +kernel
theorem dX11_backOf_127 : decode cX11_backOf 127 = .ok (.invokevirtual 159, 3) := by decide +kernel
theorem dX11_backOf_130 : decode cX11_backOf 130 = .ok (.lload 5, 2) := by decide +kernel
theorem dX11_backOf_132 : decode cX11_backOf 132 = .ok (.lmul, 1) := by decide +kernel
theorem dX11_backOf_133 : decode cX11_backOf 133 = .ok (.aload_n 0, 1) := by decide +kernel
theorem dX11_backOf_134 : decode cX11_backOf 134 = .ok (.iconst 2, 1) := by decide +kernel
theorem dX11_backOf_135 : decode cX11_backOf 135 = .ok (.invokevirtual 159, 3) := by decide +kernel
theorem dX11_backOf_138 : decode cX11_backOf 138 = .ok (.aload_n 0, 1) := by decide +kernel
theorem dX11_backOf_139 : decode cX11_backOf 139 = .ok (.getfield 31, 3) := by decide +kernel
theorem dX11_backOf_142 : decode cX11_backOf 142 = .ok (.iload 8, 2) := by decide +kernel
theorem dX11_backOf_144 : decode cX11_backOf 144 = .ok (.laload, 1) := by decide +kernel
theorem dX11_backOf_145 : decode cX11_backOf 145 = .ok (.lmul, 1) := by decide +kernel
theorem dX11_backOf_146 : decode cX11_backOf 146 = .ok (.ladd, 1) := by decide +kernel
theorem dX11_backOf_147 : decode cX11_backOf 147 = .ok (.aload_n 0, 1) := by decide +kernel
theorem dX11_backOf_148 : decode cX11_backOf 148 = .ok (.iconst 1, 1) := by decide +kernel
theorem dX11_backOf_149 : decode cX11_backOf 149 = .ok (.invokevirtual 159, 3) := by decide +kernel
theorem dX11_backOf_152 : decode cX11_backOf 152 = .ok (.aload_n 0, 1) := by decide +kernel
theorem dX11_backOf_153 : decode cX11_backOf 153 = .ok (.getfield 31, 3) := by decide +kernel
theorem dX11_backOf_156 : decode cX11_backOf 156 = .ok (.iload 8, 2) := by decide +kernel
theorem dX11_backOf_158 : decode cX11_backOf 158 = .ok (.iconst 1, 1) := by decide +kernel
theorem dX11_backOf_159 : decode cX11_backOf 159 = .ok (.isub, 1) := by decide +kernel
theorem dX11_backOf_160 : decode cX11_backOf 160 = .ok (.laload, 1) := by decide +kernel
theorem dX11_backOf_161 : decode cX11_backOf 161 = .ok (.lmul, 1) := by decide +kernel
theorem dX11_backOf_162 : decode cX11_backOf 162 = .ok (.ladd, 1) := by decide +kernel
theorem dX11_backOf_163 : decode cX11_backOf 163 = .ok (.lastore, 1) := by decide +kernel
theorem dX11_backOf_164 : decode cX11_backOf 164 = .ok (.iinc 8 1, 3) := by decide +kernel
theorem dX11_backOf_167 : decode cX11_backOf 167 = .ok (.goto (-55), 3) := by decide +kernel
theorem dX11_backOf_170 : decode cX11_backOf 170 = .ok (.iconst 0, 1) := by decide +kernel
theorem dX11_backOf_171 : decode cX11_backOf 171 = .ok (.istore 8, 2) := by decide +kernel
theorem dX11_backOf_173 : decode cX11_backOf 173 = .ok (.iload 8, 2) := by decide +kernel
theorem dX11_backOf_175 : decode cX11_backOf 175 = .ok (.bipush 7, 2) := by decide +kernel
theorem dX11_backOf_177 : decode cX11_backOf 177 = .ok (.if_icmp .ge 23, 3) := by decide +kernel
theorem dX11_backOf_180 : decode cX11_backOf 180 = .ok (.aload_n 0, 1) := by decide +kernel
theorem dX11_backOf_181 : decode cX11_backOf 181 = .ok (.getfield 31, 3) := by decide +kernel
theorem dX11_backOf_184 : decode cX11_backOf 184 = .ok (.iload 8, 2) := by decide +kernel
theorem dX11_backOf_186 : decode cX11_backOf 186 = .ok (.aload_n 0, 1) := by decide +kernel
theorem dX11_backOf_187 : decode cX11_backOf 187 = .ok (.getfield 35, 3) := by decide +kernel
theorem dX11_backOf_190 : decode cX11_backOf 190 = .ok (.iload 8, 2) := by decide +kernel
theorem dX11_backOf_192 : decode cX11_backOf 192 = .ok (.laload, 1) := by decide +kernel
theorem dX11_backOf_193 : decode cX11_backOf 193 = .ok (.lastore, 1) := by decide +kernel
theorem dX11_backOf_194 : decode cX11_backOf 194 = .ok (.iinc 8 1, 3) := by decide +kernel
theorem dX11_backOf_197 : decode cX11_backOf 197 = .ok (.goto (-24), 3) := by decide +kernel
theorem dX11_backOf_200 : decode cX11_backOf 200 = .ok (.lload 5, 2) := by decide +kernel
theorem dX11_backOf_202 : decode cX11_backOf 202 = .ok (.aload_n 0, 1) := by decide +kernel
theorem dX11_backOf_203 : decode cX11_backOf 203 = .ok (.invokevirtual 163, 3) := by decide +kernel
theorem dX11_backOf_206 : decode cX11_backOf 206 = .ok (.lmul, 1) := by decide +kernel
theorem dX11_backOf_207 : decode cX11_backOf 207 = .ok (.lstore 5, 2) := by decide +kernel
theorem dX11_backOf_209 : decode cX11_backOf 209 = .ok (.iinc 7 1, 3) := by decide +kernel
theorem dX11_backOf_212 : decode cX11_backOf 212 = .ok (.goto (-116), 3) := by decide +kernel
theorem dX11_backOf_215 : decode cX11_backOf 215 = .ok (.lload 5, 2) := by decide +kernel
theorem dX11_backOf_217 : decode cX11_backOf 217 = .ok (.aload_n 0, 1) := by decide +kernel
theorem dX11_backOf_218 : decode cX11_backOf 218 = .ok (.getfield 31, 3) := by decide +kernel
theorem dX11_backOf_221 : decode cX11_backOf 221 = .ok (.iload 4, 2) := by decide +kernel
theorem dX11_backOf_223 : decode cX11_backOf 223 = .ok (.laload, 1) := by decide +kernel
theorem dX11_backOf_224 : decode cX11_backOf 224 = .ok (.invokestatic 167, 3) := by decide +kernel
theorem dX11_backOf_227 : decode cX11_backOf 227 = .ok (.lstore 7, 2) := by decide +kernel
theorem dX11_backOf_229 : decode cX11_backOf 229 = .ok (.iload_n 3, 1) := by decide +kernel
theorem dX11_backOf_230 : decode cX11_backOf 230 = .ok (.ifCond .ne 16, 3) := by decide +kernel
theorem dX11_backOf_233 : decode cX11_backOf 233 = .ok (.aload_n 0, 1) := by decide +kernel
theorem dX11_backOf_234 : decode cX11_backOf 234 = .ok (.getfield 31, 3) := by decide +kernel
theorem dX11_backOf_237 : decode cX11_backOf 237 = .ok (.iload 4, 2) := by decide +kernel
theorem dX11_backOf_239 : decode cX11_backOf 239 = .ok (.laload, 1) := by decide +kernel
theorem dX11_backOf_240 : decode cX11_backOf 240 = .ok (.lload 7, 2) := by decide +kernel
theorem dX11_backOf_242 : decode cX11_backOf 242 = .ok (.ldiv, 1) := by decide +kernel
theorem dX11_backOf_243 : decode cX11_backOf 243 = .ok (.goto 8, 3) := by decide +kernel
theorem dX11_backOf_246 : decode cX11_backOf 246 = .ok (.lload 5, 2) := by decide +kernel
theorem dX11_backOf_248 : decode cX11_backOf 248 = .ok (.lload 7, 2) := by decide +kernel
theorem dX11_backOf_250 : decode cX11_backOf 250 = .ok (.ldiv, 1) := by decide +kernel
theorem dX11_backOf_251 : decode cX11_backOf 251 = .ok (.lreturn, 1) := by decide +kernel
set_option maxRecDepth 20000 in
theorem ggX11_back_X11_isThing : GoodIn wsX11_back wsX11_isThing := goodIn_r _ [9, 10, 11, 12, 8, 13, 47, 48, 49, 50, 51, 52, 53, 54, 55, 56, 57, 58, 59, 60, 61, 62, 63, 64, 65, 66, 67, 68, 69, 70, 71, 72, 73, 74] (by decide +kernel) (by decide +kernel)
set_option maxRecDepth 20000 in
theorem gX11_back_X11_isThing : GoodIn wsX11_back (wsV RX11 125 RX11 yX11_isThing wsX11_isThing) := goodIn_app (goodIn_of _ (by decide +kernel)) ggX11_back_X11_isThing
set_option maxRecDepth 20000 in
theorem ggX11_back_X11_in : GoodIn wsX11_back wsX11_in := goodIn_r _ [13] (by decide +kernel) (by decide +kernel)
set_option maxRecDepth 20000 in
theorem gX11_back_X11_in : GoodIn wsX11_back (va_wsS RX11 67 yX11_in wsX11_in) := goodIn_app (goodIn_of _ (by decide +kernel)) ggX11_back_X11_in
set_option maxRecDepth 20000 in
theorem ggX11_back_X11_isKings : GoodIn wsX11_back wsX11_isKings := goodIn_r _ [17, 18, 47, 48, 49, 50, 51, 52, 53, 54, 55, 56, 57, 58, 59, 60, 61, 62, 63, 64, 65, 66, 67, 68, 69, 70, 71, 72, 73, 74] (by decide +kernel) (by decide +kernel)
set_option maxRecDepth 20000 in
theorem gX11_back_X11_isKings : GoodIn wsX11_back (wsV RX11 145 RX11 yX11_isKings wsX11_isKings) := goodIn_app (goodIn_of _ (by decide +kernel)) ggX11_back_X11_isKings
set_option maxRecDepth 20000 in
theorem ggX11_back_X11_backOf : GoodIn wsX11_back wsX11_backOf := goodIn_r _ [22, 10, 18, 23, 24, 14, 15, 16, 8, 17, 25, 26, 27, 28, 29, 30, 31, 32, 33, 34, 35, 36, 37, 38, 39, 40, 41, 42, 43, 44, 45, 46, 47, 48, 49, 50, 51, 52, 53, 54, 55, 56, 57, 58, 59, 60, 61, 62, 63, 64, 65, 66, 67, 68, 69, 70, 71, 72, 73, 74] (by decide +kernel) (by decide +kernel)
set_option maxRecDepth 20000 in
theorem gX11_back_X11_backOf : GoodIn wsX11_back (wsV RX11 180 RX11 yX11_backOf wsX11_backOf) := goodIn_app (goodIn_of _ (by decide +kernel)) ggX11_back_X11_backOf
theorem dX11_back_0 : decode cX11_back 0 = .ok (.aload_n 0, 1) := by decide +kernel
theorem dX11_back_1 : decode cX11_back 1 = .ok (.iload_n 1, 1) := by decide +kernel
theorem dX11_back_2 : decode cX11_back 2 = .ok (.invokevirtual 125, 3) := by decide +kernel
theorem dX11_back_5 : decode cX11_back 5 = .ok (.ifCond .ne 7, 3) := by decide +kernel
theorem dX11_back_8 : decode cX11_back 8 = .ok (.ldc2_w 174, 3) := by decide +kernel
theorem dX11_back_11 : decode cX11_back 11 = .ok (.lreturn, 1) := by decide +kernel
theorem dX11_back_12 : decode cX11_back 12 = .ok (.iload_n 2, 1) := by decide +kernel
theorem dX11_back_13 : decode cX11_back 13 = .ok (.i2l, 1) := by decide +kernel
theorem dX11_back_14 : decode cX11_back 14 = .ok (.lconst 1, 1) := by decide +kernel
theorem dX11_back_15 : decode cX11_back 15 = .ok (.ldc2_w 128, 3) := by decide +kernel
theorem dX11_back_18 : decode cX11_back 18 = .ok (.invokestatic 67, 3) := by decide +kernel
theorem dX11_back_21 : decode cX11_back 21 = .ok (.ifCond .eq 13, 3) := by decide +kernel
theorem dX11_back_24 : decode cX11_back 24 = .ok (.iload_n 3, 1) := by decide +kernel
theorem dX11_back_25 : decode cX11_back 25 = .ok (.i2l, 1) := by decide +kernel
theorem dX11_back_26 : decode cX11_back 26 = .ok (.lconst 0, 1) := by decide +kernel
theorem dX11_back_27 : decode cX11_back 27 = .ok (.lconst 1, 1) := by decide +kernel
theorem dX11_back_28 : decode cX11_back 28 = .ok (.invokestatic 67, 3) := by decide +kernel
theorem dX11_back_31 : decode cX11_back 31 = .ok (.ifCond .ne 7, 3) := by decide +kernel
theorem dX11_back_34 : decode cX11_back 34 = .ok (.ldc2_w 176, 3) := by decide +kernel
theorem dX11_back_37 : decode cX11_back 37 = .ok (.lreturn, 1) := by decide +kernel
theorem dX11_back_38 : decode cX11_back 38 = .ok (.aload_n 0, 1) := by decide +kernel
theorem dX11_back_39 : decode cX11_back 39 = .ok (.iload_n 1, 1) := by decide +kernel
theorem dX11_back_40 : decode cX11_back 40 = .ok (.invokevirtual 145, 3) := by decide +kernel
theorem dX11_back_43 : decode cX11_back 43 = .ok (.ifCond .eq 9, 3) := by decide +kernel
theorem dX11_back_46 : decode cX11_back 46 = .ok (.ldc2_w 178, 3) := by decide +kernel
theorem dX11_back_49 : decode cX11_back 49 = .ok (.goto 10, 3) := by decide +kernel
theorem dX11_back_52 : decode cX11_back 52 = .ok (.aload_n 0, 1) := by decide +kernel
theorem dX11_back_53 : decode cX11_back 53 = .ok (.iload_n 1, 1) := by decide +kernel
theorem dX11_back_54 : decode cX11_back 54 = .ok (.iload_n 2, 1) := by decide +kernel
theorem dX11_back_55 : decode cX11_back 55 = .ok (.iload_n 3, 1) := by decide +kernel
theorem dX11_back_56 : decode cX11_back 56 = .ok (.invokevirtual 180, 3) := by decide +kernel
theorem dX11_back_59 : decode cX11_back 59 = .ok (.lreturn, 1) := by decide +kernel
set_option maxRecDepth 20000 in
theorem ggX11_isByLaw_X11_isKings : GoodIn wsX11_isByLaw wsX11_isKings := goodIn_r _ [6, 1, 7, 8, 9, 10, 11, 12, 13, 14, 15, 16, 17, 18, 19, 20, 21, 22, 23, 24, 25, 26, 27, 28, 29, 30, 31, 32, 33, 34] (by decide +kernel) (by decide +kernel)
set_option maxRecDepth 20000 in
theorem gX11_isByLaw_X11_isKings : GoodIn wsX11_isByLaw (wsV RX11 145 RX11 yX11_isKings wsX11_isKings) := goodIn_app (goodIn_of _ (by decide +kernel)) ggX11_isByLaw_X11_isKings
theorem dX11_isByLaw_0 : decode cX11_isByLaw 0 = .ok (.aload_n 0, 1) := by decide +kernel
theorem dX11_isByLaw_1 : decode cX11_isByLaw 1 = .ok (.getfield 25, 3) := by decide +kernel
theorem dX11_isByLaw_4 : decode cX11_isByLaw 4 = .ok (.bipush 6, 2) := by decide +kernel
theorem dX11_isByLaw_6 : decode cX11_isByLaw 6 = .ok (.iload_n 1, 1) := by decide +kernel
theorem dX11_isByLaw_7 : decode cX11_isByLaw 7 = .ok (.imul, 1) := by decide +kernel
theorem dX11_isByLaw_8 : decode cX11_isByLaw 8 = .ok (.iconst 4, 1) := by decide +kernel
theorem dX11_isByLaw_9 : decode cX11_isByLaw 9 = .ok (.iadd, 1) := by decide +kernel
theorem dX11_isByLaw_10 : decode cX11_isByLaw 10 = .ok (.iaload, 1) := by decide +kernel
theorem dX11_isByLaw_11 : decode cX11_isByLaw 11 = .ok (.ifCond .ne 14, 3) := by decide +kernel
theorem dX11_isByLaw_14 : decode cX11_isByLaw 14 = .ok (.iload_n 2, 1) := by decide +kernel
theorem dX11_isByLaw_15 : decode cX11_isByLaw 15 = .ok (.iconst 2, 1) := by decide +kernel
theorem dX11_isByLaw_16 : decode cX11_isByLaw 16 = .ok (.irem, 1) := by decide +kernel
theorem dX11_isByLaw_17 : decode cX11_isByLaw 17 = .ok (.iconst 1, 1) := by decide +kernel
theorem dX11_isByLaw_18 : decode cX11_isByLaw 18 = .ok (.if_icmp .ne 7, 3) := by decide +kernel
theorem dX11_isByLaw_21 : decode cX11_isByLaw 21 = .ok (.iconst 1, 1) := by decide +kernel
theorem dX11_isByLaw_22 : decode cX11_isByLaw 22 = .ok (.goto 4, 3) := by decide +kernel
theorem dX11_isByLaw_25 : decode cX11_isByLaw 25 = .ok (.iconst 0, 1) := by decide +kernel
theorem dX11_isByLaw_26 : decode cX11_isByLaw 26 = .ok (.istore_n 3, 1) := by decide +kernel
theorem dX11_isByLaw_27 : decode cX11_isByLaw 27 = .ok (.aload_n 0, 1) := by decide +kernel
theorem dX11_isByLaw_28 : decode cX11_isByLaw 28 = .ok (.getfield 25, 3) := by decide +kernel
theorem dX11_isByLaw_31 : decode cX11_isByLaw 31 = .ok (.bipush 6, 2) := by decide +kernel
theorem dX11_isByLaw_33 : decode cX11_isByLaw 33 = .ok (.iload_n 1, 1) := by decide +kernel
theorem dX11_isByLaw_34 : decode cX11_isByLaw 34 = .ok (.imul, 1) := by decide +kernel
theorem dX11_isByLaw_35 : decode cX11_isByLaw 35 = .ok (.iaload, 1) := by decide +kernel
theorem dX11_isByLaw_36 : decode cX11_isByLaw 36 = .ok (.iconst 1, 1) := by decide +kernel
theorem dX11_isByLaw_37 : decode cX11_isByLaw 37 = .ok (.if_icmp .ne 12, 3) := by decide +kernel
theorem dX11_isByLaw_40 : decode cX11_isByLaw 40 = .ok (.iload_n 2, 1) := by decide +kernel
theorem dX11_isByLaw_41 : decode cX11_isByLaw 41 = .ok (.iconst 1, 1) := by decide +kernel
theorem dX11_isByLaw_42 : decode cX11_isByLaw 42 = .ok (.if_icmp .le 7, 3) := by decide +kernel
theorem dX11_isByLaw_45 : decode cX11_isByLaw 45 = .ok (.iconst 1, 1) := by decide +kernel
theorem dX11_isByLaw_46 : decode cX11_isByLaw 46 = .ok (.goto 4, 3) := by decide +kernel
theorem dX11_isByLaw_49 : decode cX11_isByLaw 49 = .ok (.iconst 0, 1) := by decide +kernel
theorem dX11_isByLaw_50 : decode cX11_isByLaw 50 = .ok (.istore 4, 2) := by decide +kernel
theorem dX11_isByLaw_52 : decode cX11_isByLaw 52 = .ok (.aload_n 0, 1) := by decide +kernel
theorem dX11_isByLaw_53 : decode cX11_isByLaw 53 = .ok (.iload_n 1, 1) := by decide +kernel
theorem dX11_isByLaw_54 : decode cX11_isByLaw 54 = .ok (.invokevirtual 145, 3) := by decide +kernel
theorem dX11_isByLaw_57 : decode cX11_isByLaw 57 = .ok (.ifCond .ne 12, 3) := by decide +kernel
theorem dX11_isByLaw_60 : decode cX11_isByLaw 60 = .ok (.iload_n 3, 1) := by decide +kernel
theorem dX11_isByLaw_61 : decode cX11_isByLaw 61 = .ok (.ifCond .ne 8, 3) := by decide +kernel
theorem dX11_isByLaw_64 : decode cX11_isByLaw 64 = .ok (.iload 4, 2) := by decide +kernel
theorem dX11_isByLaw_66 : decode cX11_isByLaw 66 = .ok (.ifCond .eq 7, 3) := by decide +kernel
theorem dX11_isByLaw_69 : decode cX11_isByLaw 69 = .ok (.iconst 1, 1) := by decide +kernel
theorem dX11_isByLaw_70 : decode cX11_isByLaw 70 = .ok (.goto 4, 3) := by decide +kernel
theorem dX11_isByLaw_73 : decode cX11_isByLaw 73 = .ok (.iconst 0, 1) := by decide +kernel
theorem dX11_isByLaw_74 : decode cX11_isByLaw 74 = .ok (.ireturn, 1) := by decide +kernel
set_option maxRecDepth 20000 in
theorem ggX11_lawOf_X11_isByLaw : GoodIn wsX11_lawOf wsX11_isByLaw := goodIn_r _ [7, 2, 8, 9, 10, 6, 11, 12, 13, 14, 15, 16, 17, 18, 19, 20, 21, 22, 23, 24, 25, 26, 27, 28, 29, 30, 31, 32, 33, 34, 35, 36, 37, 38, 39] (by decide +kernel) (by decide +kernel)
set_option maxRecDepth 20000 in
theorem gX11_lawOf_X11_isByLaw : GoodIn wsX11_lawOf (wsV RX11 184 RX11 yX11_isByLaw wsX11_isByLaw) := goodIn_app (goodIn_of _ (by decide +kernel)) ggX11_lawOf_X11_isByLaw
theorem dX11_lawOf_0 : decode cX11_lawOf 0 = .ok (.iconst 0, 1) := by decide +kernel
theorem dX11_lawOf_1 : decode cX11_lawOf 1 = .ok (.istore_n 3, 1) := by decide +kernel
theorem dX11_lawOf_2 : decode cX11_lawOf 2 = .ok (.iconst 0, 1) := by decide +kernel
theorem dX11_lawOf_3 : decode cX11_lawOf 3 = .ok (.istore 4, 2) := by decide +kernel
theorem dX11_lawOf_5 : decode cX11_lawOf 5 = .ok (.iconst 0, 1) := by decide +kernel
theorem dX11_lawOf_6 : decode cX11_lawOf 6 = .ok (.istore 5, 2) := by decide +kernel
theorem dX11_lawOf_8 : decode cX11_lawOf 8 = .ok (.iload 5, 2) := by decide +kernel
theorem dX11_lawOf_10 : decode cX11_lawOf 10 = .ok (.aload_n 0, 1) := by decide +kernel
theorem dX11_lawOf_11 : decode cX11_lawOf 11 = .ok (.getfield 102, 3) := by decide +kernel
theorem dX11_lawOf_14 : decode cX11_lawOf 14 = .ok (.if_icmp .ge 60, 3) := by decide +kernel
theorem dX11_lawOf_17 : decode cX11_lawOf 17 = .ok (.aload_n 0, 1) := by decide +kernel
theorem dX11_lawOf_18 : decode cX11_lawOf 18 = .ok (.iload 5, 2) := by decide +kernel
theorem dX11_lawOf_20 : decode cX11_lawOf 20 = .ok (.iload_n 1, 1) := by decide +kernel
theorem dX11_lawOf_21 : decode cX11_lawOf 21 = .ok (.invokevirtual 184, 3) := by decide +kernel
theorem dX11_lawOf_24 : decode cX11_lawOf 24 = .ok (.istore 6, 2) := by decide +kernel
theorem dX11_lawOf_26 : decode cX11_lawOf 26 = .ok (.iload_n 3, 1) := by decide +kernel
theorem dX11_lawOf_27 : decode cX11_lawOf 27 = .ok (.iload 6, 2) := by decide +kernel
theorem dX11_lawOf_29 : decode cX11_lawOf 29 = .ok (.ifCond .eq 10, 3) := by decide +kernel
theorem dX11_lawOf_32 : decode cX11_lawOf 32 = .ok (.iconst 1, 1) := by decide +kernel
theorem dX11_lawOf_33 : decode cX11_lawOf 33 = .ok (.iload 5, 2) := by decide +kernel
theorem dX11_lawOf_35 : decode cX11_lawOf 35 = .ok (.ishl, 1) := by decide +kernel
theorem dX11_lawOf_36 : decode cX11_lawOf 36 = .ok (.goto 4, 3) := by decide +kernel
theorem dX11_lawOf_39 : decode cX11_lawOf 39 = .ok (.iconst 0, 1) := by decide +kernel
theorem dX11_lawOf_40 : decode cX11_lawOf 40 = .ok (.ior, 1) := by decide +kernel
theorem dX11_lawOf_41 : decode cX11_lawOf 41 = .ok (.istore_n 3, 1) := by decide +kernel
theorem dX11_lawOf_42 : decode cX11_lawOf 42 = .ok (.iload 4, 2) := by decide +kernel
theorem dX11_lawOf_44 : decode cX11_lawOf 44 = .ok (.iload 6, 2) := by decide +kernel
theorem dX11_lawOf_46 : decode cX11_lawOf 46 = .ok (.ifCond .eq 18, 3) := by decide +kernel
theorem dX11_lawOf_49 : decode cX11_lawOf 49 = .ok (.aload_n 0, 1) := by decide +kernel
theorem dX11_lawOf_50 : decode cX11_lawOf 50 = .ok (.getfield 25, 3) := by decide +kernel
theorem dX11_lawOf_53 : decode cX11_lawOf 53 = .ok (.bipush 6, 2) := by decide +kernel
theorem dX11_lawOf_55 : decode cX11_lawOf 55 = .ok (.iload 5, 2) := by decide +kernel
theorem dX11_lawOf_57 : decode cX11_lawOf 57 = .ok (.imul, 1) := by decide +kernel
theorem dX11_lawOf_58 : decode cX11_lawOf 58 = .ok (.iconst 1, 1) := by decide +kernel
theorem dX11_lawOf_59 : decode cX11_lawOf 59 = .ok (.iadd, 1) := by decide +kernel
theorem dX11_lawOf_60 : decode cX11_lawOf 60 = .ok (.iaload, 1) := by decide +kernel
theorem dX11_lawOf_61 : decode cX11_lawOf 61 = .ok (.goto 4, 3) := by decide +kernel
theorem dX11_lawOf_64 : decode cX11_lawOf 64 = .ok (.iconst 0, 1) := by decide +kernel
theorem dX11_lawOf_65 : decode cX11_lawOf 65 = .ok (.iadd, 1) := by decide +kernel
theorem dX11_lawOf_66 : decode cX11_lawOf 66 = .ok (.istore 4, 2) := by decide +kernel
theorem dX11_lawOf_68 : decode cX11_lawOf 68 = .ok (.iinc 5 1, 3) := by decide +kernel
theorem dX11_lawOf_71 : decode cX11_lawOf 71 = .ok (.goto (-63), 3) := by decide +kernel
theorem dX11_lawOf_74 : decode cX11_lawOf 74 = .ok (.iload_n 2, 1) := by decide +kernel
theorem dX11_lawOf_75 : decode cX11_lawOf 75 = .ok (.ifCond .ne 7, 3) := by decide +kernel
theorem dX11_lawOf_78 : decode cX11_lawOf 78 = .ok (.iload_n 3, 1) := by decide +kernel
theorem dX11_lawOf_79 : decode cX11_lawOf 79 = .ok (.goto 5, 3) := by decide +kernel
theorem dX11_lawOf_82 : decode cX11_lawOf 82 = .ok (.iload 4, 2) := by decide +kernel
theorem dX11_lawOf_84 : decode cX11_lawOf 84 = .ok (.ireturn, 1) := by decide +kernel
set_option maxRecDepth 20000 in
theorem ggX11_laws_X11_in : GoodIn wsX11_laws wsX11_in := goodIn_r _ [5] (by decide +kernel) (by decide +kernel)
set_option maxRecDepth 20000 in
theorem gX11_laws_X11_in : GoodIn wsX11_laws (va_wsS RX11 67 yX11_in wsX11_in) := goodIn_app (goodIn_of _ (by decide +kernel)) ggX11_laws_X11_in
set_option maxRecDepth 20000 in
theorem ggX11_laws_X11_lacks : GoodIn wsX11_laws wsX11_lacks := goodIn_r _ [9, 10, 24, 25, 26, 27, 28, 29, 30, 31, 32, 33, 34, 35, 36, 37, 38, 39, 40, 41, 42, 43, 44, 45, 46, 47, 48, 49, 50, 51] (by decide +kernel) (by decide +kernel)
set_option maxRecDepth 20000 in
theorem gX11_laws_X11_lacks : GoodIn wsX11_laws (wsV RX11 121 RX11 yX11_lacks wsX11_lacks) := goodIn_app (goodIn_of _ (by decide +kernel)) ggX11_laws_X11_lacks
set_option maxRecDepth 20000 in
theorem ggX11_laws_X11_lawOf : GoodIn wsX11_laws wsX11_lawOf := goodIn_r _ [14, 10, 15, 16, 17, 18, 4, 19, 20, 21, 22, 23, 24, 25, 26, 27, 28, 29, 30, 31, 32, 33, 34, 35, 36, 37, 38, 39, 40, 41, 42, 43, 44, 45, 46, 47, 48, 49, 50, 51] (by decide +kernel) (by decide +kernel)
set_option maxRecDepth 20000 in
theorem gX11_laws_X11_lawOf : GoodIn wsX11_laws (wsV RX11 190 RX11 yX11_lawOf wsX11_lawOf) := goodIn_app (goodIn_of _ (by decide +kernel)) ggX11_laws_X11_lawOf
theorem dX11_laws_0 : decode cX11_laws 0 = .ok (.iload_n 1, 1) := by decide +kernel
theorem dX11_laws_1 : decode cX11_laws 1 = .ok (.i2l, 1) := by decide +kernel
theorem dX11_laws_2 : decode cX11_laws 2 = .ok (.lconst 0, 1) := by decide +kernel
theorem dX11_laws_3 : decode cX11_laws 3 = .ok (.ldc2_w 188, 3) := by decide +kernel
theorem dX11_laws_6 : decode cX11_laws 6 = .ok (.invokestatic 67, 3) := by decide +kernel
theorem dX11_laws_9 : decode cX11_laws 9 = .ok (.ifCond .eq 13, 3) := by decide +kernel
theorem dX11_laws_12 : decode cX11_laws 12 = .ok (.iload_n 2, 1) := by decide +kernel
theorem dX11_laws_13 : decode cX11_laws 13 = .ok (.i2l, 1) := by decide +kernel
theorem dX11_laws_14 : decode cX11_laws 14 = .ok (.lconst 0, 1) := by decide +kernel
theorem dX11_laws_15 : decode cX11_laws 15 = .ok (.lconst 1, 1) := by decide +kernel
theorem dX11_laws_16 : decode cX11_laws 16 = .ok (.invokestatic 67, 3) := by decide +kernel
theorem dX11_laws_19 : decode cX11_laws 19 = .ok (.ifCond .ne 6, 3) := by decide +kernel
theorem dX11_laws_22 : decode cX11_laws 22 = .ok (.bipush (-102), 2) := by decide +kernel
theorem dX11_laws_24 : decode cX11_laws 24 = .ok (.ireturn, 1) := by decide +kernel
theorem dX11_laws_25 : decode cX11_laws 25 = .ok (.aload_n 0, 1) := by decide +kernel
theorem dX11_laws_26 : decode cX11_laws 26 = .ok (.invokevirtual 121, 3) := by decide +kernel
theorem dX11_laws_29 : decode cX11_laws 29 = .ok (.ifCond .eq 8, 3) := by decide +kernel
theorem dX11_laws_32 : decode cX11_laws 32 = .ok (.bipush (-103), 2) := by decide +kernel
theorem dX11_laws_34 : decode cX11_laws 34 = .ok (.goto 9, 3) := by decide +kernel
theorem dX11_laws_37 : decode cX11_laws 37 = .ok (.aload_n 0, 1) := by decide +kernel
theorem dX11_laws_38 : decode cX11_laws 38 = .ok (.iload_n 1, 1) := by decide +kernel
theorem dX11_laws_39 : decode cX11_laws 39 = .ok (.iload_n 2, 1) := by decide +kernel
theorem dX11_laws_40 : decode cX11_laws 40 = .ok (.invokevirtual 190, 3) := by decide +kernel
theorem dX11_laws_43 : decode cX11_laws 43 = .ok (.ireturn, 1) := by decide +kernel
set_option maxRecDepth 20000 in
theorem ggX11_see_X11_in : GoodIn wsX11_see wsX11_in := goodIn_r _ [8] (by decide +kernel) (by decide +kernel)
set_option maxRecDepth 20000 in
theorem gX11_see_X11_in : GoodIn wsX11_see (va_wsS RX11 67 yX11_in wsX11_in) := goodIn_app (goodIn_of _ (by decide +kernel)) ggX11_see_X11_in
theorem dX11_see_0 : decode cX11_see 0 = .ok (.iload_n 1, 1) := by decide +kernel
theorem dX11_see_1 : decode cX11_see 1 = .ok (.i2l, 1) := by decide +kernel
theorem dX11_see_2 : decode cX11_see 2 = .ok (.ldc2_w 141, 3) := by decide +kernel
theorem dX11_see_5 : decode cX11_see 5 = .ok (.ldc2_w 143, 3) := by decide +kernel
theorem dX11_see_8 : decode cX11_see 8 = .ok (.invokestatic 67, 3) := by decide +kernel
theorem dX11_see_11 : decode cX11_see 11 = .ok (.ifCond .ne 6, 3) := by decide +kernel
theorem dX11_see_14 : decode cX11_see 14 = .ok (.bipush (-102), 2) := by decide +kernel
theorem dX11_see_16 : decode cX11_see 16 = .ok (.ireturn, 1) := by decide +kernel
theorem dX11_see_17 : decode cX11_see 17 = .ok (.aload_n 0, 1) := by decide +kernel
theorem dX11_see_18 : decode cX11_see 18 = .ok (.getfield 115, 3) := by decide +kernel
theorem dX11_see_21 : decode cX11_see 21 = .ok (.bipush 8, 2) := by decide +kernel
theorem dX11_see_23 : decode cX11_see 23 = .ok (.if_icmp .ne 6, 3) := by decide +kernel
theorem dX11_see_26 : decode cX11_see 26 = .ok (.bipush (-104), 2) := by decide +kernel
theorem dX11_see_28 : decode cX11_see 28 = .ok (.ireturn, 1) := by decide +kernel
theorem dX11_see_29 : decode cX11_see 29 = .ok (.aload_n 0, 1) := by decide +kernel
theorem dX11_see_30 : decode cX11_see 30 = .ok (.getfield 38, 3) := by decide +kernel
theorem dX11_see_33 : decode cX11_see 33 = .ok (.aload_n 0, 1) := by decide +kernel
theorem dX11_see_34 : decode cX11_see 34 = .ok (.getfield 115, 3) := by decide +kernel
theorem dX11_see_37 : decode cX11_see 37 = .ok (.iload_n 1, 1) := by decide +kernel
theorem dX11_see_38 : decode cX11_see 38 = .ok (.iastore, 1) := by decide +kernel
theorem dX11_see_39 : decode cX11_see 39 = .ok (.aload_n 0, 1) := by decide +kernel
theorem dX11_see_40 : decode cX11_see 40 = .ok (.dup, 1) := by decide +kernel
theorem dX11_see_41 : decode cX11_see 41 = .ok (.getfield 115, 3) := by decide +kernel
theorem dX11_see_44 : decode cX11_see 44 = .ok (.iconst 1, 1) := by decide +kernel
theorem dX11_see_45 : decode cX11_see 45 = .ok (.iadd, 1) := by decide +kernel
theorem dX11_see_46 : decode cX11_see 46 = .ok (.putfield 115, 3) := by decide +kernel
theorem dX11_see_49 : decode cX11_see 49 = .ok (.aload_n 0, 1) := by decide +kernel
theorem dX11_see_50 : decode cX11_see 50 = .ok (.getfield 115, 3) := by decide +kernel
theorem dX11_see_53 : decode cX11_see 53 = .ok (.ireturn, 1) := by decide +kernel
theorem dX11_forget_0 : decode cX11_forget 0 = .ok (.aload_n 0, 1) := by decide +kernel
theorem dX11_forget_1 : decode cX11_forget 1 = .ok (.getfield 115, 3) := by decide +kernel
theorem dX11_forget_4 : decode cX11_forget 4 = .ok (.istore_n 1, 1) := by decide +kernel
theorem dX11_forget_5 : decode cX11_forget 5 = .ok (.aload_n 0, 1) := by decide +kernel
theorem dX11_forget_6 : decode cX11_forget 6 = .ok (.iconst 0, 1) := by decide +kernel
theorem dX11_forget_7 : decode cX11_forget 7 = .ok (.putfield 115, 3) := by decide +kernel
theorem dX11_forget_10 : decode cX11_forget 10 = .ok (.iload_n 1, 1) := by decide +kernel
theorem dX11_forget_11 : decode cX11_forget 11 = .ok (.ireturn, 1) := by decide +kernel
set_option maxRecDepth 20000 in
theorem ggX11_productOf_X11_waysOf : GoodIn wsX11_productOf wsX11_waysOf := goodIn_r _ [7, 8, 9, 10, 11, 12, 13, 14, 15, 16, 17, 18, 19, 20, 21, 22, 23, 24, 25, 26, 27, 28, 29, 30, 31, 32, 33, 34, 35, 36, 37] (by decide +kernel) (by decide +kernel)
set_option maxRecDepth 20000 in
theorem gX11_productOf_X11_waysOf : GoodIn wsX11_productOf (wsV RX11 61 RX11 yX11_waysOf wsX11_waysOf) := goodIn_app (goodIn_of _ (by decide +kernel)) ggX11_productOf_X11_waysOf
theorem dX11_productOf_0 : decode cX11_productOf 0 = .ok (.lconst 1, 1) := by decide +kernel
theorem dX11_productOf_1 : decode cX11_productOf 1 = .ok (.lstore_n 2, 1) := by decide +kernel
theorem dX11_productOf_2 : decode cX11_productOf 2 = .ok (.iconst 0, 1) := by decide +kernel
theorem dX11_productOf_3 : decode cX11_productOf 3 = .ok (.istore 4, 2) := by decide +kernel
theorem dX11_productOf_5 : decode cX11_productOf 5 = .ok (.iload 4, 2) := by decide +kernel
theorem dX11_productOf_7 : decode cX11_productOf 7 = .ok (.aload_n 0, 1) := by decide +kernel
theorem dX11_productOf_8 : decode cX11_productOf 8 = .ok (.getfield 115, 3) := by decide +kernel
theorem dX11_productOf_11 : decode cX11_productOf 11 = .ok (.if_icmp .ge 25, 3) := by decide +kernel
theorem dX11_productOf_14 : decode cX11_productOf 14 = .ok (.lload_n 2, 1) := by decide +kernel
theorem dX11_productOf_15 : decode cX11_productOf 15 = .ok (.aload_n 0, 1) := by decide +kernel
theorem dX11_productOf_16 : decode cX11_productOf 16 = .ok (.iload_n 1, 1) := by decide +kernel
theorem dX11_productOf_17 : decode cX11_productOf 17 = .ok (.aload_n 0, 1) := by decide +kernel
theorem dX11_productOf_18 : decode cX11_productOf 18 = .ok (.getfield 38, 3) := by decide +kernel
theorem dX11_productOf_21 : decode cX11_productOf 21 = .ok (.iload 4, 2) := by decide +kernel
theorem dX11_productOf_23 : decode cX11_productOf 23 = .ok (.iaload, 1) := by decide +kernel
theorem dX11_productOf_24 : decode cX11_productOf 24 = .ok (.invokevirtual 61, 3) := by decide +kernel
theorem dX11_productOf_27 : decode cX11_productOf 27 = .ok (.i2l, 1) := by decide +kernel
theorem dX11_productOf_28 : decode cX11_productOf 28 = .ok (.lmul, 1) := by decide +kernel
theorem dX11_productOf_29 : decode cX11_productOf 29 = .ok (.lstore_n 2, 1) := by decide +kernel
theorem dX11_productOf_30 : decode cX11_productOf 30 = .ok (.iinc 4 1, 3) := by decide +kernel
theorem dX11_productOf_33 : decode cX11_productOf 33 = .ok (.goto (-28), 3) := by decide +kernel
theorem dX11_productOf_36 : decode cX11_productOf 36 = .ok (.lload_n 2, 1) := by decide +kernel
theorem dX11_productOf_37 : decode cX11_productOf 37 = .ok (.lreturn, 1) := by decide +kernel
set_option maxRecDepth 20000 in
theorem ggX11_allOf_X11_allWays : GoodIn wsX11_allOf wsX11_allWays := goodIn_r _ [6, 7, 8, 9, 5, 10, 11, 12, 13, 14, 15, 16, 17, 18, 19, 20, 21, 22, 23, 24, 25, 26, 27, 28, 29, 30, 31, 32, 33, 34, 35, 36, 37, 38, 39, 40] (by decide +kernel) (by decide +kernel)
set_option maxRecDepth 20000 in
theorem gX11_allOf_X11_allWays : GoodIn wsX11_allOf (wsV RX11 130 RX11 yX11_allWays wsX11_allWays) := goodIn_app (goodIn_of _ (by decide +kernel)) ggX11_allOf_X11_allWays
theorem dX11_allOf_0 : decode cX11_allOf 0 = .ok (.lconst 1, 1) := by decide +kernel
theorem dX11_allOf_1 : decode cX11_allOf 1 = .ok (.lstore_n 2, 1) := by decide +kernel
theorem dX11_allOf_2 : decode cX11_allOf 2 = .ok (.iconst 0, 1) := by decide +kernel
theorem dX11_allOf_3 : decode cX11_allOf 3 = .ok (.istore 4, 2) := by decide +kernel
theorem dX11_allOf_5 : decode cX11_allOf 5 = .ok (.iload 4, 2) := by decide +kernel
theorem dX11_allOf_7 : decode cX11_allOf 7 = .ok (.aload_n 0, 1) := by decide +kernel
theorem dX11_allOf_8 : decode cX11_allOf 8 = .ok (.getfield 115, 3) := by decide +kernel
theorem dX11_allOf_11 : decode cX11_allOf 11 = .ok (.if_icmp .ge 18, 3) := by decide +kernel
theorem dX11_allOf_14 : decode cX11_allOf 14 = .ok (.lload_n 2, 1) := by decide +kernel
theorem dX11_allOf_15 : decode cX11_allOf 15 = .ok (.aload_n 0, 1) := by decide +kernel
theorem dX11_allOf_16 : decode cX11_allOf 16 = .ok (.iload_n 1, 1) := by decide +kernel
theorem dX11_allOf_17 : decode cX11_allOf 17 = .ok (.invokevirtual 130, 3) := by decide +kernel
theorem dX11_allOf_20 : decode cX11_allOf 20 = .ok (.i2l, 1) := by decide +kernel
theorem dX11_allOf_21 : decode cX11_allOf 21 = .ok (.lmul, 1) := by decide +kernel
theorem dX11_allOf_22 : decode cX11_allOf 22 = .ok (.lstore_n 2, 1) := by decide +kernel
theorem dX11_allOf_23 : decode cX11_allOf 23 = .ok (.iinc 4 1, 3) := by decide +kernel
theorem dX11_allOf_26 : decode cX11_allOf 26 = .ok (.goto (-21), 3) := by decide +kernel
theorem dX11_allOf_29 : decode cX11_allOf 29 = .ok (.lload_n 2, 1) := by decide +kernel
theorem dX11_allOf_30 : decode cX11_allOf 30 = .ok (.lreturn, 1) := by decide +kernel
set_option maxRecDepth 20000 in
theorem ggX11_whichOf_X11_productOf : GoodIn wsX11_whichOf wsX11_productOf := goodIn_r _ [5, 6, 7, 8, 9, 10, 4, 11, 12, 13, 14, 15, 16, 17, 18, 19, 20, 21, 22, 23, 24, 25, 26, 27, 28, 29, 30, 31, 32, 33, 34, 35, 36, 37, 38, 39, 40, 41] (by decide +kernel) (by decide +kernel)
set_option maxRecDepth 20000 in
theorem gX11_whichOf_X11_productOf : GoodIn wsX11_whichOf (wsV RX11 193 RX11 yX11_productOf wsX11_productOf) := goodIn_app (goodIn_of _ (by decide +kernel)) ggX11_whichOf_X11_productOf
theorem dX11_whichOf_0 : decode cX11_whichOf 0 = .ok (.iconst 0, 1) := by decide +kernel
theorem dX11_whichOf_1 : decode cX11_whichOf 1 = .ok (.istore_n 1, 1) := by decide +kernel
theorem dX11_whichOf_2 : decode cX11_whichOf 2 = .ok (.iconst 0, 1) := by decide +kernel
theorem dX11_whichOf_3 : decode cX11_whichOf 3 = .ok (.istore_n 2, 1) := by decide +kernel
theorem dX11_whichOf_4 : decode cX11_whichOf 4 = .ok (.iload_n 2, 1) := by decide +kernel
theorem dX11_whichOf_5 : decode cX11_whichOf 5 = .ok (.iconst 5, 1) := by decide +kernel
theorem dX11_whichOf_6 : decode cX11_whichOf 6 = .ok (.if_icmp .ge 29, 3) := by decide +kernel
theorem dX11_whichOf_9 : decode cX11_whichOf 9 = .ok (.iload_n 1, 1) := by decide +kernel
theorem dX11_whichOf_10 : decode cX11_whichOf 10 = .ok (.aload_n 0, 1) := by decide +kernel
theorem dX11_whichOf_11 : decode cX11_whichOf 11 = .ok (.iload_n 2, 1) := by decide +kernel
theorem dX11_whichOf_12 : decode cX11_whichOf 12 = .ok (.invokevirtual 193, 3) := by decide +kernel
theorem dX11_whichOf_15 : decode cX11_whichOf 15 = .ok (.lconst 0, 1) := by decide +kernel
theorem dX11_whichOf_16 : decode cX11_whichOf 16 = .ok (.lcmp, 1) := by decide +kernel
theorem dX11_whichOf_17 : decode cX11_whichOf 17 = .ok (.ifCond .le 9, 3) := by decide +kernel
theorem dX11_whichOf_20 : decode cX11_whichOf 20 = .ok (.iconst 1, 1) := by decide +kernel
theorem dX11_whichOf_21 : decode cX11_whichOf 21 = .ok (.iload_n 2, 1) := by decide +kernel
theorem dX11_whichOf_22 : decode cX11_whichOf 22 = .ok (.ishl, 1) := by decide +kernel
theorem dX11_whichOf_23 : decode cX11_whichOf 23 = .ok (.goto 4, 3) := by decide +kernel
theorem dX11_whichOf_26 : decode cX11_whichOf 26 = .ok (.iconst 0, 1) := by decide +kernel
theorem dX11_whichOf_27 : decode cX11_whichOf 27 = .ok (.ior, 1) := by decide +kernel
theorem dX11_whichOf_28 : decode cX11_whichOf 28 = .ok (.istore_n 1, 1) := by decide +kernel
theorem dX11_whichOf_29 : decode cX11_whichOf 29 = .ok (.iinc 2 1, 3) := by decide +kernel
theorem dX11_whichOf_32 : decode cX11_whichOf 32 = .ok (.goto (-28), 3) := by decide +kernel
theorem dX11_whichOf_35 : decode cX11_whichOf 35 = .ok (.iload_n 1, 1) := by decide +kernel
theorem dX11_whichOf_36 : decode cX11_whichOf 36 = .ok (.ireturn, 1) := by decide +kernel
set_option maxRecDepth 20000 in
theorem ggX11_which_X11_whichOf : GoodIn wsX11_which wsX11_whichOf := goodIn_r _ [5, 6, 7, 8, 4, 9, 10, 11, 12, 13, 14, 15, 16, 17, 18, 19, 20, 21, 22, 23, 24, 25, 26, 27, 28, 29, 30, 31, 32, 33, 34, 35, 36, 37, 38, 39, 40, 41, 42, 43, 44, 45] (by decide +kernel) (by decide +kernel)
set_option maxRecDepth 20000 in
theorem gX11_which_X11_whichOf : GoodIn wsX11_which (wsV RX11 196 RX11 yX11_whichOf wsX11_whichOf) := goodIn_app (goodIn_of _ (by decide +kernel)) ggX11_which_X11_whichOf
theorem dX11_which_0 : decode cX11_which 0 = .ok (.aload_n 0, 1) := by decide +kernel
theorem dX11_which_1 : decode cX11_which 1 = .ok (.invokevirtual 196, 3) := by decide +kernel
theorem dX11_which_4 : decode cX11_which 4 = .ok (.ireturn, 1) := by decide +kernel
set_option maxRecDepth 20000 in
theorem ggX11_likelyOf_X11_productOf : GoodIn wsX11_likelyOf wsX11_productOf := goodIn_r _ [5, 6, 7, 8, 9, 10, 4, 11, 12, 13, 22, 23, 24, 25, 26, 27, 28, 29, 30, 31, 32, 33, 34, 35, 36, 37, 38, 39, 40, 41, 42, 43, 44, 45, 46, 47, 48, 49] (by decide +kernel) (by decide +kernel)
set_option maxRecDepth 20000 in
theorem gX11_likelyOf_X11_productOf : GoodIn wsX11_likelyOf (wsV RX11 193 RX11 yX11_productOf wsX11_productOf) := goodIn_app (goodIn_of _ (by decide +kernel)) ggX11_likelyOf_X11_productOf
set_option maxRecDepth 20000 in
theorem ggX11_likelyOf_X11_allOf : GoodIn wsX11_likelyOf wsX11_allOf := goodIn_r _ [17, 6, 18, 19, 20, 4, 21, 8, 9, 10, 11, 12, 13, 22, 23, 24, 25, 26, 27, 28, 29, 30, 31, 32, 33, 34, 35, 36, 37, 38, 39, 40, 41, 42, 43, 44, 45, 46, 47, 48, 49] (by decide +kernel) (by decide +kernel)
set_option maxRecDepth 20000 in
theorem gX11_likelyOf_X11_allOf : GoodIn wsX11_likelyOf (wsV RX11 199 RX11 yX11_allOf wsX11_allOf) := goodIn_app (goodIn_of _ (by decide +kernel)) ggX11_likelyOf_X11_allOf
theorem dX11_likelyOf_0 : decode cX11_likelyOf 0 = .ok (.iconst (-1), 1) := by decide +kernel
theorem dX11_likelyOf_1 : decode cX11_likelyOf 1 = .ok (.istore_n 1, 1) := by decide +kernel
theorem dX11_likelyOf_2 : decode cX11_likelyOf 2 = .ok (.iconst 0, 1) := by decide +kernel
theorem dX11_likelyOf_3 : decode cX11_likelyOf 3 = .ok (.istore_n 2, 1) := by decide +kernel
theorem dX11_likelyOf_4 : decode cX11_likelyOf 4 = .ok (.iload_n 2, 1) := by decide +kernel
theorem dX11_likelyOf_5 : decode cX11_likelyOf 5 = .ok (.iconst 5, 1) := by decide +kernel
theorem dX11_likelyOf_6 : decode cX11_likelyOf 6 = .ok (.if_icmp .ge 66, 3) := by decide +kernel
theorem dX11_likelyOf_9 : decode cX11_likelyOf 9 = .ok (.aload_n 0, 1) := by decide +kernel
theorem dX11_likelyOf_10 : decode cX11_likelyOf 10 = .ok (.iload_n 2, 1) := by decide +kernel
theorem dX11_likelyOf_11 : decode cX11_likelyOf 11 = .ok (.invokevirtual 193, 3) := by decide +kernel
theorem dX11_likelyOf_14 : decode cX11_likelyOf 14 = .ok (.lconst 0, 1) := by decide +kernel
theorem dX11_likelyOf_15 : decode cX11_likelyOf 15 = .ok (.lcmp, 1) := by decide +kernel
theorem dX11_likelyOf_16 : decode cX11_likelyOf 16 = .ok (.ifCond .le 7, 3) := by decide +kernel
theorem dX11_likelyOf_19 : decode cX11_likelyOf 19 = .ok (.iconst 1, 1) := by decide +kernel
theorem dX11_likelyOf_20 : decode cX11_likelyOf 20 = .ok (.goto 4, 3) := by decide +kernel
theorem dX11_likelyOf_23 : decode cX11_likelyOf 23 = .ok (.iconst 0, 1) := by decide +kernel
theorem dX11_likelyOf_24 : decode cX11_likelyOf 24 = .ok (.istore_n 3, 1) := by decide +kernel
theorem dX11_likelyOf_25 : decode cX11_likelyOf 25 = .ok (.iload_n 3, 1) := by decide +kernel
theorem dX11_likelyOf_26 : decode cX11_likelyOf 26 = .ok (.ifCond .eq 38, 3) := by decide +kernel
theorem dX11_likelyOf_29 : decode cX11_likelyOf 29 = .ok (.iload_n 1, 1) := by decide +kernel
theorem dX11_likelyOf_30 : decode cX11_likelyOf 30 = .ok (.iconst (-1), 1) := by decide +kernel
theorem dX11_likelyOf_31 : decode cX11_likelyOf 31 = .ok (.if_icmp .eq 29, 3) := by decide +kernel
theorem dX11_likelyOf_34 : decode cX11_likelyOf 34 = .ok (.aload_n 0, 1) := by decide +kernel
theorem dX11_likelyOf_35 : decode cX11_likelyOf 35 = .ok (.iload_n 2, 1) := by decide +kernel
theorem dX11_likelyOf_36 : decode cX11_likelyOf 36 = .ok (.invokevirtual 193, 3) := by decide +kernel
theorem dX11_likelyOf_39 : decode cX11_likelyOf 39 = .ok (.aload_n 0, 1) := by decide +kernel
theorem dX11_likelyOf_40 : decode cX11_likelyOf 40 = .ok (.iload_n 1, 1) := by decide +kernel
theorem dX11_likelyOf_41 : decode cX11_likelyOf 41 = .ok (.invokevirtual 199, 3) := by decide +kernel
theorem dX11_likelyOf_44 : decode cX11_likelyOf 44 = .ok (.lmul, 1) := by decide +kernel
theorem dX11_likelyOf_45 : decode cX11_likelyOf 45 = .ok (.aload_n 0, 1) := by decide +kernel
theorem dX11_likelyOf_46 : decode cX11_likelyOf 46 = .ok (.iload_n 1, 1) := by decide +kernel
theorem dX11_likelyOf_47 : decode cX11_likelyOf 47 = .ok (.invokevirtual 193, 3) := by decide +kernel
theorem dX11_likelyOf_50 : decode cX11_likelyOf 50 = .ok (.aload_n 0, 1) := by decide +kernel
theorem dX11_likelyOf_51 : decode cX11_likelyOf 51 = .ok (.iload_n 2, 1) := by decide +kernel
theorem dX11_likelyOf_52 : decode cX11_likelyOf 52 = .ok (.invokevirtual 199, 3) := by decide +kernel
theorem dX11_likelyOf_55 : decode cX11_likelyOf 55 = .ok (.lmul, 1) := by decide +kernel
theorem dX11_likelyOf_56 : decode cX11_likelyOf 56 = .ok (.lcmp, 1) := by decide +kernel
theorem dX11_likelyOf_57 : decode cX11_likelyOf 57 = .ok (.ifCond .le 7, 3) := by decide +kernel
theorem dX11_likelyOf_60 : decode cX11_likelyOf 60 = .ok (.iload_n 2, 1) := by decide +kernel
theorem dX11_likelyOf_61 : decode cX11_likelyOf 61 = .ok (.goto 4, 3) := by decide +kernel
theorem dX11_likelyOf_64 : decode cX11_likelyOf 64 = .ok (.iload_n 1, 1) := by decide +kernel
theorem dX11_likelyOf_65 : decode cX11_likelyOf 65 = .ok (.istore_n 1, 1) := by decide +kernel
theorem dX11_likelyOf_66 : decode cX11_likelyOf 66 = .ok (.iinc 2 1, 3) := by decide +kernel
theorem dX11_likelyOf_69 : decode cX11_likelyOf 69 = .ok (.goto (-65), 3) := by decide +kernel
theorem dX11_likelyOf_72 : decode cX11_likelyOf 72 = .ok (.iload_n 1, 1) := by decide +kernel
theorem dX11_likelyOf_73 : decode cX11_likelyOf 73 = .ok (.ireturn, 1) := by decide +kernel
set_option maxRecDepth 20000 in
theorem ggX11_likely_X11_likelyOf : GoodIn wsX11_likely wsX11_likelyOf := goodIn_r _ [5, 6, 7, 8, 4, 9, 10, 11, 12, 13, 14, 15, 16, 17, 18, 19, 20, 21, 22, 23, 24, 25, 26, 27, 28, 29, 30, 31, 32, 33, 34, 35, 36, 37, 38, 39, 40, 41, 42, 43, 44, 45, 46, 47, 48, 49, 50, 51, 52, 53] (by decide +kernel) (by decide +kernel)
set_option maxRecDepth 20000 in
theorem gX11_likely_X11_likelyOf : GoodIn wsX11_likely (wsV RX11 202 RX11 yX11_likelyOf wsX11_likelyOf) := goodIn_app (goodIn_of _ (by decide +kernel)) ggX11_likely_X11_likelyOf
theorem dX11_likely_0 : decode cX11_likely 0 = .ok (.aload_n 0, 1) := by decide +kernel
theorem dX11_likely_1 : decode cX11_likely 1 = .ok (.invokevirtual 202, 3) := by decide +kernel
theorem dX11_likely_4 : decode cX11_likely 4 = .ok (.ireturn, 1) := by decide +kernel
theorem dX11_draw_0 : decode cX11_draw 0 = .ok (.aload_n 0, 1) := by decide +kernel
theorem dX11_draw_1 : decode cX11_draw 1 = .ok (.ldc2_w 205, 3) := by decide +kernel
theorem dX11_draw_4 : decode cX11_draw 4 = .ok (.aload_n 0, 1) := by decide +kernel
theorem dX11_draw_5 : decode cX11_draw 5 = .ok (.getfield 207, 3) := by decide +kernel
theorem dX11_draw_8 : decode cX11_draw 8 = .ok (.i2l, 1) := by decide +kernel
theorem dX11_draw_9 : decode cX11_draw 9 = .ok (.lmul, 1) := by decide +kernel
theorem dX11_draw_10 : decode cX11_draw 10 = .ok (.ldc2_w 210, 3) := by decide +kernel
theorem dX11_draw_13 : decode cX11_draw 13 = .ok (.ladd, 1) := by decide +kernel
theorem dX11_draw_14 : decode cX11_draw 14 = .ok (.ldc2_w 212, 3) := by decide +kernel
theorem dX11_draw_17 : decode cX11_draw 17 = .ok (.land, 1) := by decide +kernel
theorem dX11_draw_18 : decode cX11_draw 18 = .ok (.l2i, 1) := by decide +kernel
theorem dX11_draw_19 : decode cX11_draw 19 = .ok (.putfield 207, 3) := by decide +kernel
theorem dX11_draw_22 : decode cX11_draw 22 = .ok (.aload_n 0, 1) := by decide +kernel
theorem dX11_draw_23 : decode cX11_draw 23 = .ok (.getfield 207, 3) := by decide +kernel
theorem dX11_draw_26 : decode cX11_draw 26 = .ok (.ldc 214, 2) := by decide +kernel
theorem dX11_draw_28 : decode cX11_draw 28 = .ok (.idiv, 1) := by decide +kernel
theorem dX11_draw_29 : decode cX11_draw 29 = .ok (.iload_n 1, 1) := by decide +kernel
theorem dX11_draw_30 : decode cX11_draw 30 = .ok (.irem, 1) := by decide +kernel
theorem dX11_draw_31 : decode cX11_draw 31 = .ok (.ireturn, 1) := by decide +kernel
set_option maxRecDepth 20000 in
theorem ggX11_falls_X11_mostOf : GoodIn wsX11_falls wsX11_mostOf := goodIn_r _ [4] (by decide +kernel) (by decide +kernel)
set_option maxRecDepth 20000 in
theorem gX11_falls_X11_mostOf : GoodIn wsX11_falls (va_wsS RX11 58 yX11_mostOf wsX11_mostOf) := goodIn_app (goodIn_of _ (by decide +kernel)) ggX11_falls_X11_mostOf
set_option maxRecDepth 20000 in
theorem ggX11_falls_X11_leastOf : GoodIn wsX11_falls wsX11_leastOf := goodIn_r _ [7] (by decide +kernel) (by decide +kernel)
set_option maxRecDepth 20000 in
theorem gX11_falls_X11_leastOf : GoodIn wsX11_falls (va_wsS RX11 54 yX11_leastOf wsX11_leastOf) := goodIn_app (goodIn_of _ (by decide +kernel)) ggX11_falls_X11_leastOf
set_option maxRecDepth 20000 in
theorem ggX11_falls_X11_draw : GoodIn wsX11_falls wsX11_draw := goodIn_r _ [11, 12, 13, 14, 15, 16, 17, 18, 19, 20, 21, 22, 23, 24, 25, 26, 27, 28, 29, 30, 31, 32, 33, 34, 35, 36, 37, 38, 39, 40, 41, 42, 43, 44] (by decide +kernel) (by decide +kernel)
set_option maxRecDepth 20000 in
theorem gX11_falls_X11_draw : GoodIn wsX11_falls (wsV RX11 215 RX11 yX11_draw wsX11_draw) := goodIn_app (goodIn_of _ (by decide +kernel)) ggX11_falls_X11_draw
theorem dX11_falls_0 : decode cX11_falls 0 = .ok (.iload_n 1, 1) := by decide +kernel
theorem dX11_falls_1 : decode cX11_falls 1 = .ok (.invokestatic 58, 3) := by decide +kernel
theorem dX11_falls_4 : decode cX11_falls 4 = .ok (.iload_n 1, 1) := by decide +kernel
theorem dX11_falls_5 : decode cX11_falls 5 = .ok (.invokestatic 54, 3) := by decide +kernel
theorem dX11_falls_8 : decode cX11_falls 8 = .ok (.isub, 1) := by decide +kernel
theorem dX11_falls_9 : decode cX11_falls 9 = .ok (.iconst 1, 1) := by decide +kernel
theorem dX11_falls_10 : decode cX11_falls 10 = .ok (.iadd, 1) := by decide +kernel
theorem dX11_falls_11 : decode cX11_falls 11 = .ok (.istore_n 2, 1) := by decide +kernel
theorem dX11_falls_12 : decode cX11_falls 12 = .ok (.iload_n 1, 1) := by decide +kernel
theorem dX11_falls_13 : decode cX11_falls 13 = .ok (.invokestatic 54, 3) := by decide +kernel
theorem dX11_falls_16 : decode cX11_falls 16 = .ok (.aload_n 0, 1) := by decide +kernel
theorem dX11_falls_17 : decode cX11_falls 17 = .ok (.iload_n 2, 1) := by decide +kernel
theorem dX11_falls_18 : decode cX11_falls 18 = .ok (.invokevirtual 215, 3) := by decide +kernel
theorem dX11_falls_21 : decode cX11_falls 21 = .ok (.iadd, 1) := by decide +kernel
theorem dX11_falls_22 : decode cX11_falls 22 = .ok (.istore_n 3, 1) := by decide +kernel
theorem dX11_falls_23 : decode cX11_falls 23 = .ok (.iload_n 1, 1) := by decide +kernel
theorem dX11_falls_24 : decode cX11_falls 24 = .ok (.iconst 2, 1) := by decide +kernel
theorem dX11_falls_25 : decode cX11_falls 25 = .ok (.if_icmp .ne 9, 3) := by decide +kernel
theorem dX11_falls_28 : decode cX11_falls 28 = .ok (.iconst 2, 1) := by decide +kernel
theorem dX11_falls_29 : decode cX11_falls 29 = .ok (.iload_n 3, 1) := by decide +kernel
theorem dX11_falls_30 : decode cX11_falls 30 = .ok (.imul, 1) := by decide +kernel
theorem dX11_falls_31 : decode cX11_falls 31 = .ok (.goto 15, 3) := by decide +kernel
theorem dX11_falls_34 : decode cX11_falls 34 = .ok (.iload_n 3, 1) := by decide +kernel
theorem dX11_falls_35 : decode cX11_falls 35 = .ok (.iload_n 1, 1) := by decide +kernel
theorem dX11_falls_36 : decode cX11_falls 36 = .ok (.invokestatic 54, 3) := by decide +kernel
theorem dX11_falls_39 : decode cX11_falls 39 = .ok (.iadd, 1) := by decide +kernel
theorem dX11_falls_40 : decode cX11_falls 40 = .ok (.aload_n 0, 1) := by decide +kernel
theorem dX11_falls_41 : decode cX11_falls 41 = .ok (.iload_n 2, 1) := by decide +kernel
theorem dX11_falls_42 : decode cX11_falls 42 = .ok (.invokevirtual 215, 3) := by decide +kernel
theorem dX11_falls_45 : decode cX11_falls 45 = .ok (.iadd, 1) := by decide +kernel
theorem dX11_falls_46 : decode cX11_falls 46 = .ok (.ireturn, 1) := by decide +kernel
set_option maxRecDepth 20000 in
theorem ggX11_leastKings_X11_isKings : GoodIn wsX11_leastKings wsX11_isKings := goodIn_r _ [6, 7, 8, 9, 10, 11, 12, 13, 14, 15, 16, 17, 18, 19, 20, 21, 22, 23, 24, 25, 26, 27, 28, 29, 30, 31, 32, 33, 34, 35] (by decide +kernel) (by decide +kernel)
set_option maxRecDepth 20000 in
theorem gX11_leastKings_X11_isKings : GoodIn wsX11_leastKings (wsV RX11 145 RX11 yX11_isKings wsX11_isKings) := goodIn_app (goodIn_of _ (by decide +kernel)) ggX11_leastKings_X11_isKings
theorem dX11_leastKings_0 : decode cX11_leastKings 0 = .ok (.iconst (-1), 1) := by decide +kernel
theorem dX11_leastKings_1 : decode cX11_leastKings 1 = .ok (.istore_n 1, 1) := by decide +kernel
theorem dX11_leastKings_2 : decode cX11_leastKings 2 = .ok (.aload_n 0, 1) := by decide +kernel
theorem dX11_leastKings_3 : decode cX11_leastKings 3 = .ok (.getfield 102, 3) := by decide +kernel
theorem dX11_leastKings_6 : decode cX11_leastKings 6 = .ok (.iconst 1, 1) := by decide +kernel
theorem dX11_leastKings_7 : decode cX11_leastKings 7 = .ok (.isub, 1) := by decide +kernel
theorem dX11_leastKings_8 : decode cX11_leastKings 8 = .ok (.istore_n 2, 1) := by decide +kernel
theorem dX11_leastKings_9 : decode cX11_leastKings 9 = .ok (.iload_n 2, 1) := by decide +kernel
theorem dX11_leastKings_10 : decode cX11_leastKings 10 = .ok (.ifCond .lt 23, 3) := by decide +kernel
theorem dX11_leastKings_13 : decode cX11_leastKings 13 = .ok (.aload_n 0, 1) := by decide +kernel
theorem dX11_leastKings_14 : decode cX11_leastKings 14 = .ok (.iload_n 2, 1) := by decide +kernel
theorem dX11_leastKings_15 : decode cX11_leastKings 15 = .ok (.invokevirtual 145, 3) := by decide +kernel
theorem dX11_leastKings_18 : decode cX11_leastKings 18 = .ok (.ifCond .eq 7, 3) := by decide +kernel
theorem dX11_leastKings_21 : decode cX11_leastKings 21 = .ok (.iload_n 2, 1) := by decide +kernel
theorem dX11_leastKings_22 : decode cX11_leastKings 22 = .ok (.goto 4, 3) := by decide +kernel
theorem dX11_leastKings_25 : decode cX11_leastKings 25 = .ok (.iload_n 1, 1) := by decide +kernel
theorem dX11_leastKings_26 : decode cX11_leastKings 26 = .ok (.istore_n 1, 1) := by decide +kernel
theorem dX11_leastKings_27 : decode cX11_leastKings 27 = .ok (.iinc 2 (-1), 3) := by decide +kernel
theorem dX11_leastKings_30 : decode cX11_leastKings 30 = .ok (.goto (-21), 3) := by decide +kernel
theorem dX11_leastKings_33 : decode cX11_leastKings 33 = .ok (.iload_n 1, 1) := by decide +kernel
theorem dX11_leastKings_34 : decode cX11_leastKings 34 = .ok (.ireturn, 1) := by decide +kernel
set_option maxRecDepth 20000 in
theorem ggX11_kingsMany_X11_isKings : GoodIn wsX11_kingsMany wsX11_isKings := goodIn_r _ [6, 7, 8, 9, 10, 11, 12, 13, 14, 15, 16, 17, 18, 19, 20, 21, 22, 23, 24, 25, 26, 27, 28, 29, 30, 31, 32, 33, 34, 35] (by decide +kernel) (by decide +kernel)
set_option maxRecDepth 20000 in
theorem gX11_kingsMany_X11_isKings : GoodIn wsX11_kingsMany (wsV RX11 145 RX11 yX11_isKings wsX11_isKings) := goodIn_app (goodIn_of _ (by decide +kernel)) ggX11_kingsMany_X11_isKings
theorem dX11_kingsMany_0 : decode cX11_kingsMany 0 = .ok (.iconst 0, 1) := by decide +kernel
theorem dX11_kingsMany_1 : decode cX11_kingsMany 1 = .ok (.istore_n 1, 1) := by decide +kernel
theorem dX11_kingsMany_2 : decode cX11_kingsMany 2 = .ok (.iconst 0, 1) := by decide +kernel
theorem dX11_kingsMany_3 : decode cX11_kingsMany 3 = .ok (.istore_n 2, 1) := by decide +kernel
theorem dX11_kingsMany_4 : decode cX11_kingsMany 4 = .ok (.iload_n 2, 1) := by decide +kernel
theorem dX11_kingsMany_5 : decode cX11_kingsMany 5 = .ok (.aload_n 0, 1) := by decide +kernel
theorem dX11_kingsMany_6 : decode cX11_kingsMany 6 = .ok (.getfield 102, 3) := by decide +kernel
theorem dX11_kingsMany_9 : decode cX11_kingsMany 9 = .ok (.if_icmp .ge 25, 3) := by decide +kernel
theorem dX11_kingsMany_12 : decode cX11_kingsMany 12 = .ok (.iload_n 1, 1) := by decide +kernel
theorem dX11_kingsMany_13 : decode cX11_kingsMany 13 = .ok (.aload_n 0, 1) := by decide +kernel
theorem dX11_kingsMany_14 : decode cX11_kingsMany 14 = .ok (.iload_n 2, 1) := by decide +kernel
theorem dX11_kingsMany_15 : decode cX11_kingsMany 15 = .ok (.invokevirtual 145, 3) := by decide +kernel
theorem dX11_kingsMany_18 : decode cX11_kingsMany 18 = .ok (.ifCond .eq 7, 3) := by decide +kernel
theorem dX11_kingsMany_21 : decode cX11_kingsMany 21 = .ok (.iconst 1, 1) := by decide +kernel
theorem dX11_kingsMany_22 : decode cX11_kingsMany 22 = .ok (.goto 4, 3) := by decide +kernel
theorem dX11_kingsMany_25 : decode cX11_kingsMany 25 = .ok (.iconst 0, 1) := by decide +kernel
theorem dX11_kingsMany_26 : decode cX11_kingsMany 26 = .ok (.iadd, 1) := by decide +kernel
theorem dX11_kingsMany_27 : decode cX11_kingsMany 27 = .ok (.istore_n 1, 1) := by decide +kernel
theorem dX11_kingsMany_28 : decode cX11_kingsMany 28 = .ok (.iinc 2 1, 3) := by decide +kernel
theorem dX11_kingsMany_31 : decode cX11_kingsMany 31 = .ok (.goto (-27), 3) := by decide +kernel
theorem dX11_kingsMany_34 : decode cX11_kingsMany 34 = .ok (.iload_n 1, 1) := by decide +kernel
theorem dX11_kingsMany_35 : decode cX11_kingsMany 35 = .ok (.ireturn, 1) := by decide +kernel
set_option maxRecDepth 20000 in
theorem ggX11_halls_X11_in : GoodIn wsX11_halls wsX11_in := goodIn_r _ [11] (by decide +kernel) (by decide +kernel)
set_option maxRecDepth 20000 in
theorem gX11_halls_X11_in : GoodIn wsX11_halls (va_wsS RX11 67 yX11_in wsX11_in) := goodIn_app (goodIn_of _ (by decide +kernel)) ggX11_halls_X11_in
set_option maxRecDepth 20000 in
theorem ggX11_halls_X11_lacks : GoodIn wsX11_halls wsX11_lacks := goodIn_r _ [15, 16, 50, 51, 52, 53, 54, 55, 56, 57, 58, 59, 60, 61, 62, 63, 64, 65, 66, 67, 68, 69, 70, 71, 72, 73, 74, 75, 76, 77] (by decide +kernel) (by decide +kernel)
set_option maxRecDepth 20000 in
theorem gX11_halls_X11_lacks : GoodIn wsX11_halls (wsV RX11 121 RX11 yX11_lacks wsX11_lacks) := goodIn_app (goodIn_of _ (by decide +kernel)) ggX11_halls_X11_lacks
set_option maxRecDepth 20000 in
theorem ggX11_halls_X11_copy : GoodIn wsX11_halls wsX11_copy := goodIn_r _ [19] (by decide +kernel) (by decide +kernel)
set_option maxRecDepth 20000 in
theorem gX11_halls_X11_copy : GoodIn wsX11_halls (va_wsS RX11 105 yX11_copy wsX11_copy) := goodIn_app (goodIn_of _ (by decide +kernel)) ggX11_halls_X11_copy
set_option maxRecDepth 20000 in
theorem ggX11_halls_X11_kingsMany : GoodIn wsX11_halls wsX11_kingsMany := goodIn_r _ [23, 16, 24, 25, 26, 10, 27, 3, 50, 51, 52, 53, 54, 55, 56, 57, 58, 59, 60, 61, 62, 63, 64, 65, 66, 67, 68, 69, 70, 71, 72, 73, 74, 75, 76, 77] (by decide +kernel) (by decide +kernel)
set_option maxRecDepth 20000 in
theorem gX11_halls_X11_kingsMany : GoodIn wsX11_halls (wsV RX11 220 RX11 yX11_kingsMany wsX11_kingsMany) := goodIn_app (goodIn_of _ (by decide +kernel)) ggX11_halls_X11_kingsMany
set_option maxRecDepth 20000 in
theorem ggX11_halls_X11_leastKings : GoodIn wsX11_halls wsX11_leastKings := goodIn_r _ [31, 16, 24, 25, 26, 10, 27, 3, 50, 51, 52, 53, 54, 55, 56, 57, 58, 59, 60, 61, 62, 63, 64, 65, 66, 67, 68, 69, 70, 71, 72, 73, 74, 75, 76, 77] (by decide +kernel) (by decide +kernel)
set_option maxRecDepth 20000 in
theorem gX11_halls_X11_leastKings : GoodIn wsX11_halls (wsV RX11 223 RX11 yX11_leastKings wsX11_leastKings) := goodIn_app (goodIn_of _ (by decide +kernel)) ggX11_halls_X11_leastKings
set_option maxRecDepth 20000 in
theorem ggX11_halls_X11_falls : GoodIn wsX11_halls wsX11_falls := goodIn_r _ [35, 36, 37, 10, 38, 39, 40, 41, 42, 43, 44, 45, 46, 5, 47, 48, 49, 50, 51, 52, 53, 54, 55, 56, 57, 58, 59, 60, 61, 62, 63, 64, 65, 66, 67, 68, 69, 70, 71, 72, 73, 74, 75, 76, 77] (by decide +kernel) (by decide +kernel)
set_option maxRecDepth 20000 in
theorem gX11_halls_X11_falls : GoodIn wsX11_halls (wsV RX11 226 RX11 yX11_falls wsX11_falls) := goodIn_app (goodIn_of _ (by decide +kernel)) ggX11_halls_X11_falls
theorem dX11_halls_0 : decode cX11_halls 0 = .ok (.iload_n 1, 1) := by decide +kernel
theorem dX11_halls_1 : decode cX11_halls 1 = .ok (.i2l, 1) := by decide +kernel
theorem dX11_halls_2 : decode cX11_halls 2 = .ok (.lconst 1, 1) := by decide +kernel
theorem dX11_halls_3 : decode cX11_halls 3 = .ok (.ldc2_w 218, 3) := by decide +kernel
theorem dX11_halls_6 : decode cX11_halls 6 = .ok (.invokestatic 67, 3) := by decide +kernel
theorem dX11_halls_9 : decode cX11_halls 9 = .ok (.ifCond .eq 19, 3) := by decide +kernel
theorem dX11_halls_12 : decode cX11_halls 12 = .ok (.iload_n 2, 1) := by decide +kernel
theorem dX11_halls_13 : decode cX11_halls 13 = .ok (.ifCond .lt 15, 3) := by decide +kernel
theorem dX11_halls_16 : decode cX11_halls 16 = .ok (.iload_n 3, 1) := by decide +kernel
theorem dX11_halls_17 : decode cX11_halls 17 = .ok (.i2l, 1) := by decide +kernel
theorem dX11_halls_18 : decode cX11_halls 18 = .ok (.lconst 0, 1) := by decide +kernel
theorem dX11_halls_19 : decode cX11_halls 19 = .ok (.ldc2_w 141, 3) := by decide +kernel
theorem dX11_halls_22 : decode cX11_halls 22 = .ok (.invokestatic 67, 3) := by decide +kernel
theorem dX11_halls_25 : decode cX11_halls 25 = .ok (.ifCond .ne 6, 3) := by decide +kernel
theorem dX11_halls_28 : decode cX11_halls 28 = .ok (.bipush (-102), 2) := by decide +kernel
theorem dX11_halls_30 : decode cX11_halls 30 = .ok (.ireturn, 1) := by decide +kernel
theorem dX11_halls_31 : decode cX11_halls 31 = .ok (.aload_n 0, 1) := by decide +kernel
theorem dX11_halls_32 : decode cX11_halls 32 = .ok (.invokevirtual 121, 3) := by decide +kernel
theorem dX11_halls_35 : decode cX11_halls 35 = .ok (.ifCond .eq 6, 3) := by decide +kernel
theorem dX11_halls_38 : decode cX11_halls 38 = .ok (.bipush (-103), 2) := by decide +kernel
theorem dX11_halls_40 : decode cX11_halls 40 = .ok (.ireturn, 1) := by decide +kernel
theorem dX11_halls_41 : decode cX11_halls 41 = .ok (.aload_n 0, 1) := by decide +kernel
theorem dX11_halls_42 : decode cX11_halls 42 = .ok (.getfield 25, 3) := by decide +kernel
theorem dX11_halls_45 : decode cX11_halls 45 = .ok (.aload_n 0, 1) := by decide +kernel
theorem dX11_halls_46 : decode cX11_halls 46 = .ok (.getfield 41, 3) := by decide +kernel
theorem dX11_halls_49 : decode cX11_halls 49 = .ok (.invokestatic 105, 3) := by decide +kernel
theorem dX11_halls_52 : decode cX11_halls 52 = .ok (.aload_n 0, 1) := by decide +kernel
theorem dX11_halls_53 : decode cX11_halls 53 = .ok (.iload_n 2, 1) := by decide +kernel
theorem dX11_halls_54 : decode cX11_halls 54 = .ok (.putfield 207, 3) := by decide +kernel
theorem dX11_halls_57 : decode cX11_halls 57 = .ok (.aload_n 0, 1) := by decide +kernel
theorem dX11_halls_58 : decode cX11_halls 58 = .ok (.getfield 109, 3) := by decide +kernel
theorem dX11_halls_61 : decode cX11_halls 61 = .ok (.istore 4, 2) := by decide +kernel
theorem dX11_halls_63 : decode cX11_halls 63 = .ok (.iconst 0, 1) := by decide +kernel
theorem dX11_halls_64 : decode cX11_halls 64 = .ok (.istore 5, 2) := by decide +kernel
theorem dX11_halls_66 : decode cX11_halls 66 = .ok (.iload 5, 2) := by decide +kernel
theorem dX11_halls_68 : decode cX11_halls 68 = .ok (.iload_n 1, 1) := by decide +kernel
theorem dX11_halls_69 : decode cX11_halls 69 = .ok (.if_icmp .ge 98, 3) := by decide +kernel
theorem dX11_halls_72 : decode cX11_halls 72 = .ok (.aload_n 0, 1) := by decide +kernel
theorem dX11_halls_73 : decode cX11_halls 73 = .ok (.invokevirtual 220, 3) := by decide +kernel
theorem dX11_halls_76 : decode cX11_halls 76 = .ok (.ifCond .le 91, 3) := by decide +kernel
theorem dX11_halls_79 : decode cX11_halls 79 = .ok (.aload_n 0, 1) := by decide +kernel
theorem dX11_halls_80 : decode cX11_halls 80 = .ok (.invokevirtual 223, 3) := by decide +kernel
theorem dX11_halls_83 : decode cX11_halls 83 = .ok (.istore 6, 2) := by decide +kernel
theorem dX11_halls_85 : decode cX11_halls 85 = .ok (.aload_n 0, 1) := by decide +kernel
theorem dX11_halls_86 : decode cX11_halls 86 = .ok (.aload_n 0, 1) := by decide +kernel
theorem dX11_halls_87 : decode cX11_halls 87 = .ok (.getfield 28, 3) := by decide +kernel
theorem dX11_halls_90 : decode cX11_halls 90 = .ok (.iconst 0, 1) := by decide +kernel
theorem dX11_halls_91 : decode cX11_halls 91 = .ok (.iaload, 1) := by decide +kernel
theorem dX11_halls_92 : decode cX11_halls 92 = .ok (.invokevirtual 226, 3) := by decide +kernel
theorem dX11_halls_95 : decode cX11_halls 95 = .ok (.istore 7, 2) := by decide +kernel
theorem dX11_halls_97 : decode cX11_halls 97 = .ok (.aload_n 0, 1) := by decide +kernel
theorem dX11_halls_98 : decode cX11_halls 98 = .ok (.aload_n 0, 1) := by decide +kernel
theorem dX11_halls_99 : decode cX11_halls 99 = .ok (.getfield 28, 3) := by decide +kernel
theorem dX11_halls_102 : decode cX11_halls 102 = .ok (.iconst 1, 1) := by decide +kernel
theorem dX11_halls_103 : decode cX11_halls 103 = .ok (.iaload, 1) := by decide +kernel
theorem dX11_halls_104 : decode cX11_halls 104 = .ok (.invokevirtual 226, 3) := by decide +kernel
theorem dX11_halls_107 : decode cX11_halls 107 = .ok (.istore 8, 2) := by decide +kernel
theorem dX11_halls_109 : decode cX11_halls 109 = .ok (.iload 4, 2) := by decide +kernel
theorem dX11_halls_111 : decode cX11_halls 111 = .ok (.iload 7, 2) := by decide +kernel
theorem dX11_halls_113 : decode cX11_halls 113 = .ok (.iload 8, 2) := by decide +kernel
theorem dX11_halls_115 : decode cX11_halls 115 = .ok (.if_icmp .le 18, 3) := by decide +kernel
theorem dX11_halls_118 : decode cX11_halls 118 = .ok (.aload_n 0, 1) := by decide +kernel
theorem dX11_halls_119 : decode cX11_halls 119 = .ok (.getfield 25, 3) := by decide +kernel
theorem dX11_halls_122 : decode cX11_halls 122 = .ok (.bipush 6, 2) := by decide +kernel
theorem dX11_halls_124 : decode cX11_halls 124 = .ok (.iload 6, 2) := by decide +kernel
theorem dX11_halls_126 : decode cX11_halls 126 = .ok (.imul, 1) := by decide +kernel
theorem dX11_halls_127 : decode cX11_halls 127 = .ok (.iconst 1, 1) := by decide +kernel
theorem dX11_halls_128 : decode cX11_halls 128 = .ok (.iadd, 1) := by decide +kernel
theorem dX11_halls_129 : decode cX11_halls 129 = .ok (.iaload, 1) := by decide +kernel
theorem dX11_halls_130 : decode cX11_halls 130 = .ok (.goto 4, 3) := by decide +kernel
theorem dX11_halls_133 : decode cX11_halls 133 = .ok (.iconst 0, 1) := by decide +kernel
theorem dX11_halls_134 : decode cX11_halls 134 = .ok (.iadd, 1) := by decide +kernel
theorem dX11_halls_135 : decode cX11_halls 135 = .ok (.istore 4, 2) := by decide +kernel
theorem dX11_halls_137 : decode cX11_halls 137 = .ok (.aload_n 0, 1) := by decide +kernel
theorem dX11_halls_138 : decode cX11_halls 138 = .ok (.getfield 25, 3) := by decide +kernel
theorem dX11_halls_141 : decode cX11_halls 141 = .ok (.bipush 6, 2) := by decide +kernel
theorem dX11_halls_143 : decode cX11_halls 143 = .ok (.iload 6, 2) := by decide +kernel
theorem dX11_halls_145 : decode cX11_halls 145 = .ok (.imul, 1) := by decide +kernel
theorem dX11_halls_146 : decode cX11_halls 146 = .ok (.iconst 2, 1) := by decide +kernel
theorem dX11_halls_147 : decode cX11_halls 147 = .ok (.iadd, 1) := by decide +kernel
theorem dX11_halls_148 : decode cX11_halls 148 = .ok (.iload 7, 2) := by decide +kernel
theorem dX11_halls_150 : decode cX11_halls 150 = .ok (.iload 8, 2) := by decide +kernel
theorem dX11_halls_152 : decode cX11_halls 152 = .ok (.if_icmp .ge 7, 3) := by decide +kernel
theorem dX11_halls_155 : decode cX11_halls 155 = .ok (.iconst 1, 1) := by decide +kernel
theorem dX11_halls_156 : decode cX11_halls 156 = .ok (.goto 4, 3) := by decide +kernel
theorem dX11_halls_159 : decode cX11_halls 159 = .ok (.iconst 0, 1) := by decide +kernel
theorem dX11_halls_160 : decode cX11_halls 160 = .ok (.iastore, 1) := by decide +kernel
theorem dX11_halls_161 : decode cX11_halls 161 = .ok (.iinc 5 1, 3) := by decide +kernel
theorem dX11_halls_164 : decode cX11_halls 164 = .ok (.goto (-98), 3) := by decide +kernel
theorem dX11_halls_167 : decode cX11_halls 167 = .ok (.aload_n 0, 1) := by decide +kernel
theorem dX11_halls_168 : decode cX11_halls 168 = .ok (.invokevirtual 220, 3) := by decide +kernel
theorem dX11_halls_171 : decode cX11_halls 171 = .ok (.istore 5, 2) := by decide +kernel
theorem dX11_halls_173 : decode cX11_halls 173 = .ok (.aload_n 0, 1) := by decide +kernel
theorem dX11_halls_174 : decode cX11_halls 174 = .ok (.getfield 41, 3) := by decide +kernel
theorem dX11_halls_177 : decode cX11_halls 177 = .ok (.aload_n 0, 1) := by decide +kernel
theorem dX11_halls_178 : decode cX11_halls 178 = .ok (.getfield 25, 3) := by decide +kernel
theorem dX11_halls_181 : decode cX11_halls 181 = .ok (.invokestatic 105, 3) := by decide +kernel
theorem dX11_halls_184 : decode cX11_halls 184 = .ok (.iload_n 3, 1) := by decide +kernel
theorem dX11_halls_185 : decode cX11_halls 185 = .ok (.ifCond .ne 8, 3) := by decide +kernel
theorem dX11_halls_188 : decode cX11_halls 188 = .ok (.iload 5, 2) := by decide +kernel
theorem dX11_halls_190 : decode cX11_halls 190 = .ok (.goto 17, 3) := by decide +kernel
theorem dX11_halls_193 : decode cX11_halls 193 = .ok (.iload_n 3, 1) := by decide +kernel
theorem dX11_halls_194 : decode cX11_halls 194 = .ok (.iconst 1, 1) := by decide +kernel
theorem dX11_halls_195 : decode cX11_halls 195 = .ok (.if_icmp .ne 8, 3) := by decide +kernel
theorem dX11_halls_198 : decode cX11_halls 198 = .ok (.iload 4, 2) := by decide +kernel
theorem dX11_halls_200 : decode cX11_halls 200 = .ok (.goto 7, 3) := by decide +kernel
theorem dX11_halls_203 : decode cX11_halls 203 = .ok (.aload_n 0, 1) := by decide +kernel
theorem dX11_halls_204 : decode cX11_halls 204 = .ok (.getfield 207, 3) := by decide +kernel
theorem dX11_halls_207 : decode cX11_halls 207 = .ok (.ireturn, 1) := by decide +kernel
set_option maxRecDepth 20000 in
theorem ggX11_image_X11_lacks : GoodIn wsX11_image wsX11_lacks := goodIn_r _ [17, 18, 22, 23, 24, 25, 26, 27, 28, 29, 30, 31, 32, 33, 34, 35, 36, 37, 38, 39, 40, 41, 42, 43, 44, 45, 46, 47, 48, 49] (by decide +kernel) (by decide +kernel)
set_option maxRecDepth 20000 in
theorem gX11_image_X11_lacks : GoodIn wsX11_image (wsV RX11 121 RX11 yX11_lacks wsX11_lacks) := goodIn_app (goodIn_of _ (by decide +kernel)) ggX11_image_X11_lacks
set_option maxRecDepth 20000 in
theorem ggX11_image_X11_copy : GoodIn wsX11_image wsX11_copy := goodIn_r _ [21] (by decide +kernel) (by decide +kernel)
set_option maxRecDepth 20000 in
theorem gX11_image_X11_copy : GoodIn wsX11_image (va_wsS RX11 105 yX11_copy wsX11_copy) := goodIn_app (goodIn_of _ (by decide +kernel)) ggX11_image_X11_copy
theorem dX11_image_0 : decode cX11_image 0 = .ok (.aload_n 0, 1) := by decide +kernel
theorem dX11_image_1 : decode cX11_image 1 = .ok (.invokevirtual 121, 3) := by decide +kernel
theorem dX11_image_4 : decode cX11_image 4 = .ok (.ifCond .eq 6, 3) := by decide +kernel
theorem dX11_image_7 : decode cX11_image 7 = .ok (.bipush (-103), 2) := by decide +kernel
theorem dX11_image_9 : decode cX11_image 9 = .ok (.ireturn, 1) := by decide +kernel
theorem dX11_image_10 : decode cX11_image 10 = .ok (.aload_n 0, 1) := by decide +kernel
theorem dX11_image_11 : decode cX11_image 11 = .ok (.getfield 25, 3) := by decide +kernel
theorem dX11_image_14 : decode cX11_image 14 = .ok (.aload_n 0, 1) := by decide +kernel
theorem dX11_image_15 : decode cX11_image 15 = .ok (.getfield 44, 3) := by decide +kernel
theorem dX11_image_18 : decode cX11_image 18 = .ok (.invokestatic 105, 3) := by decide +kernel
theorem dX11_image_21 : decode cX11_image 21 = .ok (.aload_n 0, 1) := by decide +kernel
theorem dX11_image_22 : decode cX11_image 22 = .ok (.getfield 38, 3) := by decide +kernel
theorem dX11_image_25 : decode cX11_image 25 = .ok (.aload_n 0, 1) := by decide +kernel
theorem dX11_image_26 : decode cX11_image 26 = .ok (.getfield 47, 3) := by decide +kernel
theorem dX11_image_29 : decode cX11_image 29 = .ok (.invokestatic 105, 3) := by decide +kernel
theorem dX11_image_32 : decode cX11_image 32 = .ok (.aload_n 0, 1) := by decide +kernel
theorem dX11_image_33 : decode cX11_image 33 = .ok (.aload_n 0, 1) := by decide +kernel
theorem dX11_image_34 : decode cX11_image 34 = .ok (.getfield 109, 3) := by decide +kernel
theorem dX11_image_37 : decode cX11_image 37 = .ok (.putfield 229, 3) := by decide +kernel
theorem dX11_image_40 : decode cX11_image 40 = .ok (.aload_n 0, 1) := by decide +kernel
theorem dX11_image_41 : decode cX11_image 41 = .ok (.aload_n 0, 1) := by decide +kernel
theorem dX11_image_42 : decode cX11_image 42 = .ok (.getfield 112, 3) := by decide +kernel
theorem dX11_image_45 : decode cX11_image 45 = .ok (.putfield 232, 3) := by decide +kernel
theorem dX11_image_48 : decode cX11_image 48 = .ok (.aload_n 0, 1) := by decide +kernel
theorem dX11_image_49 : decode cX11_image 49 = .ok (.aload_n 0, 1) := by decide +kernel
theorem dX11_image_50 : decode cX11_image 50 = .ok (.getfield 115, 3) := by decide +kernel
theorem dX11_image_53 : decode cX11_image 53 = .ok (.putfield 235, 3) := by decide +kernel
theorem dX11_image_56 : decode cX11_image 56 = .ok (.aload_n 0, 1) := by decide +kernel
theorem dX11_image_57 : decode cX11_image 57 = .ok (.aload_n 0, 1) := by decide +kernel
theorem dX11_image_58 : decode cX11_image 58 = .ok (.getfield 118, 3) := by decide +kernel
theorem dX11_image_61 : decode cX11_image 61 = .ok (.putfield 50, 3) := by decide +kernel
theorem dX11_image_64 : decode cX11_image 64 = .ok (.aload_n 0, 1) := by decide +kernel
theorem dX11_image_65 : decode cX11_image 65 = .ok (.getfield 112, 3) := by decide +kernel
theorem dX11_image_68 : decode cX11_image 68 = .ok (.ireturn, 1) := by decide +kernel
set_option maxRecDepth 20000 in
theorem ggX11_restore_X11_copy : GoodIn wsX11_restore wsX11_copy := goodIn_r _ [16] (by decide +kernel) (by decide +kernel)
set_option maxRecDepth 20000 in
theorem gX11_restore_X11_copy : GoodIn wsX11_restore (va_wsS RX11 105 yX11_copy wsX11_copy) := goodIn_app (goodIn_of _ (by decide +kernel)) ggX11_restore_X11_copy
theorem dX11_restore_0 : decode cX11_restore 0 = .ok (.aload_n 0, 1) := by decide +kernel
theorem dX11_restore_1 : decode cX11_restore 1 = .ok (.getfield 50, 3) := by decide +kernel
theorem dX11_restore_4 : decode cX11_restore 4 = .ok (.aload_n 0, 1) := by decide +kernel
theorem dX11_restore_5 : decode cX11_restore 5 = .ok (.getfield 118, 3) := by decide +kernel
theorem dX11_restore_8 : decode cX11_restore 8 = .ok (.if_icmp .eq 6, 3) := by decide +kernel
theorem dX11_restore_11 : decode cX11_restore 11 = .ok (.bipush (-103), 2) := by decide +kernel
theorem dX11_restore_13 : decode cX11_restore 13 = .ok (.ireturn, 1) := by decide +kernel
theorem dX11_restore_14 : decode cX11_restore 14 = .ok (.aload_n 0, 1) := by decide +kernel
theorem dX11_restore_15 : decode cX11_restore 15 = .ok (.getfield 44, 3) := by decide +kernel
theorem dX11_restore_18 : decode cX11_restore 18 = .ok (.aload_n 0, 1) := by decide +kernel
theorem dX11_restore_19 : decode cX11_restore 19 = .ok (.getfield 25, 3) := by decide +kernel
theorem dX11_restore_22 : decode cX11_restore 22 = .ok (.invokestatic 105, 3) := by decide +kernel
theorem dX11_restore_25 : decode cX11_restore 25 = .ok (.aload_n 0, 1) := by decide +kernel
theorem dX11_restore_26 : decode cX11_restore 26 = .ok (.getfield 47, 3) := by decide +kernel
theorem dX11_restore_29 : decode cX11_restore 29 = .ok (.aload_n 0, 1) := by decide +kernel
theorem dX11_restore_30 : decode cX11_restore 30 = .ok (.getfield 38, 3) := by decide +kernel
theorem dX11_restore_33 : decode cX11_restore 33 = .ok (.invokestatic 105, 3) := by decide +kernel
theorem dX11_restore_36 : decode cX11_restore 36 = .ok (.aload_n 0, 1) := by decide +kernel
theorem dX11_restore_37 : decode cX11_restore 37 = .ok (.aload_n 0, 1) := by decide +kernel
theorem dX11_restore_38 : decode cX11_restore 38 = .ok (.getfield 229, 3) := by decide +kernel
theorem dX11_restore_41 : decode cX11_restore 41 = .ok (.putfield 109, 3) := by decide +kernel
theorem dX11_restore_44 : decode cX11_restore 44 = .ok (.aload_n 0, 1) := by decide +kernel
theorem dX11_restore_45 : decode cX11_restore 45 = .ok (.aload_n 0, 1) := by decide +kernel
theorem dX11_restore_46 : decode cX11_restore 46 = .ok (.getfield 232, 3) := by decide +kernel
theorem dX11_restore_49 : decode cX11_restore 49 = .ok (.putfield 112, 3) := by decide +kernel
theorem dX11_restore_52 : decode cX11_restore 52 = .ok (.aload_n 0, 1) := by decide +kernel
theorem dX11_restore_53 : decode cX11_restore 53 = .ok (.aload_n 0, 1) := by decide +kernel
theorem dX11_restore_54 : decode cX11_restore 54 = .ok (.getfield 235, 3) := by decide +kernel
theorem dX11_restore_57 : decode cX11_restore 57 = .ok (.putfield 115, 3) := by decide +kernel
theorem dX11_restore_60 : decode cX11_restore 60 = .ok (.aload_n 0, 1) := by decide +kernel

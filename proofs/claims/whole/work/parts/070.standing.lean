/-- what KingdomAtDice$Standing.hasHall answers and leaves, by its instructions -/
def sp_X7_hasHall (T : Nat) : Int32 :=
  if (nI T) ≤ 0 then
    0
  else
    1
theorem zb_X7_hasHall (T : Nat) : sp_X7_hasHall T = 0 ∨ sp_X7_hasHall T = 1 := by
  unfold sp_X7_hasHall
  repeat' split
  all_goals first | exact Or.inl rfl | exact Or.inr rfl | simp
set_option maxHeartbeats 4000000 in
set_option maxRecDepth 100000 in
theorem c_X7_hasHall (l : Launch) (g : kd_G) (sz : Nat) (so : Nat) (sa : Nat) (sn : Nat) (T : Nat) (go : Int32) (th : Nat) (sm : Nat) (hT : T ≤ 6) : kd_MI l yX7_hasHall wsX7_hasHall ({ frames := 0, cells := 0, slots := 0, locals := 0 }) [.ref so] g [(so, .inr (7, [.ref sa, .ref sn, .int (nI T), .int go, .int (nI th), .int (nI sm)]))] sz (fun r (_ : Unit) => r = sp_X7_hasHall T) (fun _ => [(so, .inr (7, [.ref sa, .ref sn, .int (nI T), .int go, .int (nI th), .int (nI sm)]))]) 0 0 := by
  refine kd_met (l := l) (y := yX7_hasHall) (ws := wsX7_hasHall) (rm := { frames := 0, cells := 0, slots := 0, locals := 0 }) (av := [.ref so]) (g := g) (WS := [(so, .inr (7, [.ref sa, .ref sn, .int (nI T), .int go, .int (nI th), .int (nI sm)]))]) (sz := sz) (mc := 0) (ms := 0) (cc := cX7_hasHall) (maxL := 1) (ret := (some .boolean)) (own := RX7) (fun A => va_Qi (fun r (_ : Unit) => r = sp_X7_hasHall T) (fun u t => kd_post g A [(so, .inr (7, [.ref sa, .ref sn, .int (nI T), .int go, .int (nI th), .int (nI sm)]))] t) A) (by decide) rfl rfl (Nat.le_of_ble_eq_true rfl) ?_
  intro p e s m below meth c A ls hx hb hr hml hts hown hlocks hnm hA hP hK hD hS hE hl
  have hl : lv_has ls 1 [(0, .ref so)] := hl
  have hiX7 : ∀ w ∈ u_ws RX7 TX7 6, w ∈ wsX7_hasHall := by decide +kernel
  refine lv_aload_n hx hb dX7_hasHall_0 rfl (lv_at hl 0 rfl) ?_
  refine va_get (ci := 7) (v := .int (nI T)) (C := RX7) (T := TX7) (N := 6) hx hb hts hiX7 hown hK hP (0) rfl rfl 2 (by decide) (hts (.fieldLink RX7 22 "KingdomAtDice$Standing" "thingMany" "I") (by decide +kernel)) (fun _ h9 => h9) rfl dX7_hasHall_1 ?_
  refine lv_if_le (tgt := 11) hx hb dX7_hasHall_4 (by decide) (fun c_4 => ?_) (fun c_4 => ?_)
  · have n_4 : T ≤ 0 := kd_ce (a := T) (b := 0) (by omega) (by omega) c_4
    refine lv_iconst (v := 0) hx hb dX7_hasHall_11 (by decide) ?_
    exact kd_zret hx hb hr hlocks hK hS dX7_hasHall_12 (Or.inl rfl) (()) (by rw [sp_X7_hasHall, if_pos c_4]) hP hD
  · have n_4 : 0 < T := kd_cne (a := T) (b := 0) (by omega) (by omega) c_4
    refine lv_iconst (v := 1) hx hb dX7_hasHall_7 (by decide) ?_
    refine lv_goto (tgt := 12) hx hb dX7_hasHall_8 (by decide) ?_
    exact kd_zret hx hb hr hlocks hK hS dX7_hasHall_12 (Or.inr rfl) (()) (by rw [sp_X7_hasHall, if_neg c_4]) hP hD
/-- what KingdomAtDice$Standing.has answers and leaves, by its instructions -/
def sp_X7_has (T : Nat) (p0 : Int32) : Int32 :=
  sp_X10_isBelow p0 (nI T)
theorem zb_X7_has (T : Nat) (p0 : Int32) : sp_X7_has T p0 = 0 ∨ sp_X7_has T p0 = 1 := by
  unfold sp_X7_has
  repeat' split
  all_goals first | exact Or.inl rfl | exact Or.inr rfl | simp | exact zb_X10_isBelow _ _
set_option maxHeartbeats 4000000 in
set_option maxRecDepth 100000 in
theorem c_X7_has (l : Launch) (g : kd_G) (sz : Nat) (so : Nat) (sa : Nat) (sn : Nat) (T : Nat) (go : Int32) (th : Nat) (sm : Nat) (p0 : Int32) (hT : T ≤ 6) : kd_MI l yX7_has wsX7_has ({ frames := 1, cells := 0, slots := 0, locals := 21 }) [.ref so, .int p0] g [(so, .inr (7, [.ref sa, .ref sn, .int (nI T), .int go, .int (nI th), .int (nI sm)]))] sz (fun r (_ : Unit) => r = sp_X7_has T p0) (fun _ => [(so, .inr (7, [.ref sa, .ref sn, .int (nI T), .int go, .int (nI th), .int (nI sm)]))]) 0 0 := by
  refine kd_met (l := l) (y := yX7_has) (ws := wsX7_has) (rm := { frames := 1, cells := 0, slots := 0, locals := 21 }) (av := [.ref so, .int p0]) (g := g) (WS := [(so, .inr (7, [.ref sa, .ref sn, .int (nI T), .int go, .int (nI th), .int (nI sm)]))]) (sz := sz) (mc := 0) (ms := 0) (cc := cX7_has) (maxL := 2) (ret := (some .boolean)) (own := RX7) (fun A => va_Qi (fun r (_ : Unit) => r = sp_X7_has T p0) (fun u t => kd_post g A [(so, .inr (7, [.ref sa, .ref sn, .int (nI T), .int go, .int (nI th), .int (nI sm)]))] t) A) (by decide) rfl rfl (Nat.le_of_ble_eq_true rfl) ?_
  intro p e s m below meth c A ls hx hb hr hml hts hown hlocks hnm hA hP hK hD hS hE hl
  have hl : lv_has ls 2 [(0, .ref so), (1, .int p0)] := hl
  have hiX7 : ∀ w ∈ u_ws RX7 TX7 6, w ∈ wsX7_has := by decide +kernel
  refine lv_iload_n hx hb dX7_has_0 rfl (lv_at hl 1 rfl) ?_
  refine lv_aload_n hx hb dX7_has_1 rfl (lv_at hl 0 rfl) ?_
  refine va_get (ci := 7) (v := .int (nI T)) (C := RX7) (T := TX7) (N := 6) hx hb hts hiX7 hown hK hP (0) rfl rfl 2 (by decide) (hts (.fieldLink RX7 22 "KingdomAtDice$Standing" "thingMany" "I") (by decide +kernel)) (fun _ h9 => h9) rfl dX7_has_2 ?_
  refine kd_callIK (g := g) (wc := []) (va_runSN (mc := 0) (ms := 0) (rm := { frames := 0, cells := 0, slots := 0, locals := 0 }) (host := "KingdomAtDice") (As := [.int p0, .int (nI T)]) (rest := []) ⟨hx, hb, hml, hown, hts⟩ (c_X10_isBelow l g s.heap.size p0 (nI T) ) ⟨va_cnB 2 hts gX7_has_X10_isBelow_n62 rfl rfl rfl (kd_N hE 22 rfl) (hts (.initialized RX10) (by decide +kernel)) (by decide +kernel) ⟨Nat.le_of_ble_eq_true rfl, Nat.le_of_ble_eq_true rfl⟩, (hts (.static yX10_isBelow) (by decide +kernel)), trivial⟩ (kd_preS (wc := []) (av := [.int p0, .int (nI T)]) hP hD hS hA hK hE [] rfl (by decide)) rfl rfl hl.1 rfl (lv_room (Nat.le_of_ble_eq_true rfl)) dX7_has_5 ⟨Nat.le_of_ble_eq_true rfl, Nat.le_of_ble_eq_true rfl⟩) hP hD hS hA [] rfl (fun r_5 _ H locs hw hP hS => ?_)
  subst hw
  exact kd_zret hx hb hr hlocks hK hS dX7_has_8 (zb_X10_isBelow _ _) (()) (rfl) hP hD
theorem kd_has {T : Nat} {x : Int32} (h : ¬ sp_X7_has T x = 0) (hT : T ≤ 6) : vp_in x 6 := kd_below (n := T) (by simpa only [sp_X7_has] using h) hT (by decide)
/-- what KingdomAtDice$Standing.mayStake answers and leaves, by its instructions -/
def sp_X7_mayStake (T : Nat) (R : Nat → Nat → Int32) (p0 : Int32) (p1 : Int32) : Int32 :=
  if (sp_X7_has T p0) = 0 then
    0
  else
    if (R p0.toNatClampNeg 2) = 0 then
      0
    else
      if (sp_X7_has T p1) = 0 then
        if p1 = (-1) then
          1
        else
          0
      else
        if (R p1.toNatClampNeg 2) = 0 then
          if (R p0.toNatClampNeg 1) < (R p1.toNatClampNeg 1) then
            0
          else
            1
        else
          0
theorem zb_X7_mayStake (T : Nat) (R : Nat → Nat → Int32) (p0 : Int32) (p1 : Int32) : sp_X7_mayStake T R p0 p1 = 0 ∨ sp_X7_mayStake T R p0 p1 = 1 := by
  unfold sp_X7_mayStake
  repeat' split
  all_goals first | exact Or.inl rfl | exact Or.inr rfl | simp
set_option maxHeartbeats 4000000 in
set_option maxRecDepth 100000 in
theorem c_X7_mayStake (l : Launch) (g : kd_G) (sz : Nat) (so : Nat) (sa : Nat) (sn : Nat) (T : Nat) (go : Int32) (th : Nat) (sm : Nat) (tq : Nat → Nat) (R : Nat → Nat → Int32) (p0 : Int32) (p1 : Int32) (hT : T ≤ 6) : kd_MI l yX7_mayStake wsX7_mayStake ({ frames := 2, cells := 0, slots := 0, locals := 42 }) [.ref so, .int p0, .int p1] g ([(so, .inr (7, [.ref sa, .ref sn, .int (nI T), .int go, .int (nI th), .int (nI sm)])), (sa, .inl (g.2.1 3, 6, .inr (.inr (.inr (.inr (fun j => some (tq j)))))))] ++ (kd_th tq R)) sz (fun r (_ : Unit) => r = sp_X7_mayStake T R p0 p1) (fun _ => ([(so, .inr (7, [.ref sa, .ref sn, .int (nI T), .int go, .int (nI th), .int (nI sm)])), (sa, .inl (g.2.1 3, 6, .inr (.inr (.inr (.inr (fun j => some (tq j)))))))] ++ (kd_th tq R))) 0 0 := by
  refine kd_met (l := l) (y := yX7_mayStake) (ws := wsX7_mayStake) (rm := { frames := 2, cells := 0, slots := 0, locals := 42 }) (av := [.ref so, .int p0, .int p1]) (g := g) (WS := ([(so, .inr (7, [.ref sa, .ref sn, .int (nI T), .int go, .int (nI th), .int (nI sm)])), (sa, .inl (g.2.1 3, 6, .inr (.inr (.inr (.inr (fun j => some (tq j)))))))] ++ (kd_th tq R))) (sz := sz) (mc := 0) (ms := 0) (cc := cX7_mayStake) (maxL := 3) (ret := (some .boolean)) (own := RX7) (fun A => va_Qi (fun r (_ : Unit) => r = sp_X7_mayStake T R p0 p1) (fun u t => kd_post g A ([(so, .inr (7, [.ref sa, .ref sn, .int (nI T), .int go, .int (nI th), .int (nI sm)])), (sa, .inl (g.2.1 3, 6, .inr (.inr (.inr (.inr (fun j => some (tq j)))))))] ++ (kd_th tq R)) t) A) (by decide) rfl rfl (Nat.le_of_ble_eq_true rfl) ?_
  intro p e s m below meth c A ls hx hb hr hml hts hown hlocks hnm hA hP hK hD hS hE hl
  have hl : lv_has ls 3 [(0, .ref so), (1, .int p0), (2, .int p1)] := hl
  have hiX7 : ∀ w ∈ u_ws RX7 TX7 6, w ∈ wsX7_mayStake := by decide +kernel
  have hiX8 : ∀ w ∈ u_ws RX8 TX8 6, w ∈ wsX7_mayStake := by decide +kernel
  refine lv_aload_n hx hb dX7_mayStake_0 rfl (lv_at hl 0 rfl) ?_
  refine lv_iload_n hx hb dX7_mayStake_1 rfl (lv_at hl 1 rfl) ?_
  refine kd_callIK (g := g) (wc := [(so, .inr (7, [.ref sa, .ref sn, .int (nI T), .int go, .int (nI th), .int (nI sm)]))]) (va_runV (mc := 0) (ms := 0) (rm := { frames := 1, cells := 0, slots := 0, locals := 21 }) (As := [.int p0]) (rest := []) ⟨hx, hb, hml, hown, hts⟩ (c_X7_has l g s.heap.size so sa sn T go th sm p0 hT) (cwV 1 hts gX7_mayStake_X7_has rfl rfl rfl (by decide +kernel) ⟨Nat.le_of_ble_eq_true rfl, Nat.le_of_ble_eq_true rfl⟩) (kd_preV (wc := [(so, .inr (7, [.ref sa, .ref sn, .int (nI T), .int go, .int (nI th), .int (nI sm)]))]) (va_recv hK hP (ci := 7) (q0 := 0) rfl rfl) hP hD hS hA hK hE [0] rfl (by decide)) rfl rfl hl.1 rfl (lv_room (Nat.le_of_ble_eq_true rfl)) dX7_mayStake_2 ⟨Nat.le_of_ble_eq_true rfl, Nat.le_of_ble_eq_true rfl⟩) hP hD hS hA [0] rfl (fun r_2 _ H locs hw hP hS => ?_)
  subst hw
  refine lv_if_eq (tgt := 20) hx hb dX7_mayStake_5 (by decide) (fun c_5 => ?_) (fun c_5 => ?_)
  · refine lv_iconst (v := 0) hx hb dX7_mayStake_20 (by decide) ?_
    exact kd_zret hx hb hr hlocks hK hS dX7_mayStake_21 (Or.inl rfl) (()) (by rw [sp_X7_mayStake, if_pos c_5]) hP hD
  · refine lv_aload_n hx hb dX7_mayStake_8 rfl (lv_at hl 0 rfl) ?_
    refine va_get (ci := 7) (v := .ref sa) (C := RX7) (T := TX7) (N := 6) hx hb hts hiX7 hown hK hP (0) rfl rfl 0 (by decide) (hts (.fieldLink RX7 11 "KingdomAtDice$Standing" "things" "[LKingdomAtDice$Thing;") (by decide +kernel)) (fun _ h9 => h9) rfl dX7_mayStake_9 ?_
    refine lv_iload_n hx hb dX7_mayStake_12 rfl (lv_at hl 1 rfl) ?_
    refine kd_aldq hx hb hK hP 1 3 rfl rfl (kd_has c_5 hT) dX7_mayStake_13 ?_
    refine va_getN (ci := 8) (v := .int (R p0.toNatClampNeg 2)) (C := RX8) (T := TX8) (N := 6) hx hb hts hiX8 hown hK hP (p0.toNatClampNeg + 2) (kd_th_at0 (kd_inlt (kd_has c_5 hT))) rfl 2 (by decide) (kd_Nb hE 51 rfl) (fun _ h9 => h9) rfl dX7_mayStake_14 ?_
    refine lv_if_ne (tgt := 22) hx hb dX7_mayStake_17 (by decide) (fun c_17 => ?_) (fun c_17 => ?_)
    · refine lv_aload_n hx hb dX7_mayStake_22 rfl (lv_at hl 0 rfl) ?_
      refine lv_iload_n hx hb dX7_mayStake_23 rfl (lv_at hl 2 rfl) ?_
      refine kd_callIK (g := g) (wc := [(so, .inr (7, [.ref sa, .ref sn, .int (nI T), .int go, .int (nI th), .int (nI sm)]))]) (va_runV (mc := 0) (ms := 0) (rm := { frames := 1, cells := 0, slots := 0, locals := 21 }) (As := [.int p1]) (rest := []) ⟨hx, hb, hml, hown, hts⟩ (c_X7_has l g H.size so sa sn T go th sm p1 hT) (cwV 1 hts gX7_mayStake_X7_has rfl rfl rfl (by decide +kernel) ⟨Nat.le_of_ble_eq_true rfl, Nat.le_of_ble_eq_true rfl⟩) (kd_preV (wc := [(so, .inr (7, [.ref sa, .ref sn, .int (nI T), .int go, .int (nI th), .int (nI sm)]))]) (va_recv hK hP (ci := 7) (q0 := 0) rfl rfl) hP hD hS hA hK hE [0] rfl (by decide)) rfl rfl hl.1 rfl (lv_room (Nat.le_of_ble_eq_true rfl)) dX7_mayStake_24 ⟨Nat.le_of_ble_eq_true rfl, Nat.le_of_ble_eq_true rfl⟩) hP hD hS hA [0] rfl (fun r_24 _ H locs hw hP hS => ?_)
      subst hw
      refine lv_if_ne (tgt := 41) hx hb dX7_mayStake_27 (by decide) (fun c_27 => ?_) (fun c_27 => ?_)
      · refine lv_aload_n hx hb dX7_mayStake_41 rfl (lv_at hl 0 rfl) ?_
        refine va_get (ci := 7) (v := .ref sa) (C := RX7) (T := TX7) (N := 6) hx hb hts hiX7 hown hK hP (0) rfl rfl 0 (by decide) (hts (.fieldLink RX7 11 "KingdomAtDice$Standing" "things" "[LKingdomAtDice$Thing;") (by decide +kernel)) (fun _ h9 => h9) rfl dX7_mayStake_42 ?_
        refine lv_iload_n hx hb dX7_mayStake_45 rfl (lv_at hl 2 rfl) ?_
        refine kd_aldq hx hb hK hP 1 3 rfl rfl (kd_has c_27 hT) dX7_mayStake_46 ?_
        refine va_getN (ci := 8) (v := .int (R p1.toNatClampNeg 2)) (C := RX8) (T := TX8) (N := 6) hx hb hts hiX8 hown hK hP (p1.toNatClampNeg + 2) (kd_th_at0 (kd_inlt (kd_has c_27 hT))) rfl 2 (by decide) (kd_Nb hE 51 rfl) (fun _ h9 => h9) rfl dX7_mayStake_47 ?_
        refine lv_if_ne (tgt := 78) hx hb dX7_mayStake_50 (by decide) (fun c_50 => ?_) (fun c_50 => ?_)
        · refine lv_iconst (v := 0) hx hb dX7_mayStake_78 (by decide) ?_
          exact kd_zret hx hb hr hlocks hK hS dX7_mayStake_79 (Or.inl rfl) (()) (by rw [sp_X7_mayStake, if_neg c_5, if_neg c_17, if_neg c_27, if_neg c_50]) hP hD
        · refine lv_aload_n hx hb dX7_mayStake_53 rfl (lv_at hl 0 rfl) ?_
          refine va_get (ci := 7) (v := .ref sa) (C := RX7) (T := TX7) (N := 6) hx hb hts hiX7 hown hK hP (0) rfl rfl 0 (by decide) (hts (.fieldLink RX7 11 "KingdomAtDice$Standing" "things" "[LKingdomAtDice$Thing;") (by decide +kernel)) (fun _ h9 => h9) rfl dX7_mayStake_54 ?_
          refine lv_iload_n hx hb dX7_mayStake_57 rfl (lv_at hl 2 rfl) ?_
          refine kd_aldq hx hb hK hP 1 3 rfl rfl (kd_has c_27 hT) dX7_mayStake_58 ?_
          refine va_getN (ci := 8) (v := .int (R p1.toNatClampNeg 1)) (C := RX8) (T := TX8) (N := 6) hx hb hts hiX8 hown hK hP (p1.toNatClampNeg + 2) (kd_th_at0 (kd_inlt (kd_has c_27 hT))) rfl 1 (by decide) (kd_Nb hE 50 rfl) (fun _ h9 => h9) rfl dX7_mayStake_59 ?_
          refine lv_aload_n hx hb dX7_mayStake_62 rfl (lv_at hl 0 rfl) ?_
          refine va_get (ci := 7) (v := .ref sa) (C := RX7) (T := TX7) (N := 6) hx hb hts hiX7 hown hK hP (0) rfl rfl 0 (by decide) (hts (.fieldLink RX7 11 "KingdomAtDice$Standing" "things" "[LKingdomAtDice$Thing;") (by decide +kernel)) (fun _ h9 => h9) rfl dX7_mayStake_63 ?_
          refine lv_iload_n hx hb dX7_mayStake_66 rfl (lv_at hl 1 rfl) ?_
          refine kd_aldq hx hb hK hP 1 3 rfl rfl (kd_has c_5 hT) dX7_mayStake_67 ?_
          refine va_getN (ci := 8) (v := .int (R p0.toNatClampNeg 1)) (C := RX8) (T := TX8) (N := 6) hx hb hts hiX8 hown hK hP (p0.toNatClampNeg + 2) (kd_th_at0 (kd_inlt (kd_has c_5 hT))) rfl 1 (by decide) (kd_Nb hE 50 rfl) (fun _ h9 => h9) rfl dX7_mayStake_68 ?_
          refine lv_icmp_gt (tgt := 78) hx hb dX7_mayStake_71 (by decide) (fun c_71 => ?_) (fun c_71 => ?_)
          · refine lv_iconst (v := 0) hx hb dX7_mayStake_78 (by decide) ?_
            exact kd_zret hx hb hr hlocks hK hS dX7_mayStake_79 (Or.inl rfl) (()) (by rw [sp_X7_mayStake, if_neg c_5, if_neg c_17, if_neg c_27, if_pos c_50, if_pos c_71]) hP hD
          · refine lv_iconst (v := 1) hx hb dX7_mayStake_74 (by decide) ?_
            refine lv_goto (tgt := 79) hx hb dX7_mayStake_75 (by decide) ?_
            exact kd_zret hx hb hr hlocks hK hS dX7_mayStake_79 (Or.inr rfl) (()) (by rw [sp_X7_mayStake, if_neg c_5, if_neg c_17, if_neg c_27, if_pos c_50, if_neg c_71]) hP hD
      · refine lv_iload_n hx hb dX7_mayStake_30 rfl (lv_at hl 2 rfl) ?_
        refine lv_iconst (v := (-1)) hx hb dX7_mayStake_31 (by decide) ?_
        refine lv_icmp_ne (tgt := 39) hx hb dX7_mayStake_32 (by decide) (fun c_32 => ?_) (fun c_32 => ?_)
        · refine lv_iconst (v := 0) hx hb dX7_mayStake_39 (by decide) ?_
          exact kd_zret hx hb hr hlocks hK hS dX7_mayStake_40 (Or.inl rfl) (()) (by rw [sp_X7_mayStake, if_neg c_5, if_neg c_17, if_pos c_27, if_neg c_32]) hP hD
        · refine lv_iconst (v := 1) hx hb dX7_mayStake_35 (by decide) ?_
          refine lv_goto (tgt := 40) hx hb dX7_mayStake_36 (by decide) ?_
          exact kd_zret hx hb hr hlocks hK hS dX7_mayStake_40 (Or.inr rfl) (()) (by rw [sp_X7_mayStake, if_neg c_5, if_neg c_17, if_pos c_27, if_pos c_32]) hP hD
    · refine lv_iconst (v := 0) hx hb dX7_mayStake_20 (by decide) ?_
      exact kd_zret hx hb hr hlocks hK hS dX7_mayStake_21 (Or.inl rfl) (()) (by rw [sp_X7_mayStake, if_neg c_5, if_pos c_17]) hP hD
theorem kd_may {T : Nat} {R : Nat → Nat → Int32} {x y : Int32} (h : ¬ sp_X7_mayStake T R x y = 0) (hT : T ≤ 6) : vp_in x 6 := by
  refine kd_has (T := T) (fun e => h ?_) hT
  rw [sp_X7_mayStake, if_pos e]
/-- whether SELF is the KING's (or there is none): from i on, k things -/
def kd_self (R : Nat → Nat → Int32) : Nat → Nat → Int32
  | _, 0 => 1
  | i, k + 1 => if R i 0 = 2 then R i 2 else kd_self R (i + 1) k
theorem kd_self_z {R : Nat → Nat → Int32} (hz : ∀ t, t < 6 → R t 2 = 0 ∨ R t 2 = 1) : ∀ k i, i + k ≤ 6 → kd_self R i k = 0 ∨ kd_self R i k = 1 := by
  intro k
  induction k with
  | zero => intro i _; exact Or.inr rfl
  | succ k ih =>
    intro i h
    rw [kd_self]
    split
    · exact hz i (by omega)
    · exact ih (i + 1) (by omega)
set_option maxHeartbeats 4000000 in
set_option maxRecDepth 100000 in
theorem c_X7_isSelfKings (l : Launch) (g : kd_G) (sz : Nat) (so : Nat) (sa : Nat) (sn : Nat) (T : Nat) (go : Int32) (th : Nat) (sm : Nat) (tq : Nat → Nat) (R : Nat → Nat → Int32) (hT : T ≤ 6) (hz : ∀ t, t < 6 → R t 2 = 0 ∨ R t 2 = 1) : kd_MI l yX7_isSelfKings wsX7_isSelfKings ({ frames := 0, cells := 0, slots := 0, locals := 0 }) [.ref so] g ([(so, .inr (7, [.ref sa, .ref sn, .int (nI T), .int go, .int (nI th), .int (nI sm)])), (sa, .inl (g.2.1 3, 6, .inr (.inr (.inr (.inr (fun j => some (tq j)))))))] ++ (kd_th tq R)) sz (fun r (_ : Unit) => r = kd_self R 0 T) (fun _ => ([(so, .inr (7, [.ref sa, .ref sn, .int (nI T), .int go, .int (nI th), .int (nI sm)])), (sa, .inl (g.2.1 3, 6, .inr (.inr (.inr (.inr (fun j => some (tq j)))))))] ++ (kd_th tq R))) 0 0 := by
  refine kd_met (l := l) (y := yX7_isSelfKings) (ws := wsX7_isSelfKings) (rm := { frames := 0, cells := 0, slots := 0, locals := 0 }) (av := [.ref so]) (g := g) (WS := ([(so, .inr (7, [.ref sa, .ref sn, .int (nI T), .int go, .int (nI th), .int (nI sm)])), (sa, .inl (g.2.1 3, 6, .inr (.inr (.inr (.inr (fun j => some (tq j)))))))] ++ (kd_th tq R))) (sz := sz) (mc := 0) (ms := 0) (cc := cX7_isSelfKings) (maxL := 2) (ret := (some .boolean)) (own := RX7) (fun A => va_Qi (fun r (_ : Unit) => r = kd_self R 0 T) (fun u t => kd_post g A ([(so, .inr (7, [.ref sa, .ref sn, .int (nI T), .int go, .int (nI th), .int (nI sm)])), (sa, .inl (g.2.1 3, 6, .inr (.inr (.inr (.inr (fun j => some (tq j)))))))] ++ (kd_th tq R)) t) A) (by decide) rfl rfl (Nat.le_of_ble_eq_true rfl) ?_
  intro p e s m below meth c A ls hx hb hr hml hts hown hlocks hnm hA hP hK hD hS hE hl
  have hl : lv_has ls 2 [(0, .ref so)] := hl
  have hiX7 : ∀ w ∈ u_ws RX7 TX7 6, w ∈ wsX7_isSelfKings := by decide +kernel
  have hiX8 : ∀ w ∈ u_ws RX8 TX8 6, w ∈ wsX7_isSelfKings := by decide +kernel
  refine lv_iconst (v := 0) hx hb dX7_isSelfKings_0 (by decide) ?_
  refine lv_istore_n (lv' := [(1, .int 0), (0, .ref so)]) hx hb dX7_isSelfKings_1 rfl hl (by decide) rfl (fun ls hl => ?_)
  have loop_2 : ∀ (n_2 : Nat) (i : Nat) (k : Nat), (i + k = T) → (kd_self R 0 T = kd_self R i k) → (k) < n_2 → ∀ (H : Heap) (locs : List Loc), va_P g.1 vwCl ([(so, .inr (7, [.ref sa, .ref sn, .int (nI T), .int go, .int (nI th), .int (nI sm)])), (sa, .inl (g.2.1 3, 6, .inr (.inr (.inr (.inr (fun j => some (tq j)))))))] ++ (kd_th tq R)) H → va_D A ([(so, .inr (7, [.ref sa, .ref sn, .int (nI T), .int go, .int (nI th), .int (nI sm)])), (sa, .inl (g.2.1 3, 6, .inr (.inr (.inr (.inr (fun j => some (tq j)))))))] ++ (kd_th tq R)) → va_S A s.heap H locs → ∀ (ls : Array Slot), lv_has ls 2 [(0, .ref so), (1, .int (nI i))] → W p l e ({ frames := 0, cells := 0, slots := 0, locals := 0 } : Room) s m ([.ref so] : List Value).toArray below meth c H locs 0 0 (MQ below (va_Qi (fun r (_ : Unit) => r = kd_self R 0 T) (fun u t => kd_post g A ([(so, .inr (7, [.ref sa, .ref sn, .int (nI T), .int go, .int (nI th), .int (nI sm)])), (sa, .inl (g.2.1 3, 6, .inr (.inr (.inr (.inr (fun j => some (tq j)))))))] ++ (kd_th tq R)) t) A) ([.ref so] : List Value).toArray s 0 0 A) (F0 m 2 ls []) := by
    intro n_2
    induction n_2 with
    | zero => intro i k _ _ hm_2; exact absurd hm_2 (Nat.not_lt_zero _)
    | succ n_2 ih_2 =>
      intro i k hik hq hm_2 H locs hP hD hS ls hl
      refine lv_iload_n hx hb dX7_isSelfKings_2 rfl (lv_at hl 1 rfl) ?_
      refine lv_aload_n hx hb dX7_isSelfKings_3 rfl (lv_at hl 0 rfl) ?_
      refine va_get (ci := 7) (v := .int (nI T)) (C := RX7) (T := TX7) (N := 6) hx hb hts hiX7 hown hK hP (0) rfl rfl 2 (by decide) (hts (.fieldLink RX7 22 "KingdomAtDice$Standing" "thingMany" "I") (by decide +kernel)) (fun _ h9 => h9) rfl dX7_isSelfKings_4 ?_
      refine lv_icmp_ge (tgt := 39) hx hb dX7_isSelfKings_7 (by decide) (fun c_7 => ?_) (fun c_7 => ?_)
      · have n_7 : T ≤ i := kd_ce (a := T) (b := i) (by omega) (by omega) c_7
        obtain rfl : k = 0 := by omega
        refine lv_iconst (v := 1) hx hb dX7_isSelfKings_39 (by decide) ?_
        exact kd_zret hx hb hr hlocks hK hS dX7_isSelfKings_40 (Or.inr rfl) (()) (by rw [hq]; rfl) hP hD
      · have n_7 : i < T := kd_cne (a := T) (b := i) (by omega) (by omega) c_7
        obtain ⟨k, rfl⟩ : ∃ z, k = z + 1 := ⟨k - 1, by omega⟩
        refine lv_aload_n hx hb dX7_isSelfKings_10 rfl (lv_at hl 0 rfl) ?_
        refine va_get (ci := 7) (v := .ref sa) (C := RX7) (T := TX7) (N := 6) hx hb hts hiX7 hown hK hP (0) rfl rfl 0 (by decide) (hts (.fieldLink RX7 11 "KingdomAtDice$Standing" "things" "[LKingdomAtDice$Thing;") (by decide +kernel)) (fun _ h9 => h9) rfl dX7_isSelfKings_11 ?_
        refine lv_iload_n hx hb dX7_isSelfKings_14 rfl (lv_at hl 1 rfl) ?_
        refine kd_aldN hx hb hK hP 1 3 (k := i) rfl rfl (by omega) (by decide) dX7_isSelfKings_15 ?_
        refine va_getN (ci := 8) (v := .int (R i 0)) (C := RX8) (T := TX8) (N := 6) hx hb hts hiX8 hown hK hP (i + 2) (kd_th_at0 (by omega)) rfl 0 (by decide) (kd_Nb hE 49 rfl) (fun _ h9 => h9) rfl dX7_isSelfKings_16 ?_
        refine lv_iconst (v := 2) hx hb dX7_isSelfKings_19 (by decide) ?_
        refine lv_icmp_ne (tgt := 33) hx hb dX7_isSelfKings_20 (by decide) (fun c_20 => ?_) (fun c_20 => ?_)
        · refine lv_iinc (v := nI (i + 1)) (lv' := [(1, .int (nI (i + 1))), (0, .ref so)]) hx hb dX7_isSelfKings_33 hl (k := 1) rfl (nI_1 _) (by decide) rfl (fun ls hl => ?_)
          refine lv_goto (tgt := 2) hx hb dX7_isSelfKings_36 (by decide) ?_
          exact ih_2 (i + 1) k (by omega) (by rw [hq, kd_self, if_neg c_20]) (by omega) _ _ hP hD hS ls (lv_sub hl [1, 0] rfl)
        · refine lv_aload_n hx hb dX7_isSelfKings_23 rfl (lv_at hl 0 rfl) ?_
          refine va_get (ci := 7) (v := .ref sa) (C := RX7) (T := TX7) (N := 6) hx hb hts hiX7 hown hK hP (0) rfl rfl 0 (by decide) (hts (.fieldLink RX7 11 "KingdomAtDice$Standing" "things" "[LKingdomAtDice$Thing;") (by decide +kernel)) (fun _ h9 => h9) rfl dX7_isSelfKings_24 ?_
          refine lv_iload_n hx hb dX7_isSelfKings_27 rfl (lv_at hl 1 rfl) ?_
          refine kd_aldN hx hb hK hP 1 3 (k := i) rfl rfl (by omega) (by decide) dX7_isSelfKings_28 ?_
          refine va_getN (ci := 8) (v := .int (R i 2)) (C := RX8) (T := TX8) (N := 6) hx hb hts hiX8 hown hK hP (i + 2) (kd_th_at0 (by omega)) rfl 2 (by decide) (kd_Nb hE 51 rfl) (fun _ h9 => h9) rfl dX7_isSelfKings_29 ?_
          exact kd_zret hx hb hr hlocks hK hS dX7_isSelfKings_32 (hz i (by omega)) (()) (by rw [hq, kd_self, if_pos c_20]) hP hD
  exact loop_2 (T + 1) 0 T (by omega) rfl (Nat.lt_succ_self _) _ _ hP hD hS ls (lv_sub hl [1, 0] rfl)
/-- how many things the KING may stake for x, of the first i -/
def kd_sk (T : Nat) (R : Nat → Nat → Int32) (x : Int32) : Nat → Nat
  | 0 => 0
  | i + 1 => if sp_X7_mayStake T R (nI i) x = 0 then kd_sk T R x i else kd_sk T R x i + 1
theorem kd_sk_le {T : Nat} {R : Nat → Nat → Int32} {x : Int32} : ∀ i, kd_sk T R x i ≤ i
  | 0 => Nat.le_refl 0
  | i + 1 => by
    have := kd_sk_le (T := T) (R := R) (x := x) i
    rw [kd_sk]
    split <;> omega
/-- which of the first i things would be the KING's by a law, as bits -/
def kd_kb (R : Nat → Nat → Int32) (x : Int32) : Nat → Int32
  | 0 => 0
  | i + 1 => if sp_X8_isKingsBy R i x = 0 then kd_kb R x i else kd_kb R x i ||| ((1 : Int32) <<< ((nI i) &&& 31))
/-- the worth together of those of the first i that the bits have -/
def kd_wo (R : Nat → Nat → Int32) (x : Int32) : Nat → Int32
  | 0 => 0
  | i + 1 => if ((x >>> ((nI i) &&& 31)) &&& 1) = 0 then kd_wo R x i else kd_wo R x i + R i 1
/-- how many of the first i were not lost rightly -/
def kd_wr (R : Nat → Nat → Int32) : Nat → Nat
  | 0 => 0
  | i + 1 => if sp_X8_isWronglyLost R i = 0 then kd_wr R i else kd_wr R i + 1
set_option maxHeartbeats 4000000 in
set_option maxRecDepth 100000 in
theorem c_X7_stakesFor (l : Launch) (g : kd_G) (sz : Nat) (so : Nat) (sa : Nat) (sn : Nat) (T : Nat) (go : Int32) (th : Nat) (sm : Nat) (tq : Nat → Nat) (R : Nat → Nat → Int32) (p0 : Int32) (hT : T ≤ 6) : kd_MI l yX7_stakesFor wsX7_stakesFor ({ frames := 3, cells := 0, slots := 0, locals := 64 }) [.ref so, .int p0] g ([(so, .inr (7, [.ref sa, .ref sn, .int (nI T), .int go, .int (nI th), .int (nI sm)])), (sa, .inl (g.2.1 3, 6, .inr (.inr (.inr (.inr (fun j => some (tq j)))))))] ++ (kd_th tq R)) sz (fun r (_ : Unit) => r = nI (kd_sk T R p0 T)) (fun _ => ([(so, .inr (7, [.ref sa, .ref sn, .int (nI T), .int go, .int (nI th), .int (nI sm)])), (sa, .inl (g.2.1 3, 6, .inr (.inr (.inr (.inr (fun j => some (tq j)))))))] ++ (kd_th tq R))) 0 0 := by
  refine kd_met (l := l) (y := yX7_stakesFor) (ws := wsX7_stakesFor) (rm := { frames := 3, cells := 0, slots := 0, locals := 64 }) (av := [.ref so, .int p0]) (g := g) (WS := ([(so, .inr (7, [.ref sa, .ref sn, .int (nI T), .int go, .int (nI th), .int (nI sm)])), (sa, .inl (g.2.1 3, 6, .inr (.inr (.inr (.inr (fun j => some (tq j)))))))] ++ (kd_th tq R))) (sz := sz) (mc := 0) (ms := 0) (cc := cX7_stakesFor) (maxL := 4) (ret := (some .int)) (own := RX7) (fun A => va_Qi (fun r (_ : Unit) => r = nI (kd_sk T R p0 T)) (fun u t => kd_post g A ([(so, .inr (7, [.ref sa, .ref sn, .int (nI T), .int go, .int (nI th), .int (nI sm)])), (sa, .inl (g.2.1 3, 6, .inr (.inr (.inr (.inr (fun j => some (tq j)))))))] ++ (kd_th tq R)) t) A) (by decide) rfl rfl (Nat.le_of_ble_eq_true rfl) ?_
  intro p e s m below meth c A ls hx hb hr hml hts hown hlocks hnm hA hP hK hD hS hE hl
  have hl : lv_has ls 4 [(0, .ref so), (1, .int p0)] := hl
  have hiX7 : ∀ w ∈ u_ws RX7 TX7 6, w ∈ wsX7_stakesFor := by decide +kernel
  refine lv_iconst (v := 0) hx hb dX7_stakesFor_0 (by decide) ?_
  refine lv_istore_n (lv' := [(2, .int 0), (0, .ref so), (1, .int p0)]) hx hb dX7_stakesFor_1 rfl hl (by decide) rfl (fun ls hl => ?_)
  refine lv_iconst (v := 0) hx hb dX7_stakesFor_2 (by decide) ?_
  refine lv_istore_n (lv' := [(3, .int 0), (2, .int 0), (0, .ref so), (1, .int p0)]) hx hb dX7_stakesFor_3 rfl hl (by decide) rfl (fun ls hl => ?_)
  have loop_4 : ∀ (n_4 : Nat) (i : Nat) (a : Nat), (i ≤ T) → (a = kd_sk T R p0 i) → (T - i) < n_4 → ∀ (H : Heap) (locs : List Loc), va_P g.1 vwCl ([(so, .inr (7, [.ref sa, .ref sn, .int (nI T), .int go, .int (nI th), .int (nI sm)])), (sa, .inl (g.2.1 3, 6, .inr (.inr (.inr (.inr (fun j => some (tq j)))))))] ++ (kd_th tq R)) H → va_D A ([(so, .inr (7, [.ref sa, .ref sn, .int (nI T), .int go, .int (nI th), .int (nI sm)])), (sa, .inl (g.2.1 3, 6, .inr (.inr (.inr (.inr (fun j => some (tq j)))))))] ++ (kd_th tq R)) → va_S A s.heap H locs → ∀ (ls : Array Slot), lv_has ls 4 [(0, .ref so), (1, .int p0), (2, .int (nI a)), (3, .int (nI i))] → W p l e ({ frames := 3, cells := 0, slots := 0, locals := 64 } : Room) s m ([.ref so, .int p0] : List Value).toArray below meth c H locs 0 0 (MQ below (va_Qi (fun r (_ : Unit) => r = nI (kd_sk T R p0 T)) (fun u t => kd_post g A ([(so, .inr (7, [.ref sa, .ref sn, .int (nI T), .int go, .int (nI th), .int (nI sm)])), (sa, .inl (g.2.1 3, 6, .inr (.inr (.inr (.inr (fun j => some (tq j)))))))] ++ (kd_th tq R)) t) A) ([.ref so, .int p0] : List Value).toArray s 0 0 A) (F0 m 4 ls []) := by
    intro n_4
    induction n_4 with
    | zero => intro i a _ _ hm_4; exact absurd hm_4 (Nat.not_lt_zero _)
    | succ n_4 ih_4 =>
      intro i a hi ha hm_4 H locs hP hD hS ls hl
      refine lv_iload_n hx hb dX7_stakesFor_4 rfl (lv_at hl 3 rfl) ?_
      refine lv_aload_n hx hb dX7_stakesFor_5 rfl (lv_at hl 0 rfl) ?_
      refine va_get (ci := 7) (v := .int (nI T)) (C := RX7) (T := TX7) (N := 6) hx hb hts hiX7 hown hK hP (0) rfl rfl 2 (by decide) (hts (.fieldLink RX7 22 "KingdomAtDice$Standing" "thingMany" "I") (by decide +kernel)) (fun _ h9 => h9) rfl dX7_stakesFor_6 ?_
      refine lv_icmp_ge (tgt := 30) hx hb dX7_stakesFor_9 (by decide) (fun c_9 => ?_) (fun c_9 => ?_)
      · have n_9 : T ≤ i := kd_ce (a := T) (b := i) (by omega) (by omega) c_9
        refine lv_iload_n hx hb dX7_stakesFor_30 rfl (lv_at hl 2 rfl) ?_
        exact kd_iret hx hb hr hlocks hK hS dX7_stakesFor_31 (()) (by rw [ha, show i = T by omega]) hP hD
      · have n_9 : i < T := kd_cne (a := T) (b := i) (by omega) (by omega) c_9
        refine lv_aload_n hx hb dX7_stakesFor_12 rfl (lv_at hl 0 rfl) ?_
        refine lv_iload_n hx hb dX7_stakesFor_13 rfl (lv_at hl 3 rfl) ?_
        refine lv_iload_n hx hb dX7_stakesFor_14 rfl (lv_at hl 1 rfl) ?_
        refine kd_callIK (g := g) (wc := ([(so, .inr (7, [.ref sa, .ref sn, .int (nI T), .int go, .int (nI th), .int (nI sm)])), (sa, .inl (g.2.1 3, 6, .inr (.inr (.inr (.inr (fun j => some (tq j)))))))] ++ (kd_th tq R))) (va_runV (mc := 0) (ms := 0) (rm := { frames := 2, cells := 0, slots := 0, locals := 42 }) (As := [.int (nI i), .int p0]) (rest := []) ⟨hx, hb, hml, hown, hts⟩ (c_X7_mayStake l g H.size so sa sn T go th sm tq R (nI i) p0 hT) (cwV 2 hts gX7_stakesFor_X7_mayStake rfl rfl rfl (by decide +kernel) ⟨Nat.le_of_ble_eq_true rfl, Nat.le_of_ble_eq_true rfl⟩) (kd_preV (wc := ([(so, .inr (7, [.ref sa, .ref sn, .int (nI T), .int go, .int (nI th), .int (nI sm)])), (sa, .inl (g.2.1 3, 6, .inr (.inr (.inr (.inr (fun j => some (tq j)))))))] ++ (kd_th tq R))) (va_recv hK hP (ci := 7) (q0 := 0) rfl rfl) hP hD hS hA hK hE [0, 1, 2, 3, 4, 5, 6, 7] rfl (by decide)) rfl rfl hl.1 rfl (lv_room (Nat.le_of_ble_eq_true rfl)) dX7_stakesFor_15 ⟨Nat.le_of_ble_eq_true rfl, Nat.le_of_ble_eq_true rfl⟩) hP hD hS hA [0, 1, 2, 3, 4, 5, 6, 7] rfl (fun r_15 _ H locs hw hP hS => ?_)
        subst hw
        refine lv_if_eq (tgt := 24) hx hb dX7_stakesFor_18 (by decide) (fun c_18 => ?_) (fun c_18 => ?_)
        · refine lv_iinc (v := nI (i + 1)) (lv' := [(3, .int (nI (i + 1))), (0, .ref so), (1, .int p0), (2, .int (nI a))]) hx hb dX7_stakesFor_24 hl (k := 3) rfl (nI_1 _) (by decide) rfl (fun ls hl => ?_)
          refine lv_goto (tgt := 4) hx hb dX7_stakesFor_27 (by decide) ?_
          exact ih_4 (i + 1) a (by omega) (by rw [kd_sk, ← ha]; first | rw [if_pos c_18] | rw [if_neg c_18]) (by omega) _ _ hP hD hS ls (lv_sub hl [1, 2, 3, 0] rfl)
        · refine lv_iinc (v := nI (a + 1)) (lv' := [(2, .int (nI (a + 1))), (0, .ref so), (1, .int p0), (3, .int (nI i))]) hx hb dX7_stakesFor_21 hl (k := 2) rfl (nI_1 _) (by decide) rfl (fun ls hl => ?_)
          refine lv_iinc (v := nI (i + 1)) (lv' := [(3, .int (nI (i + 1))), (2, .int (nI (a + 1))), (0, .ref so), (1, .int p0)]) hx hb dX7_stakesFor_24 hl (k := 3) rfl (nI_1 _) (by decide) rfl (fun ls hl => ?_)
          refine lv_goto (tgt := 4) hx hb dX7_stakesFor_27 (by decide) ?_
          exact ih_4 (i + 1) (a + 1) (by omega) (by rw [kd_sk, ← ha]; first | rw [if_pos c_18] | rw [if_neg c_18]) (by omega) _ _ hP hD hS ls (lv_sub hl [2, 3, 1, 0] rfl)
  exact loop_4 ((T - 0) + 1) 0 0 (by omega) rfl (Nat.lt_succ_self _) _ _ hP hD hS ls (lv_sub hl [2, 3, 1, 0] rfl)
set_option maxHeartbeats 4000000 in
set_option maxRecDepth 100000 in
theorem c_X7_kingsBy (l : Launch) (g : kd_G) (sz : Nat) (so : Nat) (sa : Nat) (sn : Nat) (T : Nat) (go : Int32) (th : Nat) (sm : Nat) (tq : Nat → Nat) (R : Nat → Nat → Int32) (p0 : Int32) (hT : T ≤ 6) : kd_MI l yX7_kingsBy wsX7_kingsBy ({ frames := 2, cells := 0, slots := 0, locals := 41 }) [.ref so, .int p0] g ([(so, .inr (7, [.ref sa, .ref sn, .int (nI T), .int go, .int (nI th), .int (nI sm)])), (sa, .inl (g.2.1 3, 6, .inr (.inr (.inr (.inr (fun j => some (tq j)))))))] ++ (kd_th tq R)) sz (fun r (_ : Unit) => r = kd_kb R p0 T) (fun _ => ([(so, .inr (7, [.ref sa, .ref sn, .int (nI T), .int go, .int (nI th), .int (nI sm)])), (sa, .inl (g.2.1 3, 6, .inr (.inr (.inr (.inr (fun j => some (tq j)))))))] ++ (kd_th tq R))) 0 0 := by
  refine kd_met (l := l) (y := yX7_kingsBy) (ws := wsX7_kingsBy) (rm := { frames := 2, cells := 0, slots := 0, locals := 41 }) (av := [.ref so, .int p0]) (g := g) (WS := ([(so, .inr (7, [.ref sa, .ref sn, .int (nI T), .int go, .int (nI th), .int (nI sm)])), (sa, .inl (g.2.1 3, 6, .inr (.inr (.inr (.inr (fun j => some (tq j)))))))] ++ (kd_th tq R))) (sz := sz) (mc := 0) (ms := 0) (cc := cX7_kingsBy) (maxL := 4) (ret := (some .int)) (own := RX7) (fun A => va_Qi (fun r (_ : Unit) => r = kd_kb R p0 T) (fun u t => kd_post g A ([(so, .inr (7, [.ref sa, .ref sn, .int (nI T), .int go, .int (nI th), .int (nI sm)])), (sa, .inl (g.2.1 3, 6, .inr (.inr (.inr (.inr (fun j => some (tq j)))))))] ++ (kd_th tq R)) t) A) (by decide) rfl rfl (Nat.le_of_ble_eq_true rfl) ?_
  intro p e s m below meth c A ls hx hb hr hml hts hown hlocks hnm hA hP hK hD hS hE hl
  have hl : lv_has ls 4 [(0, .ref so), (1, .int p0)] := hl
  have hiX7 : ∀ w ∈ u_ws RX7 TX7 6, w ∈ wsX7_kingsBy := by decide +kernel
  refine lv_iconst (v := 0) hx hb dX7_kingsBy_0 (by decide) ?_
  refine lv_istore_n (lv' := [(2, .int 0), (0, .ref so), (1, .int p0)]) hx hb dX7_kingsBy_1 rfl hl (by decide) rfl (fun ls hl => ?_)
  refine lv_iconst (v := 0) hx hb dX7_kingsBy_2 (by decide) ?_
  refine lv_istore_n (lv' := [(3, .int 0), (2, .int 0), (0, .ref so), (1, .int p0)]) hx hb dX7_kingsBy_3 rfl hl (by decide) rfl (fun ls hl => ?_)
  have loop_4 : ∀ (n_4 : Nat) (i : Nat) (a : Int32), (i ≤ T) → (a = kd_kb R p0 i) → (T - i) < n_4 → ∀ (H : Heap) (locs : List Loc), va_P g.1 vwCl ([(so, .inr (7, [.ref sa, .ref sn, .int (nI T), .int go, .int (nI th), .int (nI sm)])), (sa, .inl (g.2.1 3, 6, .inr (.inr (.inr (.inr (fun j => some (tq j)))))))] ++ (kd_th tq R)) H → va_D A ([(so, .inr (7, [.ref sa, .ref sn, .int (nI T), .int go, .int (nI th), .int (nI sm)])), (sa, .inl (g.2.1 3, 6, .inr (.inr (.inr (.inr (fun j => some (tq j)))))))] ++ (kd_th tq R)) → va_S A s.heap H locs → ∀ (ls : Array Slot), lv_has ls 4 [(0, .ref so), (1, .int p0), (2, .int a), (3, .int (nI i))] → W p l e ({ frames := 2, cells := 0, slots := 0, locals := 41 } : Room) s m ([.ref so, .int p0] : List Value).toArray below meth c H locs 0 0 (MQ below (va_Qi (fun r (_ : Unit) => r = kd_kb R p0 T) (fun u t => kd_post g A ([(so, .inr (7, [.ref sa, .ref sn, .int (nI T), .int go, .int (nI th), .int (nI sm)])), (sa, .inl (g.2.1 3, 6, .inr (.inr (.inr (.inr (fun j => some (tq j)))))))] ++ (kd_th tq R)) t) A) ([.ref so, .int p0] : List Value).toArray s 0 0 A) (F0 m 4 ls []) := by
    intro n_4
    induction n_4 with
    | zero => intro i a _ _ hm_4; exact absurd hm_4 (Nat.not_lt_zero _)
    | succ n_4 ih_4 =>
      intro i a hi ha hm_4 H locs hP hD hS ls hl
      refine lv_iload_n hx hb dX7_kingsBy_4 rfl (lv_at hl 3 rfl) ?_
      refine lv_aload_n hx hb dX7_kingsBy_5 rfl (lv_at hl 0 rfl) ?_
      refine va_get (ci := 7) (v := .int (nI T)) (C := RX7) (T := TX7) (N := 6) hx hb hts hiX7 hown hK hP (0) rfl rfl 2 (by decide) (hts (.fieldLink RX7 22 "KingdomAtDice$Standing" "thingMany" "I") (by decide +kernel)) (fun _ h9 => h9) rfl dX7_kingsBy_6 ?_
      refine lv_icmp_ge (tgt := 37) hx hb dX7_kingsBy_9 (by decide) (fun c_9 => ?_) (fun c_9 => ?_)
      · have n_9 : T ≤ i := kd_ce (a := T) (b := i) (by omega) (by omega) c_9
        refine lv_iload_n hx hb dX7_kingsBy_37 rfl (lv_at hl 2 rfl) ?_
        exact kd_iret hx hb hr hlocks hK hS dX7_kingsBy_38 (()) (by rw [ha, show i = T by omega]) hP hD
      · have n_9 : i < T := kd_cne (a := T) (b := i) (by omega) (by omega) c_9
        refine lv_aload_n hx hb dX7_kingsBy_12 rfl (lv_at hl 0 rfl) ?_
        refine va_get (ci := 7) (v := .ref sa) (C := RX7) (T := TX7) (N := 6) hx hb hts hiX7 hown hK hP (0) rfl rfl 0 (by decide) (hts (.fieldLink RX7 11 "KingdomAtDice$Standing" "things" "[LKingdomAtDice$Thing;") (by decide +kernel)) (fun _ h9 => h9) rfl dX7_kingsBy_13 ?_
        refine lv_iload_n hx hb dX7_kingsBy_16 rfl (lv_at hl 3 rfl) ?_
        refine kd_aldN hx hb hK hP 1 3 (k := i) rfl rfl (by omega) (by decide) dX7_kingsBy_17 ?_
        refine lv_iload_n hx hb dX7_kingsBy_18 rfl (lv_at hl 1 rfl) ?_
        refine kd_callIK (g := g) (wc := (kd_th tq R)) (va_runVN (mc := 0) (ms := 0) (rm := { frames := 1, cells := 0, slots := 0, locals := 20 }) (C := RX8) (host := "KingdomAtDice") (As := [.int p0]) (rest := []) ⟨hx, hb, hml, hown, hts⟩ (c_X8_isKingsBy l g H.size tq R i p0 (by omega)) ⟨va_cnB 1 hts gX7_kingsBy_X8_isKingsBy_n94 rfl rfl rfl (kd_N hE 33 rfl) (hts (.initialized RX8) (by decide +kernel)) (by decide +kernel) ⟨Nat.le_of_ble_eq_true rfl, Nat.le_of_ble_eq_true rfl⟩, (hts (.instanceMethod yX8_isKingsBy) (by decide +kernel)), (hts (.selects RX8 yX8_isKingsBy yX8_isKingsBy) (by decide +kernel))⟩ (kd_preV (wc := (kd_th tq R)) (va_recv hK hP (ci := 8) (q0 := i + 2) rfl (kd_th_at0 (by omega))) hP hD hS hA hK hE [2, 3, 4, 5, 6, 7] rfl (by decide)) rfl rfl hl.1 rfl (lv_room (Nat.le_of_ble_eq_true rfl)) dX7_kingsBy_19 ⟨Nat.le_of_ble_eq_true rfl, Nat.le_of_ble_eq_true rfl⟩) hP hD hS hA [2, 3, 4, 5, 6, 7] rfl (fun r_19 _ H locs hw hP hS => ?_)
        subst hw
        refine lv_if_eq (tgt := 31) hx hb dX7_kingsBy_22 (by decide) (fun c_22 => ?_) (fun c_22 => ?_)
        · refine lv_iinc (v := nI (i + 1)) (lv' := [(3, .int (nI (i + 1))), (0, .ref so), (1, .int p0), (2, .int a)]) hx hb dX7_kingsBy_31 hl (k := 3) rfl (nI_1 _) (by decide) rfl (fun ls hl => ?_)
          refine lv_goto (tgt := 4) hx hb dX7_kingsBy_34 (by decide) ?_
          exact ih_4 (i + 1) a (by omega) (by rw [kd_kb, ← ha]; first | rw [if_pos c_22] | rw [if_neg c_22]) (by omega) _ _ hP hD hS ls (lv_sub hl [1, 2, 3, 0] rfl)
        · refine lv_iload_n hx hb dX7_kingsBy_25 rfl (lv_at hl 2 rfl) ?_
          refine lv_iconst (v := 1) hx hb dX7_kingsBy_26 (by decide) ?_
          refine lv_iload_n hx hb dX7_kingsBy_27 rfl (lv_at hl 3 rfl) ?_
          refine lv_ishl hx hb dX7_kingsBy_28 ?_
          refine lv_ior hx hb dX7_kingsBy_29 ?_
          refine lv_istore_n (lv' := [(2, .int (a ||| (1 <<< ((nI i) &&& 31)))), (0, .ref so), (1, .int p0), (3, .int (nI i))]) hx hb dX7_kingsBy_30 rfl hl (by decide) rfl (fun ls hl => ?_)
          refine lv_iinc (v := nI (i + 1)) (lv' := [(3, .int (nI (i + 1))), (2, .int (a ||| (1 <<< ((nI i) &&& 31)))), (0, .ref so), (1, .int p0)]) hx hb dX7_kingsBy_31 hl (k := 3) rfl (nI_1 _) (by decide) rfl (fun ls hl => ?_)
          refine lv_goto (tgt := 4) hx hb dX7_kingsBy_34 (by decide) ?_
          exact ih_4 (i + 1) (a ||| (1 <<< ((nI i) &&& 31))) (by omega) (by rw [kd_kb, ← ha]; first | rw [if_pos c_22] | rw [if_neg c_22]) (by omega) _ _ hP hD hS ls (lv_sub hl [2, 3, 1, 0] rfl)
  exact loop_4 ((T - 0) + 1) 0 0 (by omega) rfl (Nat.lt_succ_self _) _ _ hP hD hS ls (lv_sub hl [2, 3, 1, 0] rfl)
set_option maxHeartbeats 4000000 in
set_option maxRecDepth 100000 in
theorem c_X7_worthOf (l : Launch) (g : kd_G) (sz : Nat) (so : Nat) (sa : Nat) (sn : Nat) (T : Nat) (go : Int32) (th : Nat) (sm : Nat) (tq : Nat → Nat) (R : Nat → Nat → Int32) (p0 : Int32) (hT : T ≤ 6) : kd_MI l yX7_worthOf wsX7_worthOf ({ frames := 0, cells := 0, slots := 0, locals := 0 }) [.ref so, .int p0] g ([(so, .inr (7, [.ref sa, .ref sn, .int (nI T), .int go, .int (nI th), .int (nI sm)])), (sa, .inl (g.2.1 3, 6, .inr (.inr (.inr (.inr (fun j => some (tq j)))))))] ++ (kd_th tq R)) sz (fun r (_ : Unit) => r = kd_wo R p0 T) (fun _ => ([(so, .inr (7, [.ref sa, .ref sn, .int (nI T), .int go, .int (nI th), .int (nI sm)])), (sa, .inl (g.2.1 3, 6, .inr (.inr (.inr (.inr (fun j => some (tq j)))))))] ++ (kd_th tq R))) 0 0 := by
  refine kd_met (l := l) (y := yX7_worthOf) (ws := wsX7_worthOf) (rm := { frames := 0, cells := 0, slots := 0, locals := 0 }) (av := [.ref so, .int p0]) (g := g) (WS := ([(so, .inr (7, [.ref sa, .ref sn, .int (nI T), .int go, .int (nI th), .int (nI sm)])), (sa, .inl (g.2.1 3, 6, .inr (.inr (.inr (.inr (fun j => some (tq j)))))))] ++ (kd_th tq R))) (sz := sz) (mc := 0) (ms := 0) (cc := cX7_worthOf) (maxL := 4) (ret := (some .int)) (own := RX7) (fun A => va_Qi (fun r (_ : Unit) => r = kd_wo R p0 T) (fun u t => kd_post g A ([(so, .inr (7, [.ref sa, .ref sn, .int (nI T), .int go, .int (nI th), .int (nI sm)])), (sa, .inl (g.2.1 3, 6, .inr (.inr (.inr (.inr (fun j => some (tq j)))))))] ++ (kd_th tq R)) t) A) (by decide) rfl rfl (Nat.le_of_ble_eq_true rfl) ?_
  intro p e s m below meth c A ls hx hb hr hml hts hown hlocks hnm hA hP hK hD hS hE hl
  have hl : lv_has ls 4 [(0, .ref so), (1, .int p0)] := hl
  have hiX7 : ∀ w ∈ u_ws RX7 TX7 6, w ∈ wsX7_worthOf := by decide +kernel
  have hiX8 : ∀ w ∈ u_ws RX8 TX8 6, w ∈ wsX7_worthOf := by decide +kernel
  refine lv_iconst (v := 0) hx hb dX7_worthOf_0 (by decide) ?_
  refine lv_istore_n (lv' := [(2, .int 0), (0, .ref so), (1, .int p0)]) hx hb dX7_worthOf_1 rfl hl (by decide) rfl (fun ls hl => ?_)
  refine lv_iconst (v := 0) hx hb dX7_worthOf_2 (by decide) ?_
  refine lv_istore_n (lv' := [(3, .int 0), (2, .int 0), (0, .ref so), (1, .int p0)]) hx hb dX7_worthOf_3 rfl hl (by decide) rfl (fun ls hl => ?_)
  have loop_4 : ∀ (n_4 : Nat) (i : Nat) (a : Int32), (i ≤ T) → (a = kd_wo R p0 i) → (T - i) < n_4 → ∀ (H : Heap) (locs : List Loc), va_P g.1 vwCl ([(so, .inr (7, [.ref sa, .ref sn, .int (nI T), .int go, .int (nI th), .int (nI sm)])), (sa, .inl (g.2.1 3, 6, .inr (.inr (.inr (.inr (fun j => some (tq j)))))))] ++ (kd_th tq R)) H → va_D A ([(so, .inr (7, [.ref sa, .ref sn, .int (nI T), .int go, .int (nI th), .int (nI sm)])), (sa, .inl (g.2.1 3, 6, .inr (.inr (.inr (.inr (fun j => some (tq j)))))))] ++ (kd_th tq R)) → va_S A s.heap H locs → ∀ (ls : Array Slot), lv_has ls 4 [(0, .ref so), (1, .int p0), (2, .int a), (3, .int (nI i))] → W p l e ({ frames := 0, cells := 0, slots := 0, locals := 0 } : Room) s m ([.ref so, .int p0] : List Value).toArray below meth c H locs 0 0 (MQ below (va_Qi (fun r (_ : Unit) => r = kd_wo R p0 T) (fun u t => kd_post g A ([(so, .inr (7, [.ref sa, .ref sn, .int (nI T), .int go, .int (nI th), .int (nI sm)])), (sa, .inl (g.2.1 3, 6, .inr (.inr (.inr (.inr (fun j => some (tq j)))))))] ++ (kd_th tq R)) t) A) ([.ref so, .int p0] : List Value).toArray s 0 0 A) (F0 m 4 ls []) := by
    intro n_4
    induction n_4 with
    | zero => intro i a _ _ hm_4; exact absurd hm_4 (Nat.not_lt_zero _)
    | succ n_4 ih_4 =>
      intro i a hi ha hm_4 H locs hP hD hS ls hl
      refine lv_iload_n hx hb dX7_worthOf_4 rfl (lv_at hl 3 rfl) ?_
      refine lv_aload_n hx hb dX7_worthOf_5 rfl (lv_at hl 0 rfl) ?_
      refine va_get (ci := 7) (v := .int (nI T)) (C := RX7) (T := TX7) (N := 6) hx hb hts hiX7 hown hK hP (0) rfl rfl 2 (by decide) (hts (.fieldLink RX7 22 "KingdomAtDice$Standing" "thingMany" "I") (by decide +kernel)) (fun _ h9 => h9) rfl dX7_worthOf_6 ?_
      refine lv_icmp_ge (tgt := 38) hx hb dX7_worthOf_9 (by decide) (fun c_9 => ?_) (fun c_9 => ?_)
      · have n_9 : T ≤ i := kd_ce (a := T) (b := i) (by omega) (by omega) c_9
        refine lv_iload_n hx hb dX7_worthOf_38 rfl (lv_at hl 2 rfl) ?_
        exact kd_iret hx hb hr hlocks hK hS dX7_worthOf_39 (()) (by rw [ha, show i = T by omega]) hP hD
      · have n_9 : i < T := kd_cne (a := T) (b := i) (by omega) (by omega) c_9
        refine lv_iload_n hx hb dX7_worthOf_12 rfl (lv_at hl 1 rfl) ?_
        refine lv_iload_n hx hb dX7_worthOf_13 rfl (lv_at hl 3 rfl) ?_
        refine lv_ishr hx hb dX7_worthOf_14 ?_
        refine lv_iconst (v := 1) hx hb dX7_worthOf_15 (by decide) ?_
        refine lv_iand hx hb dX7_worthOf_16 ?_
        refine lv_if_eq (tgt := 32) hx hb dX7_worthOf_17 (by decide) (fun c_17 => ?_) (fun c_17 => ?_)
        · refine lv_iinc (v := nI (i + 1)) (lv' := [(3, .int (nI (i + 1))), (0, .ref so), (1, .int p0), (2, .int a)]) hx hb dX7_worthOf_32 hl (k := 3) rfl (nI_1 _) (by decide) rfl (fun ls hl => ?_)
          refine lv_goto (tgt := 4) hx hb dX7_worthOf_35 (by decide) ?_
          exact ih_4 (i + 1) a (by omega) (by rw [kd_wo, ← ha]; first | rw [if_pos c_17] | rw [if_neg c_17]) (by omega) _ _ hP hD hS ls (lv_sub hl [1, 2, 3, 0] rfl)
        · refine lv_iload_n hx hb dX7_worthOf_20 rfl (lv_at hl 2 rfl) ?_
          refine lv_aload_n hx hb dX7_worthOf_21 rfl (lv_at hl 0 rfl) ?_
          refine va_get (ci := 7) (v := .ref sa) (C := RX7) (T := TX7) (N := 6) hx hb hts hiX7 hown hK hP (0) rfl rfl 0 (by decide) (hts (.fieldLink RX7 11 "KingdomAtDice$Standing" "things" "[LKingdomAtDice$Thing;") (by decide +kernel)) (fun _ h9 => h9) rfl dX7_worthOf_22 ?_
          refine lv_iload_n hx hb dX7_worthOf_25 rfl (lv_at hl 3 rfl) ?_
          refine kd_aldN hx hb hK hP 1 3 (k := i) rfl rfl (by omega) (by decide) dX7_worthOf_26 ?_
          refine va_getN (ci := 8) (v := .int (R i 1)) (C := RX8) (T := TX8) (N := 6) hx hb hts hiX8 hown hK hP (i + 2) (kd_th_at0 (by omega)) rfl 1 (by decide) (kd_Nb hE 50 rfl) (fun _ h9 => h9) rfl dX7_worthOf_27 ?_
          refine lv_iadd hx hb dX7_worthOf_30 ?_
          refine lv_istore_n (lv' := [(2, .int (a + (R i 1))), (0, .ref so), (1, .int p0), (3, .int (nI i))]) hx hb dX7_worthOf_31 rfl hl (by decide) rfl (fun ls hl => ?_)
          refine lv_iinc (v := nI (i + 1)) (lv' := [(3, .int (nI (i + 1))), (2, .int (a + (R i 1))), (0, .ref so), (1, .int p0)]) hx hb dX7_worthOf_32 hl (k := 3) rfl (nI_1 _) (by decide) rfl (fun ls hl => ?_)
          refine lv_goto (tgt := 4) hx hb dX7_worthOf_35 (by decide) ?_
          exact ih_4 (i + 1) (a + (R i 1)) (by omega) (by rw [kd_wo, ← ha]; first | rw [if_pos c_17] | rw [if_neg c_17]) (by omega) _ _ hP hD hS ls (lv_sub hl [2, 3, 1, 0] rfl)
  exact loop_4 ((T - 0) + 1) 0 0 (by omega) rfl (Nat.lt_succ_self _) _ _ hP hD hS ls (lv_sub hl [2, 3, 1, 0] rfl)
set_option maxHeartbeats 4000000 in
set_option maxRecDepth 100000 in
theorem c_X7_wrongMany (l : Launch) (g : kd_G) (sz : Nat) (so : Nat) (sa : Nat) (sn : Nat) (T : Nat) (go : Int32) (th : Nat) (sm : Nat) (tq : Nat → Nat) (R : Nat → Nat → Int32) (hT : T ≤ 6) : kd_MI l yX7_wrongMany wsX7_wrongMany ({ frames := 1, cells := 0, slots := 0, locals := 20 }) [.ref so] g ([(so, .inr (7, [.ref sa, .ref sn, .int (nI T), .int go, .int (nI th), .int (nI sm)])), (sa, .inl (g.2.1 3, 6, .inr (.inr (.inr (.inr (fun j => some (tq j)))))))] ++ (kd_th tq R)) sz (fun r (_ : Unit) => r = nI (kd_wr R T)) (fun _ => ([(so, .inr (7, [.ref sa, .ref sn, .int (nI T), .int go, .int (nI th), .int (nI sm)])), (sa, .inl (g.2.1 3, 6, .inr (.inr (.inr (.inr (fun j => some (tq j)))))))] ++ (kd_th tq R))) 0 0 := by
  refine kd_met (l := l) (y := yX7_wrongMany) (ws := wsX7_wrongMany) (rm := { frames := 1, cells := 0, slots := 0, locals := 20 }) (av := [.ref so]) (g := g) (WS := ([(so, .inr (7, [.ref sa, .ref sn, .int (nI T), .int go, .int (nI th), .int (nI sm)])), (sa, .inl (g.2.1 3, 6, .inr (.inr (.inr (.inr (fun j => some (tq j)))))))] ++ (kd_th tq R))) (sz := sz) (mc := 0) (ms := 0) (cc := cX7_wrongMany) (maxL := 3) (ret := (some .int)) (own := RX7) (fun A => va_Qi (fun r (_ : Unit) => r = nI (kd_wr R T)) (fun u t => kd_post g A ([(so, .inr (7, [.ref sa, .ref sn, .int (nI T), .int go, .int (nI th), .int (nI sm)])), (sa, .inl (g.2.1 3, 6, .inr (.inr (.inr (.inr (fun j => some (tq j)))))))] ++ (kd_th tq R)) t) A) (by decide) rfl rfl (Nat.le_of_ble_eq_true rfl) ?_
  intro p e s m below meth c A ls hx hb hr hml hts hown hlocks hnm hA hP hK hD hS hE hl
  have hl : lv_has ls 3 [(0, .ref so)] := hl
  have hiX7 : ∀ w ∈ u_ws RX7 TX7 6, w ∈ wsX7_wrongMany := by decide +kernel
  refine lv_iconst (v := 0) hx hb dX7_wrongMany_0 (by decide) ?_
  refine lv_istore_n (lv' := [(1, .int 0), (0, .ref so)]) hx hb dX7_wrongMany_1 rfl hl (by decide) rfl (fun ls hl => ?_)
  refine lv_iconst (v := 0) hx hb dX7_wrongMany_2 (by decide) ?_
  refine lv_istore_n (lv' := [(2, .int 0), (1, .int 0), (0, .ref so)]) hx hb dX7_wrongMany_3 rfl hl (by decide) rfl (fun ls hl => ?_)
  have loop_4 : ∀ (n_4 : Nat) (i : Nat) (a : Nat), (i ≤ T) → (a = kd_wr R i) → (T - i) < n_4 → ∀ (H : Heap) (locs : List Loc), va_P g.1 vwCl ([(so, .inr (7, [.ref sa, .ref sn, .int (nI T), .int go, .int (nI th), .int (nI sm)])), (sa, .inl (g.2.1 3, 6, .inr (.inr (.inr (.inr (fun j => some (tq j)))))))] ++ (kd_th tq R)) H → va_D A ([(so, .inr (7, [.ref sa, .ref sn, .int (nI T), .int go, .int (nI th), .int (nI sm)])), (sa, .inl (g.2.1 3, 6, .inr (.inr (.inr (.inr (fun j => some (tq j)))))))] ++ (kd_th tq R)) → va_S A s.heap H locs → ∀ (ls : Array Slot), lv_has ls 3 [(0, .ref so), (1, .int (nI a)), (2, .int (nI i))] → W p l e ({ frames := 1, cells := 0, slots := 0, locals := 20 } : Room) s m ([.ref so] : List Value).toArray below meth c H locs 0 0 (MQ below (va_Qi (fun r (_ : Unit) => r = nI (kd_wr R T)) (fun u t => kd_post g A ([(so, .inr (7, [.ref sa, .ref sn, .int (nI T), .int go, .int (nI th), .int (nI sm)])), (sa, .inl (g.2.1 3, 6, .inr (.inr (.inr (.inr (fun j => some (tq j)))))))] ++ (kd_th tq R)) t) A) ([.ref so] : List Value).toArray s 0 0 A) (F0 m 4 ls []) := by
    intro n_4
    induction n_4 with
    | zero => intro i a _ _ hm_4; exact absurd hm_4 (Nat.not_lt_zero _)
    | succ n_4 ih_4 =>
      intro i a hi ha hm_4 H locs hP hD hS ls hl
      refine lv_iload_n hx hb dX7_wrongMany_4 rfl (lv_at hl 2 rfl) ?_
      refine lv_aload_n hx hb dX7_wrongMany_5 rfl (lv_at hl 0 rfl) ?_
      refine va_get (ci := 7) (v := .int (nI T)) (C := RX7) (T := TX7) (N := 6) hx hb hts hiX7 hown hK hP (0) rfl rfl 2 (by decide) (hts (.fieldLink RX7 22 "KingdomAtDice$Standing" "thingMany" "I") (by decide +kernel)) (fun _ h9 => h9) rfl dX7_wrongMany_6 ?_
      refine lv_icmp_ge (tgt := 33) hx hb dX7_wrongMany_9 (by decide) (fun c_9 => ?_) (fun c_9 => ?_)
      · have n_9 : T ≤ i := kd_ce (a := T) (b := i) (by omega) (by omega) c_9
        refine lv_iload_n hx hb dX7_wrongMany_33 rfl (lv_at hl 1 rfl) ?_
        exact kd_iret hx hb hr hlocks hK hS dX7_wrongMany_34 (()) (by rw [ha, show i = T by omega]) hP hD
      · have n_9 : i < T := kd_cne (a := T) (b := i) (by omega) (by omega) c_9
        refine lv_aload_n hx hb dX7_wrongMany_12 rfl (lv_at hl 0 rfl) ?_
        refine va_get (ci := 7) (v := .ref sa) (C := RX7) (T := TX7) (N := 6) hx hb hts hiX7 hown hK hP (0) rfl rfl 0 (by decide) (hts (.fieldLink RX7 11 "KingdomAtDice$Standing" "things" "[LKingdomAtDice$Thing;") (by decide +kernel)) (fun _ h9 => h9) rfl dX7_wrongMany_13 ?_
        refine lv_iload_n hx hb dX7_wrongMany_16 rfl (lv_at hl 2 rfl) ?_
        refine kd_aldN hx hb hK hP 1 3 (k := i) rfl rfl (by omega) (by decide) dX7_wrongMany_17 ?_
        refine kd_callIK (g := g) (wc := (kd_th tq R)) (va_runVN (mc := 0) (ms := 0) (rm := { frames := 0, cells := 0, slots := 0, locals := 0 }) (C := RX8) (host := "KingdomAtDice") (As := []) (rest := []) ⟨hx, hb, hml, hown, hts⟩ (c_X8_isWronglyLost l g H.size tq R i (by omega)) ⟨va_cnB 0 hts gX7_wrongMany_X8_isWronglyLost_n97 rfl rfl rfl (kd_N hE 45 rfl) (hts (.initialized RX8) (by decide +kernel)) (by decide +kernel) ⟨Nat.le_of_ble_eq_true rfl, Nat.le_of_ble_eq_true rfl⟩, (hts (.instanceMethod yX8_isWronglyLost) (by decide +kernel)), (hts (.selects RX8 yX8_isWronglyLost yX8_isWronglyLost) (by decide +kernel))⟩ (kd_preV (wc := (kd_th tq R)) (va_recv hK hP (ci := 8) (q0 := i + 2) rfl (kd_th_at0 (by omega))) hP hD hS hA hK hE [2, 3, 4, 5, 6, 7] rfl (by decide)) rfl rfl hl.1 rfl (lv_room (Nat.le_of_ble_eq_true rfl)) dX7_wrongMany_18 ⟨Nat.le_of_ble_eq_true rfl, Nat.le_of_ble_eq_true rfl⟩) hP hD hS hA [2, 3, 4, 5, 6, 7] rfl (fun r_18 _ H locs hw hP hS => ?_)
        subst hw
        refine lv_if_eq (tgt := 27) hx hb dX7_wrongMany_21 (by decide) (fun c_21 => ?_) (fun c_21 => ?_)
        · refine lv_iinc (v := nI (i + 1)) (lv' := [(2, .int (nI (i + 1))), (0, .ref so), (1, .int (nI a))]) hx hb dX7_wrongMany_27 hl (k := 2) rfl (nI_1 _) (by decide) rfl (fun ls hl => ?_)
          refine lv_goto (tgt := 4) hx hb dX7_wrongMany_30 (by decide) ?_
          exact ih_4 (i + 1) a (by omega) (by rw [kd_wr, ← ha]; first | rw [if_pos c_21] | rw [if_neg c_21]) (by omega) _ _ hP hD hS ls (lv_sub hl [1, 2, 0] rfl)
        · refine lv_iinc (v := nI (a + 1)) (lv' := [(1, .int (nI (a + 1))), (0, .ref so), (2, .int (nI i))]) hx hb dX7_wrongMany_24 hl (k := 1) rfl (nI_1 _) (by decide) rfl (fun ls hl => ?_)
          refine lv_iinc (v := nI (i + 1)) (lv' := [(2, .int (nI (i + 1))), (1, .int (nI (a + 1))), (0, .ref so)]) hx hb dX7_wrongMany_27 hl (k := 2) rfl (nI_1 _) (by decide) rfl (fun ls hl => ?_)
          refine lv_goto (tgt := 4) hx hb dX7_wrongMany_30 (by decide) ?_
          exact ih_4 (i + 1) (a + 1) (by omega) (by rw [kd_wr, ← ha]; first | rw [if_pos c_21] | rw [if_neg c_21]) (by omega) _ _ hP hD hS ls (lv_sub hl [2, 1, 0] rfl)
  exact loop_4 ((T - 0) + 1) 0 0 (by omega) rfl (Nat.lt_succ_self _) _ _ hP hD hS ls (lv_sub hl [2, 1, 0] rfl)
theorem kd_bel8 {n : Nat} (h : ¬ sp_X10_isBelow (nI n) 8 = 0) (hn : n < 2 ^ 31) : n < 8 := by
  have := kd_inlt (kd_belowN (n := 8) h (by decide))
  rwa [nI_clamp hn] at this
/-- what KingdomAtDice$Standing.addSeen answers and leaves, by its instructions -/
def sp_X7_addSeen (sm : Nat) (sf : Nat → Int32) (p0 : Int32) : Int32 × Nat × (Nat → Int32) :=
  if (sp_X10_isBelow (nI sm) 8) = 0 then
    (nI sm, sm, sf)
  else
    (nI (sm + 1), sm + 1, upd sf sm p0)
set_option maxHeartbeats 4000000 in
set_option maxRecDepth 100000 in
theorem c_X7_addSeen (l : Launch) (g : kd_G) (sz : Nat) (so : Nat) (sa : Nat) (sn : Nat) (T : Nat) (go : Int32) (th : Nat) (sm : Nat) (sf : Nat → Int32) (p0 : Int32) (hT : T ≤ 6) (hsm : sm ≤ 8) : kd_MI l yX7_addSeen wsX7_addSeen ({ frames := 1, cells := 0, slots := 0, locals := 21 }) [.ref so, .int p0] g [(so, .inr (7, [.ref sa, .ref sn, .int (nI T), .int go, .int (nI th), .int (nI sm)])), (sn, .inl (g.2.1 0, 8, .inl sf))] sz (fun r (u : Nat × (Nat → Int32)) => (r, u) = sp_X7_addSeen sm sf p0) (fun u => [(so, .inr (7, [.ref sa, .ref sn, .int (nI T), .int go, .int (nI th), .int (nI u.1)])), (sn, .inl (g.2.1 0, 8, .inl u.2))]) 0 0 := by
  refine kd_met (l := l) (y := yX7_addSeen) (ws := wsX7_addSeen) (rm := { frames := 1, cells := 0, slots := 0, locals := 21 }) (av := [.ref so, .int p0]) (g := g) (WS := [(so, .inr (7, [.ref sa, .ref sn, .int (nI T), .int go, .int (nI th), .int (nI sm)])), (sn, .inl (g.2.1 0, 8, .inl sf))]) (sz := sz) (mc := 0) (ms := 0) (cc := cX7_addSeen) (maxL := 2) (ret := (some .int)) (own := RX7) (fun A => va_Qi (fun r (u : Nat × (Nat → Int32)) => (r, u) = sp_X7_addSeen sm sf p0) (fun u t => kd_post g A [(so, .inr (7, [.ref sa, .ref sn, .int (nI T), .int go, .int (nI th), .int (nI u.1)])), (sn, .inl (g.2.1 0, 8, .inl u.2))] t) A) (by decide) rfl rfl (Nat.le_of_ble_eq_true rfl) ?_
  intro p e s m below meth c A ls hx hb hr hml hts hown hlocks hnm hA hP hK hD hS hE hl
  have hl : lv_has ls 2 [(0, .ref so), (1, .int p0)] := hl
  have hiX7 : ∀ w ∈ u_ws RX7 TX7 6, w ∈ wsX7_addSeen := by decide +kernel
  refine lv_aload_n hx hb dX7_addSeen_0 rfl (lv_at hl 0 rfl) ?_
  refine va_get (ci := 7) (v := .int (nI sm)) (C := RX7) (T := TX7) (N := 6) hx hb hts hiX7 hown hK hP (0) rfl rfl 5 (by decide) (hts (.fieldLink RX7 32 "KingdomAtDice$Standing" "seenMany" "I") (by decide +kernel)) (fun _ h9 => h9) rfl dX7_addSeen_1 ?_
  refine lv_aload_n hx hb dX7_addSeen_4 rfl (lv_at hl 0 rfl) ?_
  refine va_get (ci := 7) (v := .ref sn) (C := RX7) (T := TX7) (N := 6) hx hb hts hiX7 hown hK hP (0) rfl rfl 1 (by decide) (hts (.fieldLink RX7 18 "KingdomAtDice$Standing" "seen" "[I") (by decide +kernel)) (fun _ h9 => h9) rfl dX7_addSeen_5 ?_
  refine va_alen hx hb hK hP 1 0 rfl rfl (v := 8) rfl dX7_addSeen_8 ?_
  refine kd_callIK (g := g) (wc := []) (va_runSN (mc := 0) (ms := 0) (rm := { frames := 0, cells := 0, slots := 0, locals := 0 }) (host := "KingdomAtDice") (As := [.int (nI sm), .int 8]) (rest := []) ⟨hx, hb, hml, hown, hts⟩ (c_X10_isBelow l g s.heap.size (nI sm) 8 ) ⟨va_cnB 2 hts gX7_addSeen_X10_isBelow_n62 rfl rfl rfl (kd_N hE 22 rfl) (hts (.initialized RX10) (by decide +kernel)) (by decide +kernel) ⟨Nat.le_of_ble_eq_true rfl, Nat.le_of_ble_eq_true rfl⟩, (hts (.static yX10_isBelow) (by decide +kernel)), trivial⟩ (kd_preS (wc := []) (av := [.int (nI sm), .int 8]) hP hD hS hA hK hE [] rfl (by decide)) rfl rfl hl.1 rfl (lv_room (Nat.le_of_ble_eq_true rfl)) dX7_addSeen_9 ⟨Nat.le_of_ble_eq_true rfl, Nat.le_of_ble_eq_true rfl⟩) hP hD hS hA [] rfl (fun r_9 _ H locs hw hP hS => ?_)
  subst hw
  refine lv_if_eq (tgt := 35) hx hb dX7_addSeen_12 (by decide) (fun c_12 => ?_) (fun c_12 => ?_)
  · refine lv_aload_n hx hb dX7_addSeen_35 rfl (lv_at hl 0 rfl) ?_
    refine va_get (ci := 7) (v := .int (nI sm)) (C := RX7) (T := TX7) (N := 6) hx hb hts hiX7 hown hK hP (0) rfl rfl 5 (by decide) (hts (.fieldLink RX7 32 "KingdomAtDice$Standing" "seenMany" "I") (by decide +kernel)) (fun _ h9 => h9) rfl dX7_addSeen_36 ?_
    exact kd_iret hx hb hr hlocks hK hS dX7_addSeen_39 ((sm, sf)) (by rw [sp_X7_addSeen, if_pos c_12]) hP hD
  · refine lv_aload_n hx hb dX7_addSeen_15 rfl (lv_at hl 0 rfl) ?_
    refine va_get (ci := 7) (v := .ref sn) (C := RX7) (T := TX7) (N := 6) hx hb hts hiX7 hown hK hP (0) rfl rfl 1 (by decide) (hts (.fieldLink RX7 18 "KingdomAtDice$Standing" "seen" "[I") (by decide +kernel)) (fun _ h9 => h9) rfl dX7_addSeen_16 ?_
    refine lv_aload_n hx hb dX7_addSeen_19 rfl (lv_at hl 0 rfl) ?_
    refine va_get (ci := 7) (v := .int (nI sm)) (C := RX7) (T := TX7) (N := 6) hx hb hts hiX7 hown hK hP (0) rfl rfl 5 (by decide) (hts (.fieldLink RX7 32 "KingdomAtDice$Standing" "seenMany" "I") (by decide +kernel)) (fun _ h9 => h9) rfl dX7_addSeen_20 ?_
    refine lv_iload_n hx hb dX7_addSeen_23 rfl (lv_at hl 1 rfl) ?_
    refine kd_iast hx hb hK hP hD hS 1 (k := sm) rfl (kd_bel8 c_12 (by omega)) (by decide) dX7_addSeen_24 (fun H locs hP hD hS => ?_)
    have hP : va_P g.1 vwCl [(so, .inr (7, [.ref sa, .ref sn, .int (nI T), .int go, .int (nI th), .int (nI sm)])), (sn, .inl (g.2.1 0, 8, .inl (upd sf sm p0)))] H := hP
    have hD : va_D A [(so, .inr (7, [.ref sa, .ref sn, .int (nI T), .int go, .int (nI th), .int (nI sm)])), (sn, .inl (g.2.1 0, 8, .inl (upd sf sm p0)))] := hD
    refine lv_aload_n hx hb dX7_addSeen_25 rfl (lv_at hl 0 rfl) ?_
    refine lv_dup hx hb dX7_addSeen_26 rfl ?_
    refine va_get (ci := 7) (v := .int (nI sm)) (C := RX7) (T := TX7) (N := 6) hx hb hts hiX7 hown hK hP (0) rfl rfl 5 (by decide) (hts (.fieldLink RX7 32 "KingdomAtDice$Standing" "seenMany" "I") (by decide +kernel)) (fun _ h9 => h9) rfl dX7_addSeen_27 ?_
    refine lv_iconst (v := 1) hx hb dX7_addSeen_30 (by decide) ?_
    refine lv_iadd hx hb dX7_addSeen_31 ?_
    refine kd_top (nI_add sm 1) ?_
    refine va_put (ci := 7) (v := .int (nI (sm + 1))) (ty := .int) (C := RX7) (T := TX7) (N := 6) hx hb hts hiX7 tyX7 tyX7_ok nmX7 hown hK hP hD hS (0) rfl rfl 5 (by decide) (hts (.fieldLink RX7 32 "KingdomAtDice$Standing" "seenMany" "I") (by decide +kernel)) (fun _ h9 => h9) rfl (by decide +kernel) rfl rfl (Nat.le_of_ble_eq_true rfl) dX7_addSeen_32 (fun H locs hP hD hS => ?_)
    have hP : va_P g.1 vwCl [(so, .inr (7, [.ref sa, .ref sn, .int (nI T), .int go, .int (nI th), .int (nI (sm + 1))])), (sn, .inl (g.2.1 0, 8, .inl (upd sf sm p0)))] H := hP
    have hD : va_D A [(so, .inr (7, [.ref sa, .ref sn, .int (nI T), .int go, .int (nI th), .int (nI (sm + 1))])), (sn, .inl (g.2.1 0, 8, .inl (upd sf sm p0)))] := hD
    refine lv_aload_n hx hb dX7_addSeen_35 rfl (lv_at hl 0 rfl) ?_
    refine va_get (ci := 7) (v := .int (nI (sm + 1))) (C := RX7) (T := TX7) (N := 6) hx hb hts hiX7 hown hK hP (0) rfl rfl 5 (by decide) (hts (.fieldLink RX7 32 "KingdomAtDice$Standing" "seenMany" "I") (by decide +kernel)) (fun _ h9 => h9) rfl dX7_addSeen_36 ?_
    exact kd_iret hx hb hr hlocks hK hS dX7_addSeen_39 ((sm + 1, upd sf sm p0)) (by rw [sp_X7_addSeen, if_neg c_12]) hP hD
/-- what KingdomAtDice$Standing.clearSeen answers and leaves, by its instructions -/
def sp_X7_clearSeen (sm : Nat) : Int32 × Nat :=
  (nI sm, 0)
set_option maxHeartbeats 4000000 in
set_option maxRecDepth 100000 in
theorem c_X7_clearSeen (l : Launch) (g : kd_G) (sz : Nat) (so : Nat) (sa : Nat) (sn : Nat) (T : Nat) (go : Int32) (th : Nat) (sm : Nat) (hT : T ≤ 6) : kd_MI l yX7_clearSeen wsX7_clearSeen ({ frames := 0, cells := 0, slots := 0, locals := 0 }) [.ref so] g [(so, .inr (7, [.ref sa, .ref sn, .int (nI T), .int go, .int (nI th), .int (nI sm)]))] sz (fun r (u : Nat) => (r, u) = sp_X7_clearSeen sm) (fun u => [(so, .inr (7, [.ref sa, .ref sn, .int (nI T), .int go, .int (nI th), .int (nI u)]))]) 0 0 := by
  refine kd_met (l := l) (y := yX7_clearSeen) (ws := wsX7_clearSeen) (rm := { frames := 0, cells := 0, slots := 0, locals := 0 }) (av := [.ref so]) (g := g) (WS := [(so, .inr (7, [.ref sa, .ref sn, .int (nI T), .int go, .int (nI th), .int (nI sm)]))]) (sz := sz) (mc := 0) (ms := 0) (cc := cX7_clearSeen) (maxL := 2) (ret := (some .int)) (own := RX7) (fun A => va_Qi (fun r (u : Nat) => (r, u) = sp_X7_clearSeen sm) (fun u t => kd_post g A [(so, .inr (7, [.ref sa, .ref sn, .int (nI T), .int go, .int (nI th), .int (nI u)]))] t) A) (by decide) rfl rfl (Nat.le_of_ble_eq_true rfl) ?_
  intro p e s m below meth c A ls hx hb hr hml hts hown hlocks hnm hA hP hK hD hS hE hl
  have hl : lv_has ls 2 [(0, .ref so)] := hl
  have hiX7 : ∀ w ∈ u_ws RX7 TX7 6, w ∈ wsX7_clearSeen := by decide +kernel
  refine lv_aload_n hx hb dX7_clearSeen_0 rfl (lv_at hl 0 rfl) ?_
  refine va_get (ci := 7) (v := .int (nI sm)) (C := RX7) (T := TX7) (N := 6) hx hb hts hiX7 hown hK hP (0) rfl rfl 5 (by decide) (hts (.fieldLink RX7 32 "KingdomAtDice$Standing" "seenMany" "I") (by decide +kernel)) (fun _ h9 => h9) rfl dX7_clearSeen_1 ?_
  refine lv_istore_n (lv' := [(1, .int (nI sm)), (0, .ref so)]) hx hb dX7_clearSeen_4 rfl hl (by decide) rfl (fun ls hl => ?_)
  refine lv_aload_n hx hb dX7_clearSeen_5 rfl (lv_at hl 1 rfl) ?_
  refine lv_iconst (v := 0) hx hb dX7_clearSeen_6 (by decide) ?_
  refine va_put (ci := 7) (v := .int 0) (ty := .int) (C := RX7) (T := TX7) (N := 6) hx hb hts hiX7 tyX7 tyX7_ok nmX7 hown hK hP hD hS (0) rfl rfl 5 (by decide) (hts (.fieldLink RX7 32 "KingdomAtDice$Standing" "seenMany" "I") (by decide +kernel)) (fun _ h9 => h9) rfl (by decide +kernel) rfl rfl (Nat.le_of_ble_eq_true rfl) dX7_clearSeen_7 (fun H locs hP hD hS => ?_)
  have hP : va_P g.1 vwCl [(so, .inr (7, [.ref sa, .ref sn, .int (nI T), .int go, .int (nI th), .int 0]))] H := hP
  have hD : va_D A [(so, .inr (7, [.ref sa, .ref sn, .int (nI T), .int go, .int (nI th), .int 0]))] := hD
  refine lv_iload_n hx hb dX7_clearSeen_10 rfl (lv_at hl 0 rfl) ?_
  exact kd_iret hx hb hr hlocks hK hS dX7_clearSeen_11 (0) (rfl) hP hD
/-- what KingdomAtDice$Standing.settle answers and leaves, by its instructions -/
def sp_X7_settle (T : Nat) (go : Int32) (th : Nat) (R : Nat → Nat → Int32) (p0 : Int32) (p1 : Int32) (p2 : Int32) (p3 : Int32) : Int32 × Int32 × Nat × (Nat → Nat → Int32) :=
  if (sp_X7_mayStake T R p0 p1) = 0 then
    ((-1), go, th, R)
  else
    if p2 = p3 then
      ((-1), go, th + 1, R)
    else
      if p3 ≤ p2 then
        if (sp_X7_has T p1) = 0 then
          (0, go + (R p0.toNatClampNeg 1), th + 1, R)
        else
          (0, go, th + 1, (sp_X8_comeBack R p1.toNatClampNeg))
      else
        (1, go, th + 1, (sp_X8_lose R p0.toNatClampNeg (nI (th + 1)) (kd_self R 0 T)))
set_option maxHeartbeats 4000000 in
set_option maxRecDepth 100000 in
theorem c_X7_settle (l : Launch) (g : kd_G) (sz : Nat) (so : Nat) (sa : Nat) (sn : Nat) (T : Nat) (go : Int32) (th : Nat) (sm : Nat) (tq : Nat → Nat) (R : Nat → Nat → Int32) (p0 : Int32) (p1 : Int32) (p2 : Int32) (p3 : Int32) (hT : T ≤ 6) (hz : ∀ t, t < 6 → R t 2 = 0 ∨ R t 2 = 1) : kd_MI l yX7_settle wsX7_settle ({ frames := 3, cells := 0, slots := 0, locals := 64 }) [.ref so, .int p0, .int p1, .int p2, .int p3] g ([(so, .inr (7, [.ref sa, .ref sn, .int (nI T), .int go, .int (nI th), .int (nI sm)])), (sa, .inl (g.2.1 3, 6, .inr (.inr (.inr (.inr (fun j => some (tq j)))))))] ++ (kd_th tq R)) sz (fun r (u : Int32 × Nat × (Nat → Nat → Int32)) => (r, u) = sp_X7_settle T go th R p0 p1 p2 p3) (fun u => ([(so, .inr (7, [.ref sa, .ref sn, .int (nI T), .int u.1, .int (nI u.2.1), .int (nI sm)])), (sa, .inl (g.2.1 3, 6, .inr (.inr (.inr (.inr (fun j => some (tq j)))))))] ++ (kd_th tq u.2.2))) 0 0 := by
  refine kd_met (l := l) (y := yX7_settle) (ws := wsX7_settle) (rm := { frames := 3, cells := 0, slots := 0, locals := 64 }) (av := [.ref so, .int p0, .int p1, .int p2, .int p3]) (g := g) (WS := ([(so, .inr (7, [.ref sa, .ref sn, .int (nI T), .int go, .int (nI th), .int (nI sm)])), (sa, .inl (g.2.1 3, 6, .inr (.inr (.inr (.inr (fun j => some (tq j)))))))] ++ (kd_th tq R))) (sz := sz) (mc := 0) (ms := 0) (cc := cX7_settle) (maxL := 5) (ret := (some .int)) (own := RX7) (fun A => va_Qi (fun r (u : Int32 × Nat × (Nat → Nat → Int32)) => (r, u) = sp_X7_settle T go th R p0 p1 p2 p3) (fun u t => kd_post g A ([(so, .inr (7, [.ref sa, .ref sn, .int (nI T), .int u.1, .int (nI u.2.1), .int (nI sm)])), (sa, .inl (g.2.1 3, 6, .inr (.inr (.inr (.inr (fun j => some (tq j)))))))] ++ (kd_th tq u.2.2)) t) A) (by decide) rfl rfl (Nat.le_of_ble_eq_true rfl) ?_
  intro p e s m below meth c A ls hx hb hr hml hts hown hlocks hnm hA hP hK hD hS hE hl
  have hl : lv_has ls 5 [(0, .ref so), (1, .int p0), (2, .int p1), (3, .int p2), (4, .int p3)] := hl
  have hiX7 : ∀ w ∈ u_ws RX7 TX7 6, w ∈ wsX7_settle := by decide +kernel
  have hiX8 : ∀ w ∈ u_ws RX8 TX8 6, w ∈ wsX7_settle := by decide +kernel
  refine lv_aload_n hx hb dX7_settle_0 rfl (lv_at hl 0 rfl) ?_
  refine lv_iload_n hx hb dX7_settle_1 rfl (lv_at hl 1 rfl) ?_
  refine lv_iload_n hx hb dX7_settle_2 rfl (lv_at hl 2 rfl) ?_
  refine kd_callIK (g := g) (wc := ([(so, .inr (7, [.ref sa, .ref sn, .int (nI T), .int go, .int (nI th), .int (nI sm)])), (sa, .inl (g.2.1 3, 6, .inr (.inr (.inr (.inr (fun j => some (tq j)))))))] ++ (kd_th tq R))) (va_runV (mc := 0) (ms := 0) (rm := { frames := 2, cells := 0, slots := 0, locals := 42 }) (As := [.int p0, .int p1]) (rest := []) ⟨hx, hb, hml, hown, hts⟩ (c_X7_mayStake l g s.heap.size so sa sn T go th sm tq R p0 p1 hT) (cwV 2 hts gX7_settle_X7_mayStake rfl rfl rfl (by decide +kernel) ⟨Nat.le_of_ble_eq_true rfl, Nat.le_of_ble_eq_true rfl⟩) (kd_preV (wc := ([(so, .inr (7, [.ref sa, .ref sn, .int (nI T), .int go, .int (nI th), .int (nI sm)])), (sa, .inl (g.2.1 3, 6, .inr (.inr (.inr (.inr (fun j => some (tq j)))))))] ++ (kd_th tq R))) (va_recv hK hP (ci := 7) (q0 := 0) rfl rfl) hP hD hS hA hK hE [0, 1, 2, 3, 4, 5, 6, 7] rfl (by decide)) rfl rfl hl.1 rfl (lv_room (Nat.le_of_ble_eq_true rfl)) dX7_settle_3 ⟨Nat.le_of_ble_eq_true rfl, Nat.le_of_ble_eq_true rfl⟩) hP hD hS hA [0, 1, 2, 3, 4, 5, 6, 7] rfl (fun r_3 _ H locs hw hP hS => ?_)
  subst hw
  refine lv_if_ne (tgt := 11) hx hb dX7_settle_6 (by decide) (fun c_6 => ?_) (fun c_6 => ?_)
  · refine lv_aload_n hx hb dX7_settle_11 rfl (lv_at hl 0 rfl) ?_
    refine lv_dup hx hb dX7_settle_12 rfl ?_
    refine va_get (ci := 7) (v := .int (nI th)) (C := RX7) (T := TX7) (N := 6) hx hb hts hiX7 hown hK hP (0) rfl rfl 4 (by decide) (hts (.fieldLink RX7 29 "KingdomAtDice$Standing" "throwMany" "I") (by decide +kernel)) (fun _ h9 => h9) rfl dX7_settle_13 ?_
    refine lv_iconst (v := 1) hx hb dX7_settle_16 (by decide) ?_
    refine lv_iadd hx hb dX7_settle_17 ?_
    refine kd_top (nI_add th 1) ?_
    refine va_put (ci := 7) (v := .int (nI (th + 1))) (ty := .int) (C := RX7) (T := TX7) (N := 6) hx hb hts hiX7 tyX7 tyX7_ok nmX7 hown hK hP hD hS (0) rfl rfl 4 (by decide) (hts (.fieldLink RX7 29 "KingdomAtDice$Standing" "throwMany" "I") (by decide +kernel)) (fun _ h9 => h9) rfl (by decide +kernel) rfl rfl (Nat.le_of_ble_eq_true rfl) dX7_settle_18 (fun H locs hP hD hS => ?_)
    have hP : va_P g.1 vwCl ([(so, .inr (7, [.ref sa, .ref sn, .int (nI T), .int go, .int (nI (th + 1)), .int (nI sm)])), (sa, .inl (g.2.1 3, 6, .inr (.inr (.inr (.inr (fun j => some (tq j)))))))] ++ (kd_th tq R)) H := hP
    have hD : va_D A ([(so, .inr (7, [.ref sa, .ref sn, .int (nI T), .int go, .int (nI (th + 1)), .int (nI sm)])), (sa, .inl (g.2.1 3, 6, .inr (.inr (.inr (.inr (fun j => some (tq j)))))))] ++ (kd_th tq R)) := hD
    refine lv_iload_n hx hb dX7_settle_21 rfl (lv_at hl 3 rfl) ?_
    refine lv_iload hx hb dX7_settle_22 (lv_at hl 4 rfl) ?_
    refine lv_icmp_ne (tgt := 29) hx hb dX7_settle_24 (by decide) (fun c_24 => ?_) (fun c_24 => ?_)
    · refine lv_iload_n hx hb dX7_settle_29 rfl (lv_at hl 3 rfl) ?_
      refine lv_iload hx hb dX7_settle_30 (lv_at hl 4 rfl) ?_
      refine lv_icmp_ge (tgt := 54) hx hb dX7_settle_32 (by decide) (fun c_32 => ?_) (fun c_32 => ?_)
      · refine lv_aload_n hx hb dX7_settle_54 rfl (lv_at hl 0 rfl) ?_
        refine lv_iload_n hx hb dX7_settle_55 rfl (lv_at hl 2 rfl) ?_
        refine kd_callIK (g := g) (wc := [(so, .inr (7, [.ref sa, .ref sn, .int (nI T), .int go, .int (nI (th + 1)), .int (nI sm)]))]) (va_runV (mc := 0) (ms := 0) (rm := { frames := 1, cells := 0, slots := 0, locals := 21 }) (As := [.int p1]) (rest := []) ⟨hx, hb, hml, hown, hts⟩ (c_X7_has l g H.size so sa sn T go (th + 1) sm p1 hT) (cwV 1 hts gX7_settle_X7_has rfl rfl rfl (by decide +kernel) ⟨Nat.le_of_ble_eq_true rfl, Nat.le_of_ble_eq_true rfl⟩) (kd_preV (wc := [(so, .inr (7, [.ref sa, .ref sn, .int (nI T), .int go, .int (nI (th + 1)), .int (nI sm)]))]) (va_recv hK hP (ci := 7) (q0 := 0) rfl rfl) hP hD hS hA hK hE [0] rfl (by decide)) rfl rfl hl.1 rfl (lv_room (Nat.le_of_ble_eq_true rfl)) dX7_settle_56 ⟨Nat.le_of_ble_eq_true rfl, Nat.le_of_ble_eq_true rfl⟩) hP hD hS hA [0] rfl (fun r_56 _ H locs hw hP hS => ?_)
        subst hw
        refine lv_if_eq (tgt := 74) hx hb dX7_settle_59 (by decide) (fun c_59 => ?_) (fun c_59 => ?_)
        · refine lv_aload_n hx hb dX7_settle_74 rfl (lv_at hl 0 rfl) ?_
          refine lv_dup hx hb dX7_settle_75 rfl ?_
          refine va_get (ci := 7) (v := .int go) (C := RX7) (T := TX7) (N := 6) hx hb hts hiX7 hown hK hP (0) rfl rfl 3 (by decide) (hts (.fieldLink RX7 26 "KingdomAtDice$Standing" "gold" "I") (by decide +kernel)) (fun _ h9 => h9) rfl dX7_settle_76 ?_
          refine lv_aload_n hx hb dX7_settle_79 rfl (lv_at hl 0 rfl) ?_
          refine va_get (ci := 7) (v := .ref sa) (C := RX7) (T := TX7) (N := 6) hx hb hts hiX7 hown hK hP (0) rfl rfl 0 (by decide) (hts (.fieldLink RX7 11 "KingdomAtDice$Standing" "things" "[LKingdomAtDice$Thing;") (by decide +kernel)) (fun _ h9 => h9) rfl dX7_settle_80 ?_
          refine lv_iload_n hx hb dX7_settle_83 rfl (lv_at hl 1 rfl) ?_
          refine kd_aldq hx hb hK hP 1 3 rfl rfl (kd_may c_6 hT) dX7_settle_84 ?_
          refine va_getN (ci := 8) (v := .int (R p0.toNatClampNeg 1)) (C := RX8) (T := TX8) (N := 6) hx hb hts hiX8 hown hK hP (p0.toNatClampNeg + 2) (kd_th_at0 (kd_inlt (kd_may c_6 hT))) rfl 1 (by decide) (kd_Nb hE 50 rfl) (fun _ h9 => h9) rfl dX7_settle_85 ?_
          refine lv_iadd hx hb dX7_settle_88 ?_
          refine va_put (ci := 7) (v := .int (go + (R p0.toNatClampNeg 1))) (ty := .int) (C := RX7) (T := TX7) (N := 6) hx hb hts hiX7 tyX7 tyX7_ok nmX7 hown hK hP hD hS (0) rfl rfl 3 (by decide) (hts (.fieldLink RX7 26 "KingdomAtDice$Standing" "gold" "I") (by decide +kernel)) (fun _ h9 => h9) rfl (by decide +kernel) rfl rfl (Nat.le_of_ble_eq_true rfl) dX7_settle_89 (fun H locs hP hD hS => ?_)
          have hP : va_P g.1 vwCl ([(so, .inr (7, [.ref sa, .ref sn, .int (nI T), .int (go + (R p0.toNatClampNeg 1)), .int (nI (th + 1)), .int (nI sm)])), (sa, .inl (g.2.1 3, 6, .inr (.inr (.inr (.inr (fun j => some (tq j)))))))] ++ (kd_th tq R)) H := hP
          have hD : va_D A ([(so, .inr (7, [.ref sa, .ref sn, .int (nI T), .int (go + (R p0.toNatClampNeg 1)), .int (nI (th + 1)), .int (nI sm)])), (sa, .inl (g.2.1 3, 6, .inr (.inr (.inr (.inr (fun j => some (tq j)))))))] ++ (kd_th tq R)) := hD
          refine lv_iconst (v := 0) hx hb dX7_settle_92 (by decide) ?_
          exact kd_iret hx hb hr hlocks hK hS dX7_settle_93 ((go + (R p0.toNatClampNeg 1), th + 1, R)) (by rw [sp_X7_settle, if_neg c_6, if_neg c_24, if_pos c_32, if_pos c_59]) hP hD
        · refine lv_aload_n hx hb dX7_settle_62 rfl (lv_at hl 0 rfl) ?_
          refine va_get (ci := 7) (v := .ref sa) (C := RX7) (T := TX7) (N := 6) hx hb hts hiX7 hown hK hP (0) rfl rfl 0 (by decide) (hts (.fieldLink RX7 11 "KingdomAtDice$Standing" "things" "[LKingdomAtDice$Thing;") (by decide +kernel)) (fun _ h9 => h9) rfl dX7_settle_63 ?_
          refine lv_iload_n hx hb dX7_settle_66 rfl (lv_at hl 2 rfl) ?_
          refine kd_aldq hx hb hK hP 1 3 rfl rfl (kd_has c_59 hT) dX7_settle_67 ?_
          refine kd_callVJ (Wf := fun (u : (Nat → Nat → Int32)) => (kd_th tq u)) (g := g) (wc := (kd_th tq R)) (wr := [(so, .inr (7, [.ref sa, .ref sn, .int (nI T), .int go, .int (nI (th + 1)), .int (nI sm)])), (sa, .inl (g.2.1 3, 6, .inr (.inr (.inr (.inr (fun j => some (tq j)))))))]) (va_runVN (mc := 0) (ms := 0) (rm := { frames := 0, cells := 0, slots := 0, locals := 0 }) (C := RX8) (host := "KingdomAtDice") (As := []) (rest := []) ⟨hx, hb, hml, hown, hts⟩ (c_X8_comeBack l g H.size tq R p1.toNatClampNeg (kd_inlt (kd_has c_59 hT))) ⟨va_cnB 0 hts gX7_settle_X8_comeBack_n88 rfl rfl rfl (kd_N hE 28 rfl) (hts (.initialized RX8) (by decide +kernel)) (by decide +kernel) ⟨Nat.le_of_ble_eq_true rfl, Nat.le_of_ble_eq_true rfl⟩, (hts (.instanceMethod yX8_comeBack) (by decide +kernel)), (hts (.selects RX8 yX8_comeBack yX8_comeBack) (by decide +kernel))⟩ (kd_preV (wc := (kd_th tq R)) (va_recv hK hP (ci := 8) (q0 := p1.toNatClampNeg + 2) rfl (kd_th_at0 (kd_inlt (kd_has c_59 hT)))) hP hD hS hA hK hE [2, 3, 4, 5, 6, 7] rfl (by decide)) rfl rfl hl.1 rfl (lv_room (Nat.le_of_ble_eq_true rfl)) dX7_settle_68 ⟨Nat.le_of_ble_eq_true rfl, Nat.le_of_ble_eq_true rfl⟩) hP hD hS hA [2, 3, 4, 5, 6, 7] [0, 1] rfl rfl (by decide) (by decide) (fun u_68 H locs hw_68 hP hD hS => ?_)
          obtain ⟨R_68, rfl⟩ : ∃ z, z = u_68 := ⟨_, rfl⟩
          have hP : va_P g.1 vwCl ([(so, .inr (7, [.ref sa, .ref sn, .int (nI T), .int go, .int (nI (th + 1)), .int (nI sm)])), (sa, .inl (g.2.1 3, 6, .inr (.inr (.inr (.inr (fun j => some (tq j)))))))] ++ (kd_th tq R_68)) H := hP
          have hD : va_D A ([(so, .inr (7, [.ref sa, .ref sn, .int (nI T), .int go, .int (nI (th + 1)), .int (nI sm)])), (sa, .inl (g.2.1 3, 6, .inr (.inr (.inr (.inr (fun j => some (tq j)))))))] ++ (kd_th tq R_68)) := hD
          refine lv_goto (tgt := 92) hx hb dX7_settle_71 (by decide) ?_
          refine lv_iconst (v := 0) hx hb dX7_settle_92 (by decide) ?_
          exact kd_iret hx hb hr hlocks hK hS dX7_settle_93 ((go, th + 1, R_68)) (by obtain ⟨rfl⟩ := kd_eq1 hw_68; rw [sp_X7_settle, if_neg c_6, if_neg c_24, if_pos c_32, if_neg c_59]) (hP.sub (ws' := ([(so, .inr (7, [.ref sa, .ref sn, .int (nI T), .int go, .int (nI (th + 1)), .int (nI sm)])), (sa, .inl (g.2.1 3, 6, .inr (.inr (.inr (.inr (fun j => some (tq j)))))))] ++ (kd_th tq R_68))) [0, 1, 2, 3, 4, 5, 6, 7] rfl) (hD.sub (ws' := ([(so, .inr (7, [.ref sa, .ref sn, .int (nI T), .int go, .int (nI (th + 1)), .int (nI sm)])), (sa, .inl (g.2.1 3, 6, .inr (.inr (.inr (.inr (fun j => some (tq j)))))))] ++ (kd_th tq R_68))) [0, 1, 2, 3, 4, 5, 6, 7] (by decide) rfl)
      · refine lv_aload_n hx hb dX7_settle_35 rfl (lv_at hl 0 rfl) ?_
        refine va_get (ci := 7) (v := .ref sa) (C := RX7) (T := TX7) (N := 6) hx hb hts hiX7 hown hK hP (0) rfl rfl 0 (by decide) (hts (.fieldLink RX7 11 "KingdomAtDice$Standing" "things" "[LKingdomAtDice$Thing;") (by decide +kernel)) (fun _ h9 => h9) rfl dX7_settle_36 ?_
        refine lv_iload_n hx hb dX7_settle_39 rfl (lv_at hl 1 rfl) ?_
        refine kd_aldq hx hb hK hP 1 3 rfl rfl (kd_may c_6 hT) dX7_settle_40 ?_
        refine lv_aload_n hx hb dX7_settle_41 rfl (lv_at hl 0 rfl) ?_
        refine va_get (ci := 7) (v := .int (nI (th + 1))) (C := RX7) (T := TX7) (N := 6) hx hb hts hiX7 hown hK hP (0) rfl rfl 4 (by decide) (hts (.fieldLink RX7 29 "KingdomAtDice$Standing" "throwMany" "I") (by decide +kernel)) (fun _ h9 => h9) rfl dX7_settle_42 ?_
        refine lv_aload_n hx hb dX7_settle_45 rfl (lv_at hl 0 rfl) ?_
        refine kd_callIK (g := g) (wc := ([(so, .inr (7, [.ref sa, .ref sn, .int (nI T), .int go, .int (nI (th + 1)), .int (nI sm)])), (sa, .inl (g.2.1 3, 6, .inr (.inr (.inr (.inr (fun j => some (tq j)))))))] ++ (kd_th tq R))) (va_runV (mc := 0) (ms := 0) (rm := { frames := 0, cells := 0, slots := 0, locals := 0 }) (As := []) (rest := [.int (nI (th + 1)), .ref (tq p0.toNatClampNeg)]) ⟨hx, hb, hml, hown, hts⟩ (c_X7_isSelfKings l g H.size so sa sn T go (th + 1) sm tq R hT hz) (cwV 0 hts gX7_settle_X7_isSelfKings rfl rfl rfl (by decide +kernel) ⟨Nat.le_of_ble_eq_true rfl, Nat.le_of_ble_eq_true rfl⟩) (kd_preV (wc := ([(so, .inr (7, [.ref sa, .ref sn, .int (nI T), .int go, .int (nI (th + 1)), .int (nI sm)])), (sa, .inl (g.2.1 3, 6, .inr (.inr (.inr (.inr (fun j => some (tq j)))))))] ++ (kd_th tq R))) (va_recv hK hP (ci := 7) (q0 := 0) rfl rfl) hP hD hS hA hK hE [0, 1, 2, 3, 4, 5, 6, 7] rfl (by decide)) rfl rfl hl.1 rfl (lv_room (Nat.le_of_ble_eq_true rfl)) dX7_settle_46 ⟨Nat.le_of_ble_eq_true rfl, Nat.le_of_ble_eq_true rfl⟩) hP hD hS hA [0, 1, 2, 3, 4, 5, 6, 7] rfl (fun r_46 _ H locs hw hP hS => ?_)
        subst hw
        refine kd_callVJ (Wf := fun (u : (Nat → Nat → Int32)) => (kd_th tq u)) (g := g) (wc := (kd_th tq R)) (wr := [(so, .inr (7, [.ref sa, .ref sn, .int (nI T), .int go, .int (nI (th + 1)), .int (nI sm)])), (sa, .inl (g.2.1 3, 6, .inr (.inr (.inr (.inr (fun j => some (tq j)))))))]) (va_runVN (mc := 0) (ms := 0) (rm := { frames := 0, cells := 0, slots := 0, locals := 0 }) (C := RX8) (host := "KingdomAtDice") (As := [.int (nI (th + 1)), .int (kd_self R 0 T)]) (rest := []) ⟨hx, hb, hml, hown, hts⟩ (c_X8_lose l g H.size tq R p0.toNatClampNeg (nI (th + 1)) (kd_self R 0 T) (kd_inlt (kd_may c_6 hT))) ⟨va_cnB 2 hts gX7_settle_X8_lose_n84 rfl rfl rfl (kd_N hE 27 rfl) (hts (.initialized RX8) (by decide +kernel)) (by decide +kernel) ⟨Nat.le_of_ble_eq_true rfl, Nat.le_of_ble_eq_true rfl⟩, (hts (.instanceMethod yX8_lose) (by decide +kernel)), (hts (.selects RX8 yX8_lose yX8_lose) (by decide +kernel))⟩ (kd_preV (wc := (kd_th tq R)) (va_recv hK hP (ci := 8) (q0 := p0.toNatClampNeg + 2) rfl (kd_th_at0 (kd_inlt (kd_may c_6 hT)))) hP hD hS hA hK hE [2, 3, 4, 5, 6, 7] rfl (by decide)) rfl rfl hl.1 rfl (lv_room (Nat.le_of_ble_eq_true rfl)) dX7_settle_49 ⟨Nat.le_of_ble_eq_true rfl, Nat.le_of_ble_eq_true rfl⟩) hP hD hS hA [2, 3, 4, 5, 6, 7] [0, 1] rfl rfl (by decide) (by decide) (fun u_49 H locs hw_49 hP hD hS => ?_)
        obtain ⟨R_49, rfl⟩ : ∃ z, z = u_49 := ⟨_, rfl⟩
        have hP : va_P g.1 vwCl ([(so, .inr (7, [.ref sa, .ref sn, .int (nI T), .int go, .int (nI (th + 1)), .int (nI sm)])), (sa, .inl (g.2.1 3, 6, .inr (.inr (.inr (.inr (fun j => some (tq j)))))))] ++ (kd_th tq R_49)) H := hP
        have hD : va_D A ([(so, .inr (7, [.ref sa, .ref sn, .int (nI T), .int go, .int (nI (th + 1)), .int (nI sm)])), (sa, .inl (g.2.1 3, 6, .inr (.inr (.inr (.inr (fun j => some (tq j)))))))] ++ (kd_th tq R_49)) := hD
        refine lv_iconst (v := 1) hx hb dX7_settle_52 (by decide) ?_
        exact kd_iret hx hb hr hlocks hK hS dX7_settle_53 ((go, th + 1, R_49)) (by obtain ⟨rfl⟩ := kd_eq1 hw_49; rw [sp_X7_settle, if_neg c_6, if_neg c_24, if_neg c_32]) (hP.sub (ws' := ([(so, .inr (7, [.ref sa, .ref sn, .int (nI T), .int go, .int (nI (th + 1)), .int (nI sm)])), (sa, .inl (g.2.1 3, 6, .inr (.inr (.inr (.inr (fun j => some (tq j)))))))] ++ (kd_th tq R_49))) [0, 1, 2, 3, 4, 5, 6, 7] rfl) (hD.sub (ws' := ([(so, .inr (7, [.ref sa, .ref sn, .int (nI T), .int go, .int (nI (th + 1)), .int (nI sm)])), (sa, .inl (g.2.1 3, 6, .inr (.inr (.inr (.inr (fun j => some (tq j)))))))] ++ (kd_th tq R_49))) [0, 1, 2, 3, 4, 5, 6, 7] (by decide) rfl)
    · refine lv_iconst (v := (-1)) hx hb dX7_settle_27 (by decide) ?_
      exact kd_iret hx hb hr hlocks hK hS dX7_settle_28 ((go, th + 1, R)) (by rw [sp_X7_settle, if_neg c_6, if_pos c_24]) hP hD
  · refine lv_iconst (v := (-1)) hx hb dX7_settle_9 (by decide) ?_
    exact kd_iret hx hb hr hlocks hK hS dX7_settle_10 ((go, th, R)) (by rw [sp_X7_settle, if_pos c_6]) hP hD
def kd_ws (k : Nat) (sf : Nat → Int32) : Nat → Int64
  | 0 => 1
  | i + 1 => kd_ws k sf i * (kd_w k (sf i)).toInt64
set_option maxHeartbeats 4000000 in
set_option maxRecDepth 100000 in
theorem c_X7_waysSeenBy (l : Launch) (g : kd_G) (sz : Nat) (so : Nat) (sa : Nat) (sn : Nat) (T : Nat) (go : Int32) (th : Nat) (sm : Nat) (sf : Nat → Int32) (dq : Nat → Nat) (k : Nat) (hT : T ≤ 6) (hsm : sm ≤ 8) (hk : k < 5) : kd_ML l yX7_waysSeenBy wsX7_waysSeenBy ({ frames := 2, cells := 0, slots := 0, locals := 44 }) [.ref so, .ref (dq k)] g ([(so, .inr (7, [.ref sa, .ref sn, .int (nI T), .int go, .int (nI th), .int (nI sm)])), (sn, .inl (g.2.1 0, 8, .inl sf))] ++ (kd_dc dq)) sz (fun r (_ : Unit) => r = kd_ws k sf sm) (fun _ => ([(so, .inr (7, [.ref sa, .ref sn, .int (nI T), .int go, .int (nI th), .int (nI sm)])), (sn, .inl (g.2.1 0, 8, .inl sf))] ++ (kd_dc dq))) 0 0 := by
  refine kd_met (l := l) (y := yX7_waysSeenBy) (ws := wsX7_waysSeenBy) (rm := { frames := 2, cells := 0, slots := 0, locals := 44 }) (av := [.ref so, .ref (dq k)]) (g := g) (WS := ([(so, .inr (7, [.ref sa, .ref sn, .int (nI T), .int go, .int (nI th), .int (nI sm)])), (sn, .inl (g.2.1 0, 8, .inl sf))] ++ (kd_dc dq))) (sz := sz) (mc := 0) (ms := 0) (cc := cX7_waysSeenBy) (maxL := 5) (ret := (some .long)) (own := RX7) (fun A => va_Ql (fun r (_ : Unit) => r = kd_ws k sf sm) (fun u t => kd_post g A ([(so, .inr (7, [.ref sa, .ref sn, .int (nI T), .int go, .int (nI th), .int (nI sm)])), (sn, .inl (g.2.1 0, 8, .inl sf))] ++ (kd_dc dq)) t) A) (by decide) rfl rfl (Nat.le_of_ble_eq_true rfl) ?_
  intro p e s m below meth c A ls hx hb hr hml hts hown hlocks hnm hA hP hK hD hS hE hl
  have hl : lv_has ls 5 [(0, .ref so), (1, .ref (dq k))] := hl
  have hiX7 : ∀ w ∈ u_ws RX7 TX7 6, w ∈ wsX7_waysSeenBy := by decide +kernel
  refine lv_lconst (v := 1) hx hb dX7_waysSeenBy_0 (by decide) ?_
  refine lv_lstore_n (lv' := [(2, .long 1), (0, .ref so), (1, .ref (dq k))]) hx hb dX7_waysSeenBy_1 rfl hl (by decide) rfl (fun ls hl => ?_)
  refine lv_iconst (v := 0) hx hb dX7_waysSeenBy_2 (by decide) ?_
  refine lv_istore (lv' := [(4, .int 0), (2, .long 1), (0, .ref so), (1, .ref (dq k))]) hx hb dX7_waysSeenBy_3 hl (by decide) rfl (fun ls hl => ?_)
  have loop_5 : ∀ (n_5 : Nat) (i : Nat) (a : Int64), (i ≤ sm) → (a = kd_ws k sf i) → (sm - i) < n_5 → ∀ (H : Heap) (locs : List Loc), va_P g.1 vwCl ([(so, .inr (7, [.ref sa, .ref sn, .int (nI T), .int go, .int (nI th), .int (nI sm)])), (sn, .inl (g.2.1 0, 8, .inl sf))] ++ (kd_dc dq)) H → va_D A ([(so, .inr (7, [.ref sa, .ref sn, .int (nI T), .int go, .int (nI th), .int (nI sm)])), (sn, .inl (g.2.1 0, 8, .inl sf))] ++ (kd_dc dq)) → va_S A s.heap H locs → ∀ (ls : Array Slot), lv_has ls 5 [(0, .ref so), (1, .ref (dq k)), (2, .long a), (4, .int (nI i))] → W p l e ({ frames := 2, cells := 0, slots := 0, locals := 44 } : Room) s m ([.ref so, .ref (dq k)] : List Value).toArray below meth c H locs 0 0 (MQ below (va_Ql (fun r (_ : Unit) => r = kd_ws k sf sm) (fun u t => kd_post g A ([(so, .inr (7, [.ref sa, .ref sn, .int (nI T), .int go, .int (nI th), .int (nI sm)])), (sn, .inl (g.2.1 0, 8, .inl sf))] ++ (kd_dc dq)) t) A) ([.ref so, .ref (dq k)] : List Value).toArray s 0 0 A) (F0 m 5 ls []) := by
    intro n_5
    induction n_5 with
    | zero => intro i a _ _ hm_5; exact absurd hm_5 (Nat.not_lt_zero _)
    | succ n_5 ih_5 =>
      intro i a hi ha hm_5 H locs hP hD hS ls hl
      refine lv_iload hx hb dX7_waysSeenBy_5 (lv_at hl 3 rfl) ?_
      refine lv_aload_n hx hb dX7_waysSeenBy_7 rfl (lv_at hl 0 rfl) ?_
      refine va_get (ci := 7) (v := .int (nI sm)) (C := RX7) (T := TX7) (N := 6) hx hb hts hiX7 hown hK hP (0) rfl rfl 5 (by decide) (hts (.fieldLink RX7 32 "KingdomAtDice$Standing" "seenMany" "I") (by decide +kernel)) (fun _ h9 => h9) rfl dX7_waysSeenBy_8 ?_
      refine lv_icmp_ge (tgt := 35) hx hb dX7_waysSeenBy_11 (by decide) (fun c_11 => ?_) (fun c_11 => ?_)
      · have n_11 : sm ≤ i := kd_ce (a := sm) (b := i) (by omega) (by omega) c_11
        refine lv_lload_n hx hb dX7_waysSeenBy_35 rfl (lv_at hl 2 rfl) ?_
        exact kd_lret hx hb hr hlocks hK hS dX7_waysSeenBy_36 (()) (by rw [ha, show i = sm by omega]) hP hD
      · have n_11 : i < sm := kd_cne (a := sm) (b := i) (by omega) (by omega) c_11
        refine lv_lload_n hx hb dX7_waysSeenBy_14 rfl (lv_at hl 2 rfl) ?_
        refine lv_aload_n hx hb dX7_waysSeenBy_15 rfl (lv_at hl 1 rfl) ?_
        refine lv_aload_n hx hb dX7_waysSeenBy_16 rfl (lv_at hl 0 rfl) ?_
        refine va_get (ci := 7) (v := .ref sn) (C := RX7) (T := TX7) (N := 6) hx hb hts hiX7 hown hK hP (0) rfl rfl 1 (by decide) (hts (.fieldLink RX7 18 "KingdomAtDice$Standing" "seen" "[I") (by decide +kernel)) (fun _ h9 => h9) rfl dX7_waysSeenBy_17 ?_
        refine lv_iload hx hb dX7_waysSeenBy_20 (lv_at hl 3 rfl) ?_
        refine kd_iald hx hb hK hP 1 (k := i) rfl (by omega) (by decide) dX7_waysSeenBy_22 ?_
        have run_23 : ∀ k_23 : Nat, k_23 < 5 → va_Run p l e ({ frames := 2, cells := 0, slots := 0, locals := 44 } : Room) s m ([.ref so, .ref (dq k)] : List Value).toArray below meth c H locs 0 0 0 0 (F0 m 23 ls [.int (sf i), .ref (dq k_23), .long a]) [.long a] (va_Qi (fun r (_ : Unit) => r = kd_w k_23 (sf i)) (fun _ t => kd_post g (va_A (kd_dc dq) H.size) (kd_dc dq) t) (va_A (kd_dc dq) H.size) (.ref (dq k_23) :: [.int (sf i)]).toArray) (va_A (kd_dc dq) H.size) := by
          intro k_23 hk
          rcases (show k_23 = 0 ∨ k_23 = 1 ∨ k_23 = 2 ∨ k_23 = 3 ∨ k_23 = 4 by omega) with rfl | rfl | rfl | rfl | rfl
          · exact va_runV (mc := 0) (ms := 0) (rm := { frames := 1, cells := 0, slots := 0, locals := 20 }) (As := [.int (sf i)]) (rest := [.long a]) ⟨hx, hb, hml, hown, hts⟩ (c_waysOf_0 l g H.size dq (sf i) ) (cwV 1 hts gX7_waysSeenBy_X1_waysOf rfl rfl rfl (by decide +kernel) ⟨Nat.le_of_ble_eq_true rfl, Nat.le_of_ble_eq_true rfl⟩) (kd_preV (wc := (kd_dc dq)) (va_recv hK hP (ci := 1) (q0 := 2) rfl rfl) hP hD hS hA hK hE [2, 3, 4, 5, 6] rfl (by decide)) rfl rfl hl.1 rfl (lv_room (Nat.le_of_ble_eq_true rfl)) dX7_waysSeenBy_23 ⟨Nat.le_of_ble_eq_true rfl, Nat.le_of_ble_eq_true rfl⟩
          · exact va_runU (mc := 0) (ms := 0) (rm := { frames := 1, cells := 0, slots := 0, locals := 20 }) (C := RX3) (As := [.int (sf i)]) (rest := [.long a]) ⟨hx, hb, hml, hown, hts⟩ (c_waysOf_1 l g H.size dq (sf i) ) (va_cwU 1 hts gX7_waysSeenBy_X1_waysOf_u100X3 rfl rfl rfl rfl (by decide +kernel) ⟨Nat.le_of_ble_eq_true rfl, Nat.le_of_ble_eq_true rfl⟩) (kd_preV (wc := (kd_dc dq)) (va_recv hK hP (ci := 3) (q0 := 3) rfl rfl) hP hD hS hA hK hE [2, 3, 4, 5, 6] rfl (by decide)) rfl rfl hl.1 rfl (lv_room (Nat.le_of_ble_eq_true rfl)) dX7_waysSeenBy_23 ⟨Nat.le_of_ble_eq_true rfl, Nat.le_of_ble_eq_true rfl⟩
          · exact va_runU (mc := 0) (ms := 0) (rm := { frames := 1, cells := 0, slots := 0, locals := 20 }) (C := RX9) (As := [.int (sf i)]) (rest := [.long a]) ⟨hx, hb, hml, hown, hts⟩ (c_waysOf_2 l g H.size dq (sf i) ) (va_cwO 1 hts gX7_waysSeenBy_X9_waysOf_u100X9 rfl rfl rfl (show Cond.code yX1_waysOf cX1_waysOf 5 (some .int) ∈ _ by decide +kernel) (by decide +kernel) ⟨Nat.le_of_ble_eq_true rfl, Nat.le_of_ble_eq_true rfl⟩) (kd_preV (wc := (kd_dc dq)) (va_recv hK hP (ci := 9) (q0 := 4) rfl rfl) hP hD hS hA hK hE [2, 3, 4, 5, 6] rfl (by decide)) rfl rfl hl.1 rfl (lv_room (Nat.le_of_ble_eq_true rfl)) dX7_waysSeenBy_23 ⟨Nat.le_of_ble_eq_true rfl, Nat.le_of_ble_eq_true rfl⟩
          · exact va_runU (mc := 0) (ms := 0) (rm := { frames := 1, cells := 0, slots := 0, locals := 20 }) (C := RX4) (As := [.int (sf i)]) (rest := [.long a]) ⟨hx, hb, hml, hown, hts⟩ (c_waysOf_3 l g H.size dq (sf i) ) (va_cwU 1 hts gX7_waysSeenBy_X1_waysOf_u100X4 rfl rfl rfl rfl (by decide +kernel) ⟨Nat.le_of_ble_eq_true rfl, Nat.le_of_ble_eq_true rfl⟩) (kd_preV (wc := (kd_dc dq)) (va_recv hK hP (ci := 4) (q0 := 5) rfl rfl) hP hD hS hA hK hE [2, 3, 4, 5, 6] rfl (by decide)) rfl rfl hl.1 rfl (lv_room (Nat.le_of_ble_eq_true rfl)) dX7_waysSeenBy_23 ⟨Nat.le_of_ble_eq_true rfl, Nat.le_of_ble_eq_true rfl⟩
          · exact va_runU (mc := 0) (ms := 0) (rm := { frames := 1, cells := 0, slots := 0, locals := 20 }) (C := RX0) (As := [.int (sf i)]) (rest := [.long a]) ⟨hx, hb, hml, hown, hts⟩ (c_waysOf_4 l g H.size dq (sf i) ) (va_cwU 1 hts gX7_waysSeenBy_X1_waysOf_u100X0 rfl rfl rfl rfl (by decide +kernel) ⟨Nat.le_of_ble_eq_true rfl, Nat.le_of_ble_eq_true rfl⟩) (kd_preV (wc := (kd_dc dq)) (va_recv hK hP (ci := 0) (q0 := 6) rfl rfl) hP hD hS hA hK hE [2, 3, 4, 5, 6] rfl (by decide)) rfl rfl hl.1 rfl (lv_room (Nat.le_of_ble_eq_true rfl)) dX7_waysSeenBy_23 ⟨Nat.le_of_ble_eq_true rfl, Nat.le_of_ble_eq_true rfl⟩
        refine kd_callIK (g := g) (wc := (kd_dc dq)) (run_23 k hk) hP hD hS hA [2, 3, 4, 5, 6] rfl (fun r_23 _ H locs hw hP hS => ?_)
        subst hw
        refine lv_i2l hx hb dX7_waysSeenBy_26 rfl ?_
        refine lv_lmul hx hb dX7_waysSeenBy_27 ?_
        refine lv_lstore_n (lv' := [(2, .long (a * ((kd_w k (sf i)).toInt64))), (0, .ref so), (1, .ref (dq k)), (4, .int (nI i))]) hx hb dX7_waysSeenBy_28 rfl hl (by decide) rfl (fun ls hl => ?_)
        refine lv_iinc (v := nI (i + 1)) (lv' := [(4, .int (nI (i + 1))), (2, .long (a * ((kd_w k (sf i)).toInt64))), (0, .ref so), (1, .ref (dq k))]) hx hb dX7_waysSeenBy_29 hl (k := 3) rfl (nI_1 _) (by decide) rfl (fun ls hl => ?_)
        refine lv_goto (tgt := 5) hx hb dX7_waysSeenBy_32 (by decide) ?_
        exact ih_5 (i + 1) (a * ((kd_w k (sf i)).toInt64)) (by omega) (by rw [kd_ws, ← ha]) (by omega) _ _ hP hD hS ls (lv_sub hl [2, 3, 1, 0] rfl)
  exact loop_5 ((sm - 0) + 1) 0 1 (by omega) rfl (Nat.lt_succ_self _) _ _ hP hD hS ls (lv_sub hl [2, 3, 1, 0] rfl)
theorem kd_hallT {n q : Nat} (hn : n = 3 * q + 2) (hq : q ≤ 6) : sp_X6_hallThings n = nI q := by
  subst hn
  rcases (show q = 0 ∨ q = 1 ∨ q = 2 ∨ q = 3 ∨ q = 4 ∨ q = 5 ∨ q = 6 by omega) with rfl | rfl | rfl | rfl | rfl | rfl | rfl <;> decide
theorem kd_min6 {q : Nat} (hq : q ≤ 6) : (if 6 < (nI q) then 6 else (nI q)) = nI q := if_neg (fun h => absurd (kd_cl (a := 6) (b := q) (by decide) (by omega) h) (by omega))
/-- the things of a new hall, the first i -/
def kd_bg (pf : Nat → Int32) (pn : Nat) (R : Nat → Nat → Int32) : Nat → Nat → Nat → Int32
  | 0 => R
  | i + 1 => sp_X8_begin (kd_bg pf pn R i) i (sp_X6_hallSort pf pn (nI i)) (sp_X6_hallWorth pf pn (nI i))
set_option maxHeartbeats 4000000 in
set_option maxRecDepth 100000 in
theorem c_X7_begin (l : Launch) (g : kd_G) (sz : Nat) (so : Nat) (sa : Nat) (sn : Nat) (T : Nat) (go : Int32) (th : Nat) (sm : Nat) (tq : Nat → Nat) (R : Nat → Nat → Int32) (pg : Nat) (pc : Nat) (pf : Nat → Int32) (pn : Nat) (q : Nat) (hT : T ≤ 6) (hpn : pn ≤ 22) (hq : pn = 3 * q + 2) (hq6 : q ≤ 6) : kd_MV l yX7_begin wsX7_begin ({ frames := 5, cells := 0, slots := 0, locals := 112 }) [.ref so, .ref pg] g ([(so, .inr (7, [.ref sa, .ref sn, .int (nI T), .int go, .int (nI th), .int (nI sm)])), (sa, .inl (g.2.1 3, 6, .inr (.inr (.inr (.inr (fun j => some (tq j)))))))] ++ (kd_th tq R ++ [(pg, .inr (6, [.ref pc, .int (nI pn)])), (pc, .inl (g.2.1 0, 22, .inl pf))])) sz (fun (u : Nat × Int32 × Nat × Nat × (Nat → Nat → Int32)) => u = (q, (0 : Int32), (0 : Nat), (0 : Nat), kd_bg pf pn R q)) (fun u => ([(so, .inr (7, [.ref sa, .ref sn, .int (nI u.1), .int u.2.1, .int (nI u.2.2.1), .int (nI u.2.2.2.1)])), (sa, .inl (g.2.1 3, 6, .inr (.inr (.inr (.inr (fun j => some (tq j)))))))] ++ (kd_th tq u.2.2.2.2 ++ [(pg, .inr (6, [.ref pc, .int (nI pn)])), (pc, .inl (g.2.1 0, 22, .inl pf))]))) 0 0 := by
  refine kd_met (l := l) (y := yX7_begin) (ws := wsX7_begin) (rm := { frames := 5, cells := 0, slots := 0, locals := 112 }) (av := [.ref so, .ref pg]) (g := g) (WS := ([(so, .inr (7, [.ref sa, .ref sn, .int (nI T), .int go, .int (nI th), .int (nI sm)])), (sa, .inl (g.2.1 3, 6, .inr (.inr (.inr (.inr (fun j => some (tq j)))))))] ++ (kd_th tq R ++ [(pg, .inr (6, [.ref pc, .int (nI pn)])), (pc, .inl (g.2.1 0, 22, .inl pf))]))) (sz := sz) (mc := 0) (ms := 0) (cc := cX7_begin) (maxL := 3) (ret := none) (own := RX7) (fun A => va_Qv (fun (u : Nat × Int32 × Nat × Nat × (Nat → Nat → Int32)) => u = (q, (0 : Int32), (0 : Nat), (0 : Nat), kd_bg pf pn R q)) (fun u t => kd_post g A ([(so, .inr (7, [.ref sa, .ref sn, .int (nI u.1), .int u.2.1, .int (nI u.2.2.1), .int (nI u.2.2.2.1)])), (sa, .inl (g.2.1 3, 6, .inr (.inr (.inr (.inr (fun j => some (tq j)))))))] ++ (kd_th tq u.2.2.2.2 ++ [(pg, .inr (6, [.ref pc, .int (nI pn)])), (pc, .inl (g.2.1 0, 22, .inl pf))])) t) A) (by decide) rfl rfl (Nat.le_of_ble_eq_true rfl) ?_
  intro p e s m below meth c A ls hx hb hr hml hts hown hlocks hnm hA hP hK hD hS hE hl
  have hl : lv_has ls 3 [(0, .ref so), (1, .ref pg)] := hl
  have hiX7 : ∀ w ∈ u_ws RX7 TX7 6, w ∈ wsX7_begin := by decide +kernel
  refine lv_aload_n hx hb dX7_begin_0 rfl (lv_at hl 0 rfl) ?_
  refine lv_aload_n hx hb dX7_begin_1 rfl (lv_at hl 1 rfl) ?_
  refine kd_callIK (g := g) (wc := [(pg, .inr (6, [.ref pc, .int (nI pn)])), (pc, .inl (g.2.1 0, 22, .inl pf))]) (va_runVN (mc := 0) (ms := 0) (rm := { frames := 0, cells := 0, slots := 0, locals := 0 }) (C := RX6) (host := "KingdomAtDice") (As := []) (rest := [.ref so]) ⟨hx, hb, hml, hown, hts⟩ (c_X6_hallThings l g s.heap.size pg pc pf pn hpn) ⟨va_cnB 0 hts gX7_begin_X6_hallThings_n35 rfl rfl rfl (kd_N hE 12 rfl) (hts (.initialized RX6) (by decide +kernel)) (by decide +kernel) ⟨Nat.le_of_ble_eq_true rfl, Nat.le_of_ble_eq_true rfl⟩, (hts (.instanceMethod yX6_hallThings) (by decide +kernel)), (hts (.selects RX6 yX6_hallThings yX6_hallThings) (by decide +kernel))⟩ (kd_preV (wc := [(pg, .inr (6, [.ref pc, .int (nI pn)])), (pc, .inl (g.2.1 0, 22, .inl pf))]) (va_recv hK hP (ci := 6) (q0 := 8) rfl rfl) hP hD hS hA hK hE [8, 9] rfl (by decide)) rfl rfl hl.1 rfl (lv_room (Nat.le_of_ble_eq_true rfl)) dX7_begin_2 ⟨Nat.le_of_ble_eq_true rfl, Nat.le_of_ble_eq_true rfl⟩) hP hD hS hA [8, 9] rfl (fun r_2 _ H locs hw hP hS => ?_)
  subst hw
  refine kd_top (y := nI q) (kd_hallT hq hq6) ?_
  refine lv_aload_n hx hb dX7_begin_5 rfl (lv_at hl 0 rfl) ?_
  refine va_get (ci := 7) (v := .ref sa) (C := RX7) (T := TX7) (N := 6) hx hb hts hiX7 hown hK hP (0) rfl rfl 0 (by decide) (hts (.fieldLink RX7 11 "KingdomAtDice$Standing" "things" "[LKingdomAtDice$Thing;") (by decide +kernel)) (fun _ h9 => h9) rfl dX7_begin_6 ?_
  refine va_alen hx hb hK hP 1 3 rfl rfl (v := 6) rfl dX7_begin_9 ?_
  refine va_mmin hx hb (by rw [hml]; exact hl.1.symm) hown (hts (.methodLink RX7 41 Lib.Math.min.name) (by decide +kernel)) (hts (.static Lib.Math.min.name) (by decide +kernel)) (hts (.initialized "java/lang/Math") (by decide +kernel)) (hts (.code Lib.Math.min.name Lib.Math.min.code 2 (some .int)) (by decide +kernel)) (Nat.le_of_ble_eq_true rfl) (Nat.le_of_ble_eq_true rfl) (Nat.le_of_ble_eq_true rfl) (Nat.le_of_ble_eq_true rfl) dX7_begin_10 ?_
  refine kd_top (y := nI q) (kd_min6 hq6) ?_
  refine va_put (ci := 7) (v := .int (nI q)) (ty := .int) (C := RX7) (T := TX7) (N := 6) hx hb hts hiX7 tyX7 tyX7_ok nmX7 hown hK hP hD hS (0) rfl rfl 2 (by decide) (hts (.fieldLink RX7 22 "KingdomAtDice$Standing" "thingMany" "I") (by decide +kernel)) (fun _ h9 => h9) rfl (by decide +kernel) rfl rfl (Nat.le_of_ble_eq_true rfl) dX7_begin_13 (fun H locs hP hD hS => ?_)
  have hP : va_P g.1 vwCl ([(so, .inr (7, [.ref sa, .ref sn, .int (nI q), .int go, .int (nI th), .int (nI sm)])), (sa, .inl (g.2.1 3, 6, .inr (.inr (.inr (.inr (fun j => some (tq j)))))))] ++ (kd_th tq R ++ [(pg, .inr (6, [.ref pc, .int (nI pn)])), (pc, .inl (g.2.1 0, 22, .inl pf))])) H := hP
  have hD : va_D A ([(so, .inr (7, [.ref sa, .ref sn, .int (nI q), .int go, .int (nI th), .int (nI sm)])), (sa, .inl (g.2.1 3, 6, .inr (.inr (.inr (.inr (fun j => some (tq j)))))))] ++ (kd_th tq R ++ [(pg, .inr (6, [.ref pc, .int (nI pn)])), (pc, .inl (g.2.1 0, 22, .inl pf))])) := hD
  refine lv_iconst (v := 0) hx hb dX7_begin_16 (by decide) ?_
  refine lv_istore_n (lv' := [(2, .int 0), (0, .ref so), (1, .ref pg)]) hx hb dX7_begin_17 rfl hl (by decide) rfl (fun ls hl => ?_)
  have loop_18 : ∀ (n_18 : Nat) (i : Nat) (Rv : Nat → Nat → Int32), (i ≤ q) → (Rv = kd_bg pf pn R i) → (q - i) < n_18 → ∀ (H : Heap) (locs : List Loc), va_P g.1 vwCl ([(so, .inr (7, [.ref sa, .ref sn, .int (nI q), .int go, .int (nI th), .int (nI sm)])), (sa, .inl (g.2.1 3, 6, .inr (.inr (.inr (.inr (fun j => some (tq j)))))))] ++ (kd_th tq Rv ++ [(pg, .inr (6, [.ref pc, .int (nI pn)])), (pc, .inl (g.2.1 0, 22, .inl pf))])) H → va_D A ([(so, .inr (7, [.ref sa, .ref sn, .int (nI q), .int go, .int (nI th), .int (nI sm)])), (sa, .inl (g.2.1 3, 6, .inr (.inr (.inr (.inr (fun j => some (tq j)))))))] ++ (kd_th tq Rv ++ [(pg, .inr (6, [.ref pc, .int (nI pn)])), (pc, .inl (g.2.1 0, 22, .inl pf))])) → va_S A s.heap H locs → ∀ (ls : Array Slot), lv_has ls 3 [(0, .ref so), (1, .ref pg), (2, .int (nI i))] → W p l e ({ frames := 5, cells := 0, slots := 0, locals := 112 } : Room) s m ([.ref so, .ref pg] : List Value).toArray below meth c H locs 0 0 (MQ below (va_Qv (fun (u : Nat × Int32 × Nat × Nat × (Nat → Nat → Int32)) => u = (q, (0 : Int32), (0 : Nat), (0 : Nat), kd_bg pf pn R q)) (fun u t => kd_post g A ([(so, .inr (7, [.ref sa, .ref sn, .int (nI u.1), .int u.2.1, .int (nI u.2.2.1), .int (nI u.2.2.2.1)])), (sa, .inl (g.2.1 3, 6, .inr (.inr (.inr (.inr (fun j => some (tq j)))))))] ++ (kd_th tq u.2.2.2.2 ++ [(pg, .inr (6, [.ref pc, .int (nI pn)])), (pc, .inl (g.2.1 0, 22, .inl pf))])) t) A) ([.ref so, .ref pg] : List Value).toArray s 0 0 A) (F0 m 18 ls []) := by
    intro n_18
    induction n_18 with
    | zero => intro i Rv _ _ hm_18; exact absurd hm_18 (Nat.not_lt_zero _)
    | succ n_18 ih_18 =>
      intro i Rv hi hR hm_18 H locs hP hD hS ls hl
      refine lv_iload_n hx hb dX7_begin_18 rfl (lv_at hl 2 rfl) ?_
      refine lv_aload_n hx hb dX7_begin_19 rfl (lv_at hl 0 rfl) ?_
      refine va_get (ci := 7) (v := .int (nI q)) (C := RX7) (T := TX7) (N := 6) hx hb hts hiX7 hown hK hP (0) rfl rfl 2 (by decide) (hts (.fieldLink RX7 22 "KingdomAtDice$Standing" "thingMany" "I") (by decide +kernel)) (fun _ h9 => h9) rfl dX7_begin_20 ?_
      refine lv_icmp_ge (tgt := 51) hx hb dX7_begin_23 (by decide) (fun c_23 => ?_) (fun c_23 => ?_)
      · have n_23 : q ≤ i := kd_ce (a := q) (b := i) (by omega) (by omega) c_23
        refine lv_aload_n hx hb dX7_begin_51 rfl (lv_at hl 0 rfl) ?_
        refine lv_iconst (v := 0) hx hb dX7_begin_52 (by decide) ?_
        refine va_put (ci := 7) (v := .int 0) (ty := .int) (C := RX7) (T := TX7) (N := 6) hx hb hts hiX7 tyX7 tyX7_ok nmX7 hown hK hP hD hS (0) rfl rfl 3 (by decide) (hts (.fieldLink RX7 26 "KingdomAtDice$Standing" "gold" "I") (by decide +kernel)) (fun _ h9 => h9) rfl (by decide +kernel) rfl rfl (Nat.le_of_ble_eq_true rfl) dX7_begin_53 (fun H locs hP hD hS => ?_)
        have hP : va_P g.1 vwCl ([(so, .inr (7, [.ref sa, .ref sn, .int (nI q), .int 0, .int (nI th), .int (nI sm)])), (sa, .inl (g.2.1 3, 6, .inr (.inr (.inr (.inr (fun j => some (tq j)))))))] ++ (kd_th tq Rv ++ [(pg, .inr (6, [.ref pc, .int (nI pn)])), (pc, .inl (g.2.1 0, 22, .inl pf))])) H := hP
        have hD : va_D A ([(so, .inr (7, [.ref sa, .ref sn, .int (nI q), .int 0, .int (nI th), .int (nI sm)])), (sa, .inl (g.2.1 3, 6, .inr (.inr (.inr (.inr (fun j => some (tq j)))))))] ++ (kd_th tq Rv ++ [(pg, .inr (6, [.ref pc, .int (nI pn)])), (pc, .inl (g.2.1 0, 22, .inl pf))])) := hD
        refine lv_aload_n hx hb dX7_begin_56 rfl (lv_at hl 0 rfl) ?_
        refine lv_iconst (v := 0) hx hb dX7_begin_57 (by decide) ?_
        refine va_put (ci := 7) (v := .int 0) (ty := .int) (C := RX7) (T := TX7) (N := 6) hx hb hts hiX7 tyX7 tyX7_ok nmX7 hown hK hP hD hS (0) rfl rfl 4 (by decide) (hts (.fieldLink RX7 29 "KingdomAtDice$Standing" "throwMany" "I") (by decide +kernel)) (fun _ h9 => h9) rfl (by decide +kernel) rfl rfl (Nat.le_of_ble_eq_true rfl) dX7_begin_58 (fun H locs hP hD hS => ?_)
        have hP : va_P g.1 vwCl ([(so, .inr (7, [.ref sa, .ref sn, .int (nI q), .int 0, .int 0, .int (nI sm)])), (sa, .inl (g.2.1 3, 6, .inr (.inr (.inr (.inr (fun j => some (tq j)))))))] ++ (kd_th tq Rv ++ [(pg, .inr (6, [.ref pc, .int (nI pn)])), (pc, .inl (g.2.1 0, 22, .inl pf))])) H := hP
        have hD : va_D A ([(so, .inr (7, [.ref sa, .ref sn, .int (nI q), .int 0, .int 0, .int (nI sm)])), (sa, .inl (g.2.1 3, 6, .inr (.inr (.inr (.inr (fun j => some (tq j)))))))] ++ (kd_th tq Rv ++ [(pg, .inr (6, [.ref pc, .int (nI pn)])), (pc, .inl (g.2.1 0, 22, .inl pf))])) := hD
        refine lv_aload_n hx hb dX7_begin_61 rfl (lv_at hl 0 rfl) ?_
        refine lv_iconst (v := 0) hx hb dX7_begin_62 (by decide) ?_
        refine va_put (ci := 7) (v := .int 0) (ty := .int) (C := RX7) (T := TX7) (N := 6) hx hb hts hiX7 tyX7 tyX7_ok nmX7 hown hK hP hD hS (0) rfl rfl 5 (by decide) (hts (.fieldLink RX7 32 "KingdomAtDice$Standing" "seenMany" "I") (by decide +kernel)) (fun _ h9 => h9) rfl (by decide +kernel) rfl rfl (Nat.le_of_ble_eq_true rfl) dX7_begin_63 (fun H locs hP hD hS => ?_)
        have hP : va_P g.1 vwCl ([(so, .inr (7, [.ref sa, .ref sn, .int (nI q), .int 0, .int 0, .int 0])), (sa, .inl (g.2.1 3, 6, .inr (.inr (.inr (.inr (fun j => some (tq j)))))))] ++ (kd_th tq Rv ++ [(pg, .inr (6, [.ref pc, .int (nI pn)])), (pc, .inl (g.2.1 0, 22, .inl pf))])) H := hP
        have hD : va_D A ([(so, .inr (7, [.ref sa, .ref sn, .int (nI q), .int 0, .int 0, .int 0])), (sa, .inl (g.2.1 3, 6, .inr (.inr (.inr (.inr (fun j => some (tq j)))))))] ++ (kd_th tq Rv ++ [(pg, .inr (6, [.ref pc, .int (nI pn)])), (pc, .inl (g.2.1 0, 22, .inl pf))])) := hD
        exact kd_vret hx hb hr hlocks hK hS dX7_begin_66 ((q, 0, 0, 0, Rv)) (by rw [hR, show i = q by omega]) hP hD
      · have n_23 : i < q := kd_cne (a := q) (b := i) (by omega) (by omega) c_23
        refine lv_aload_n hx hb dX7_begin_26 rfl (lv_at hl 0 rfl) ?_
        refine va_get (ci := 7) (v := .ref sa) (C := RX7) (T := TX7) (N := 6) hx hb hts hiX7 hown hK hP (0) rfl rfl 0 (by decide) (hts (.fieldLink RX7 11 "KingdomAtDice$Standing" "things" "[LKingdomAtDice$Thing;") (by decide +kernel)) (fun _ h9 => h9) rfl dX7_begin_27 ?_
        refine lv_iload_n hx hb dX7_begin_30 rfl (lv_at hl 2 rfl) ?_
        refine kd_aldN hx hb hK hP 1 3 (k := i) rfl rfl (by omega) (by decide) dX7_begin_31 ?_
        refine lv_aload_n hx hb dX7_begin_32 rfl (lv_at hl 1 rfl) ?_
        refine lv_iload_n hx hb dX7_begin_33 rfl (lv_at hl 2 rfl) ?_
        refine kd_callIK (g := g) (wc := [(pg, .inr (6, [.ref pc, .int (nI pn)])), (pc, .inl (g.2.1 0, 22, .inl pf))]) (va_runVN (mc := 0) (ms := 0) (rm := { frames := 4, cells := 0, slots := 0, locals := 91 }) (C := RX6) (host := "KingdomAtDice") (As := [.int (nI i)]) (rest := [.ref (tq i)]) ⟨hx, hb, hml, hown, hts⟩ (c_X6_hallSort l g H.size pg pc pf pn (nI i) hpn) ⟨va_cnB 1 hts gX7_begin_X6_hallSort_n47 rfl rfl rfl (kd_N hE 13 rfl) (hts (.initialized RX6) (by decide +kernel)) (by decide +kernel) ⟨Nat.le_of_ble_eq_true rfl, Nat.le_of_ble_eq_true rfl⟩, (hts (.instanceMethod yX6_hallSort) (by decide +kernel)), (hts (.selects RX6 yX6_hallSort yX6_hallSort) (by decide +kernel))⟩ (kd_preV (wc := [(pg, .inr (6, [.ref pc, .int (nI pn)])), (pc, .inl (g.2.1 0, 22, .inl pf))]) (va_recv hK hP (ci := 6) (q0 := 8) rfl rfl) hP hD hS hA hK hE [8, 9] rfl (by decide)) rfl rfl hl.1 rfl (lv_room (Nat.le_of_ble_eq_true rfl)) dX7_begin_34 ⟨Nat.le_of_ble_eq_true rfl, Nat.le_of_ble_eq_true rfl⟩) hP hD hS hA [8, 9] rfl (fun r_34 _ H locs hw hP hS => ?_)
        subst hw
        refine lv_aload_n hx hb dX7_begin_37 rfl (lv_at hl 1 rfl) ?_
        refine lv_iload_n hx hb dX7_begin_38 rfl (lv_at hl 2 rfl) ?_
        refine kd_callIK (g := g) (wc := [(pg, .inr (6, [.ref pc, .int (nI pn)])), (pc, .inl (g.2.1 0, 22, .inl pf))]) (va_runVN (mc := 0) (ms := 0) (rm := { frames := 2, cells := 0, slots := 0, locals := 42 }) (C := RX6) (host := "KingdomAtDice") (As := [.int (nI i)]) (rest := [.int (sp_X6_hallSort pf pn (nI i)), .ref (tq i)]) ⟨hx, hb, hml, hown, hts⟩ (c_X6_hallWorth l g H.size pg pc pf pn (nI i) hpn) ⟨va_cnB 1 hts gX7_begin_X6_hallWorth_n51 rfl rfl rfl (kd_N hE 14 rfl) (hts (.initialized RX6) (by decide +kernel)) (by decide +kernel) ⟨Nat.le_of_ble_eq_true rfl, Nat.le_of_ble_eq_true rfl⟩, (hts (.instanceMethod yX6_hallWorth) (by decide +kernel)), (hts (.selects RX6 yX6_hallWorth yX6_hallWorth) (by decide +kernel))⟩ (kd_preV (wc := [(pg, .inr (6, [.ref pc, .int (nI pn)])), (pc, .inl (g.2.1 0, 22, .inl pf))]) (va_recv hK hP (ci := 6) (q0 := 8) rfl rfl) hP hD hS hA hK hE [8, 9] rfl (by decide)) rfl rfl hl.1 rfl (lv_room (Nat.le_of_ble_eq_true rfl)) dX7_begin_39 ⟨Nat.le_of_ble_eq_true rfl, Nat.le_of_ble_eq_true rfl⟩) hP hD hS hA [8, 9] rfl (fun r_39 _ H locs hw hP hS => ?_)
        subst hw
        refine kd_callVJ (Wf := fun (u : (Nat → Nat → Int32)) => (kd_th tq u)) (g := g) (wc := (kd_th tq Rv)) (wr := [(so, .inr (7, [.ref sa, .ref sn, .int (nI q), .int go, .int (nI th), .int (nI sm)])), (sa, .inl (g.2.1 3, 6, .inr (.inr (.inr (.inr (fun j => some (tq j))))))), (pg, .inr (6, [.ref pc, .int (nI pn)])), (pc, .inl (g.2.1 0, 22, .inl pf))]) (va_runVN (mc := 0) (ms := 0) (rm := { frames := 0, cells := 0, slots := 0, locals := 0 }) (C := RX8) (host := "KingdomAtDice") (As := [.int (sp_X6_hallSort pf pn (nI i)), .int (sp_X6_hallWorth pf pn (nI i))]) (rest := []) ⟨hx, hb, hml, hown, hts⟩ (c_X8_begin l g H.size tq Rv i (sp_X6_hallSort pf pn (nI i)) (sp_X6_hallWorth pf pn (nI i)) (by omega)) ⟨va_cnB 2 hts gX7_begin_X8_begin_n54 rfl rfl rfl (kd_N hE 15 rfl) (hts (.initialized RX8) (by decide +kernel)) (by decide +kernel) ⟨Nat.le_of_ble_eq_true rfl, Nat.le_of_ble_eq_true rfl⟩, (hts (.instanceMethod yX8_begin) (by decide +kernel)), (hts (.selects RX8 yX8_begin yX8_begin) (by decide +kernel))⟩ (kd_preV (wc := (kd_th tq Rv)) (va_recv hK hP (ci := 8) (q0 := i + 2) rfl (kd_th_at (by omega))) hP hD hS hA hK hE [2, 3, 4, 5, 6, 7] rfl (by decide)) rfl rfl hl.1 rfl (lv_room (Nat.le_of_ble_eq_true rfl)) dX7_begin_42 ⟨Nat.le_of_ble_eq_true rfl, Nat.le_of_ble_eq_true rfl⟩) hP hD hS hA [2, 3, 4, 5, 6, 7] [0, 1, 8, 9] rfl rfl (by decide) (by decide) (fun u_42 H locs hw_42 hP hD hS => ?_)
        obtain ⟨R_42, rfl⟩ : ∃ z, z = u_42 := ⟨_, rfl⟩
        have hP : va_P g.1 vwCl ([(so, .inr (7, [.ref sa, .ref sn, .int (nI q), .int go, .int (nI th), .int (nI sm)])), (sa, .inl (g.2.1 3, 6, .inr (.inr (.inr (.inr (fun j => some (tq j))))))), (pg, .inr (6, [.ref pc, .int (nI pn)])), (pc, .inl (g.2.1 0, 22, .inl pf))] ++ (kd_th tq R_42)) H := hP
        have hD : va_D A ([(so, .inr (7, [.ref sa, .ref sn, .int (nI q), .int go, .int (nI th), .int (nI sm)])), (sa, .inl (g.2.1 3, 6, .inr (.inr (.inr (.inr (fun j => some (tq j))))))), (pg, .inr (6, [.ref pc, .int (nI pn)])), (pc, .inl (g.2.1 0, 22, .inl pf))] ++ (kd_th tq R_42)) := hD
        refine lv_iinc (v := nI (i + 1)) (lv' := [(2, .int (nI (i + 1))), (0, .ref so), (1, .ref pg)]) hx hb dX7_begin_45 hl (k := 2) rfl (nI_1 _) (by decide) rfl (fun ls hl => ?_)
        refine lv_goto (tgt := 18) hx hb dX7_begin_48 (by decide) ?_
        exact ih_18 (i + 1) R_42 (by omega) (by rw [hw_42, hR]; rfl) (by omega) _ _ (hP.sub (ws' := ([(so, .inr (7, [.ref sa, .ref sn, .int (nI q), .int go, .int (nI th), .int (nI sm)])), (sa, .inl (g.2.1 3, 6, .inr (.inr (.inr (.inr (fun j => some (tq j)))))))] ++ (kd_th tq R_42 ++ [(pg, .inr (6, [.ref pc, .int (nI pn)])), (pc, .inl (g.2.1 0, 22, .inl pf))]))) [0, 1, 4, 5, 6, 7, 8, 9, 2, 3] rfl) (hD.sub (ws' := ([(so, .inr (7, [.ref sa, .ref sn, .int (nI q), .int go, .int (nI th), .int (nI sm)])), (sa, .inl (g.2.1 3, 6, .inr (.inr (.inr (.inr (fun j => some (tq j)))))))] ++ (kd_th tq R_42 ++ [(pg, .inr (6, [.ref pc, .int (nI pn)])), (pc, .inl (g.2.1 0, 22, .inl pf))]))) [0, 1, 4, 5, 6, 7, 8, 9, 2, 3] (by decide) rfl) hS ls (lv_sub hl [1, 2, 0] rfl)
  exact loop_18 ((q - 0) + 1) 0 R (by omega) rfl (Nat.lt_succ_self _) _ _ hP hD hS ls (lv_sub hl [1, 2, 0] rfl)
/-- what KingdomAtDice$Thing.copy answers and leaves, by its instructions -/
def sp_X8_copy (R : Nat → Nat → Int32) (R2 : Nat → Nat → Int32) (t : Nat) : (Nat → Nat → Int32) :=
  kd_up (kd_up (kd_up (kd_up (kd_up (kd_up R t 0 (R2 t 0)) t 1 (R2 t 1)) t 2 (R2 t 2)) t 3 (R2 t 3)) t 4 (R2 t 4)) t 5 (R2 t 5)
set_option maxHeartbeats 4000000 in
set_option maxRecDepth 100000 in
theorem c_X8_copy (l : Launch) (g : kd_G) (sz : Nat) (tq : Nat → Nat) (R : Nat → Nat → Int32) (tq2 : Nat → Nat) (R2 : Nat → Nat → Int32) (t : Nat) (ht : t < 6) (hz : R2 t 2 = 0 ∨ R2 t 2 = 1) : kd_MV l yX8_copy wsX8_copy ({ frames := 0, cells := 0, slots := 0, locals := 0 }) [.ref (tq t), .ref (tq2 t)] g (kd_th tq R ++ (kd_th tq2 R2)) sz (fun (u : (Nat → Nat → Int32)) => u = sp_X8_copy R R2 t) (fun u => (kd_th tq u ++ (kd_th tq2 R2))) 0 0 := by
  refine kd_met (l := l) (y := yX8_copy) (ws := wsX8_copy) (rm := { frames := 0, cells := 0, slots := 0, locals := 0 }) (av := [.ref (tq t), .ref (tq2 t)]) (g := g) (WS := (kd_th tq R ++ (kd_th tq2 R2))) (sz := sz) (mc := 0) (ms := 0) (cc := cX8_copy) (maxL := 2) (ret := none) (own := RX8) (fun A => va_Qv (fun (u : (Nat → Nat → Int32)) => u = sp_X8_copy R R2 t) (fun u t => kd_post g A (kd_th tq u ++ (kd_th tq2 R2)) t) A) (by decide) rfl rfl (Nat.le_of_ble_eq_true rfl) ?_
  intro p e s m below meth c A ls hx hb hr hml hts hown hlocks hnm hA hP hK hD hS hE hl
  have hl : lv_has ls 2 [(0, .ref (tq t)), (1, .ref (tq2 t))] := hl
  have hiX8 : ∀ w ∈ u_ws RX8 TX8 6, w ∈ wsX8_copy := by decide +kernel
  refine lv_aload_n hx hb dX8_copy_0 rfl (lv_at hl 0 rfl) ?_
  refine lv_aload_n hx hb dX8_copy_1 rfl (lv_at hl 1 rfl) ?_
  refine va_get (ci := 8) (v := .int (R2 t 0)) (C := RX8) (T := TX8) (N := 6) hx hb hts hiX8 hown hK hP (t + 6) (kd_th_at0 ht) rfl 0 (by decide) (hts (.fieldLink RX8 9 "KingdomAtDice$Thing" "sort" "I") (by decide +kernel)) (fun _ h9 => h9) rfl dX8_copy_2 ?_
  refine va_put (ci := 8) (v := .int (R2 t 0)) (ty := .int) (C := RX8) (T := TX8) (N := 6) hx hb hts hiX8 tyX8 tyX8_ok nmX8 hown hK hP hD hS (t) (kd_th_at ht) rfl 0 (by decide) (hts (.fieldLink RX8 9 "KingdomAtDice$Thing" "sort" "I") (by decide +kernel)) (fun _ h9 => h9) rfl (by decide +kernel) rfl rfl (Nat.le_of_ble_eq_true rfl) dX8_copy_5 (fun H locs hP hD hS => ?_)
  have hP : va_P g.1 vwCl (kd_th tq (kd_up R t 0 (R2 t 0)) ++ (kd_th tq2 R2)) H := (congrArg (fun w => va_P g.1 vwCl w H) (kd_th_set ht (by decide))).mp hP
  have hD : va_D A (kd_th tq (kd_up R t 0 (R2 t 0)) ++ (kd_th tq2 R2)) := (congrArg (fun w => va_D A w) (kd_th_set ht (by decide))).mp hD
  refine lv_aload_n hx hb dX8_copy_8 rfl (lv_at hl 0 rfl) ?_
  refine lv_aload_n hx hb dX8_copy_9 rfl (lv_at hl 1 rfl) ?_
  refine va_get (ci := 8) (v := .int (R2 t 1)) (C := RX8) (T := TX8) (N := 6) hx hb hts hiX8 hown hK hP (t + 6) (kd_th_at0 ht) rfl 1 (by decide) (hts (.fieldLink RX8 15 "KingdomAtDice$Thing" "worth" "I") (by decide +kernel)) (fun _ h9 => h9) rfl dX8_copy_10 ?_
  refine va_put (ci := 8) (v := .int (R2 t 1)) (ty := .int) (C := RX8) (T := TX8) (N := 6) hx hb hts hiX8 tyX8 tyX8_ok nmX8 hown hK hP hD hS (t) (kd_th_at ht) rfl 1 (by decide) (hts (.fieldLink RX8 15 "KingdomAtDice$Thing" "worth" "I") (by decide +kernel)) (fun _ h9 => h9) rfl (by decide +kernel) rfl rfl (Nat.le_of_ble_eq_true rfl) dX8_copy_13 (fun H locs hP hD hS => ?_)
  have hP : va_P g.1 vwCl (kd_th tq (kd_up (kd_up R t 0 (R2 t 0)) t 1 (R2 t 1)) ++ (kd_th tq2 R2)) H := (congrArg (fun w => va_P g.1 vwCl w H) (kd_th_set ht (by decide))).mp hP
  have hD : va_D A (kd_th tq (kd_up (kd_up R t 0 (R2 t 0)) t 1 (R2 t 1)) ++ (kd_th tq2 R2)) := (congrArg (fun w => va_D A w) (kd_th_set ht (by decide))).mp hD
  refine lv_aload_n hx hb dX8_copy_16 rfl (lv_at hl 0 rfl) ?_
  refine lv_aload_n hx hb dX8_copy_17 rfl (lv_at hl 1 rfl) ?_
  refine va_get (ci := 8) (v := .int (R2 t 2)) (C := RX8) (T := TX8) (N := 6) hx hb hts hiX8 hown hK hP (t + 6) (kd_th_at0 ht) rfl 2 (by decide) (hts (.fieldLink RX8 18 "KingdomAtDice$Thing" "isKings" "Z") (by decide +kernel)) (fun _ h9 => h9) rfl dX8_copy_18 ?_
  refine va_put (ci := 8) (v := .int (R2 t 2)) (ty := .boolean) (C := RX8) (T := TX8) (N := 6) hx hb hts hiX8 tyX8 tyX8_ok nmX8 hown hK hP hD hS (t) (kd_th_at ht) rfl 2 (by decide) (hts (.fieldLink RX8 18 "KingdomAtDice$Thing" "isKings" "Z") (by decide +kernel)) (fun _ h9 => h9) rfl (by decide +kernel) (kd_zn hz) (kd_zf hz) (Nat.le_of_ble_eq_true rfl) dX8_copy_21 (fun H locs hP hD hS => ?_)
  have hP : va_P g.1 vwCl (kd_th tq (kd_up (kd_up (kd_up R t 0 (R2 t 0)) t 1 (R2 t 1)) t 2 (R2 t 2)) ++ (kd_th tq2 R2)) H := (congrArg (fun w => va_P g.1 vwCl w H) (kd_th_set ht (by decide))).mp hP
  have hD : va_D A (kd_th tq (kd_up (kd_up (kd_up R t 0 (R2 t 0)) t 1 (R2 t 1)) t 2 (R2 t 2)) ++ (kd_th tq2 R2)) := (congrArg (fun w => va_D A w) (kd_th_set ht (by decide))).mp hD
  refine lv_aload_n hx hb dX8_copy_24 rfl (lv_at hl 0 rfl) ?_
  refine lv_aload_n hx hb dX8_copy_25 rfl (lv_at hl 1 rfl) ?_
  refine va_get (ci := 8) (v := .int (R2 t 3)) (C := RX8) (T := TX8) (N := 6) hx hb hts hiX8 hown hK hP (t + 6) (kd_th_at0 ht) rfl 3 (by decide) (hts (.fieldLink RX8 22 "KingdomAtDice$Thing" "lostBy" "I") (by decide +kernel)) (fun _ h9 => h9) rfl dX8_copy_26 ?_
  refine va_put (ci := 8) (v := .int (R2 t 3)) (ty := .int) (C := RX8) (T := TX8) (N := 6) hx hb hts hiX8 tyX8 tyX8_ok nmX8 hown hK hP hD hS (t) (kd_th_at ht) rfl 3 (by decide) (hts (.fieldLink RX8 22 "KingdomAtDice$Thing" "lostBy" "I") (by decide +kernel)) (fun _ h9 => h9) rfl (by decide +kernel) rfl rfl (Nat.le_of_ble_eq_true rfl) dX8_copy_29 (fun H locs hP hD hS => ?_)
  have hP : va_P g.1 vwCl (kd_th tq (kd_up (kd_up (kd_up (kd_up R t 0 (R2 t 0)) t 1 (R2 t 1)) t 2 (R2 t 2)) t 3 (R2 t 3)) ++ (kd_th tq2 R2)) H := (congrArg (fun w => va_P g.1 vwCl w H) (kd_th_set ht (by decide))).mp hP
  have hD : va_D A (kd_th tq (kd_up (kd_up (kd_up (kd_up R t 0 (R2 t 0)) t 1 (R2 t 1)) t 2 (R2 t 2)) t 3 (R2 t 3)) ++ (kd_th tq2 R2)) := (congrArg (fun w => va_D A w) (kd_th_set ht (by decide))).mp hD
  refine lv_aload_n hx hb dX8_copy_32 rfl (lv_at hl 0 rfl) ?_
  refine lv_aload_n hx hb dX8_copy_33 rfl (lv_at hl 1 rfl) ?_
  refine va_get (ci := 8) (v := .int (R2 t 4)) (C := RX8) (T := TX8) (N := 6) hx hb hts hiX8 hown hK hP (t + 6) (kd_th_at0 ht) rfl 4 (by decide) (hts (.fieldLink RX8 25 "KingdomAtDice$Thing" "rightly" "I") (by decide +kernel)) (fun _ h9 => h9) rfl dX8_copy_34 ?_
  refine va_put (ci := 8) (v := .int (R2 t 4)) (ty := .int) (C := RX8) (T := TX8) (N := 6) hx hb hts hiX8 tyX8 tyX8_ok nmX8 hown hK hP hD hS (t) (kd_th_at ht) rfl 4 (by decide) (hts (.fieldLink RX8 25 "KingdomAtDice$Thing" "rightly" "I") (by decide +kernel)) (fun _ h9 => h9) rfl (by decide +kernel) rfl rfl (Nat.le_of_ble_eq_true rfl) dX8_copy_37 (fun H locs hP hD hS => ?_)
  have hP : va_P g.1 vwCl (kd_th tq (kd_up (kd_up (kd_up (kd_up (kd_up R t 0 (R2 t 0)) t 1 (R2 t 1)) t 2 (R2 t 2)) t 3 (R2 t 3)) t 4 (R2 t 4)) ++ (kd_th tq2 R2)) H := (congrArg (fun w => va_P g.1 vwCl w H) (kd_th_set ht (by decide))).mp hP
  have hD : va_D A (kd_th tq (kd_up (kd_up (kd_up (kd_up (kd_up R t 0 (R2 t 0)) t 1 (R2 t 1)) t 2 (R2 t 2)) t 3 (R2 t 3)) t 4 (R2 t 4)) ++ (kd_th tq2 R2)) := (congrArg (fun w => va_D A w) (kd_th_set ht (by decide))).mp hD
  refine lv_aload_n hx hb dX8_copy_40 rfl (lv_at hl 0 rfl) ?_
  refine lv_aload_n hx hb dX8_copy_41 rfl (lv_at hl 1 rfl) ?_
  refine va_get (ci := 8) (v := .int (R2 t 5)) (C := RX8) (T := TX8) (N := 6) hx hb hts hiX8 hown hK hP (t + 6) (kd_th_at0 ht) rfl 5 (by decide) (hts (.fieldLink RX8 28 "KingdomAtDice$Thing" "overs" "I") (by decide +kernel)) (fun _ h9 => h9) rfl dX8_copy_42 ?_
  refine va_put (ci := 8) (v := .int (R2 t 5)) (ty := .int) (C := RX8) (T := TX8) (N := 6) hx hb hts hiX8 tyX8 tyX8_ok nmX8 hown hK hP hD hS (t) (kd_th_at ht) rfl 5 (by decide) (hts (.fieldLink RX8 28 "KingdomAtDice$Thing" "overs" "I") (by decide +kernel)) (fun _ h9 => h9) rfl (by decide +kernel) rfl rfl (Nat.le_of_ble_eq_true rfl) dX8_copy_45 (fun H locs hP hD hS => ?_)
  have hP : va_P g.1 vwCl (kd_th tq (kd_up (kd_up (kd_up (kd_up (kd_up (kd_up R t 0 (R2 t 0)) t 1 (R2 t 1)) t 2 (R2 t 2)) t 3 (R2 t 3)) t 4 (R2 t 4)) t 5 (R2 t 5)) ++ (kd_th tq2 R2)) H := (congrArg (fun w => va_P g.1 vwCl w H) (kd_th_set ht (by decide))).mp hP
  have hD : va_D A (kd_th tq (kd_up (kd_up (kd_up (kd_up (kd_up (kd_up R t 0 (R2 t 0)) t 1 (R2 t 1)) t 2 (R2 t 2)) t 3 (R2 t 3)) t 4 (R2 t 4)) t 5 (R2 t 5)) ++ (kd_th tq2 R2)) := (congrArg (fun w => va_D A w) (kd_th_set ht (by decide))).mp hD
  exact kd_vret hx hb hr hlocks hK hS dX8_copy_48 (kd_up (kd_up (kd_up (kd_up (kd_up (kd_up R t 0 (R2 t 0)) t 1 (R2 t 1)) t 2 (R2 t 2)) t 3 (R2 t 3)) t 4 (R2 t 4)) t 5 (R2 t 5)) (rfl) hP hD
def kd_cp (R R2 : Nat → Nat → Int32) : Nat → Nat → Nat → Int32
  | 0 => R
  | i + 1 => sp_X8_copy (kd_cp R R2 i) R2 i
def kd_cs (sf sf2 : Nat → Int32) : Nat → Nat → Int32
  | 0 => sf
  | i + 1 => upd (kd_cs sf sf2 i) i (sf2 i)
set_option maxHeartbeats 4000000 in
set_option maxRecDepth 100000 in
theorem c_X7_copy (l : Launch) (g : kd_G) (sz : Nat) (so : Nat) (sa : Nat) (sn : Nat) (T : Nat) (go : Int32) (th : Nat) (sm : Nat) (tq : Nat → Nat) (sf : Nat → Int32) (R : Nat → Nat → Int32) (so2 : Nat) (sa2 : Nat) (sn2 : Nat) (T2 : Nat) (go2 : Int32) (th2 : Nat) (sm2 : Nat) (tq2 : Nat → Nat) (sf2 : Nat → Int32) (R2 : Nat → Nat → Int32) (hT : T ≤ 6) (hT2 : T2 ≤ 6) (hz2 : ∀ t, t < 6 → R2 t 2 = 0 ∨ R2 t 2 = 1) : kd_MV l yX7_copy wsX7_copy ({ frames := 1, cells := 0, slots := 0, locals := 21 }) [.ref so, .ref so2] g ([(so, .inr (7, [.ref sa, .ref sn, .int (nI T), .int go, .int (nI th), .int (nI sm)])), (sa, .inl (g.2.1 3, 6, .inr (.inr (.inr (.inr (fun j => some (tq j))))))), (sn, .inl (g.2.1 0, 8, .inl sf))] ++ (kd_th tq R ++ ([(so2, .inr (7, [.ref sa2, .ref sn2, .int (nI T2), .int go2, .int (nI th2), .int (nI sm2)])), (sa2, .inl (g.2.1 3, 6, .inr (.inr (.inr (.inr (fun j => some (tq2 j))))))), (sn2, .inl (g.2.1 0, 8, .inl sf2))] ++ (kd_th tq2 R2)))) sz (fun (u : Nat × Int32 × Nat × Nat × (Nat → Int32) × (Nat → Nat → Int32)) => u = (T2, go2, th2, sm2, kd_cs sf sf2 8, kd_cp R R2 6)) (fun u => ([(so, .inr (7, [.ref sa, .ref sn, .int (nI u.1), .int u.2.1, .int (nI u.2.2.1), .int (nI u.2.2.2.1)])), (sa, .inl (g.2.1 3, 6, .inr (.inr (.inr (.inr (fun j => some (tq j))))))), (sn, .inl (g.2.1 0, 8, .inl u.2.2.2.2.1))] ++ (kd_th tq u.2.2.2.2.2 ++ ([(so2, .inr (7, [.ref sa2, .ref sn2, .int (nI T2), .int go2, .int (nI th2), .int (nI sm2)])), (sa2, .inl (g.2.1 3, 6, .inr (.inr (.inr (.inr (fun j => some (tq2 j))))))), (sn2, .inl (g.2.1 0, 8, .inl sf2))] ++ (kd_th tq2 R2))))) 0 0 := by
  refine kd_met (l := l) (y := yX7_copy) (ws := wsX7_copy) (rm := { frames := 1, cells := 0, slots := 0, locals := 21 }) (av := [.ref so, .ref so2]) (g := g) (WS := ([(so, .inr (7, [.ref sa, .ref sn, .int (nI T), .int go, .int (nI th), .int (nI sm)])), (sa, .inl (g.2.1 3, 6, .inr (.inr (.inr (.inr (fun j => some (tq j))))))), (sn, .inl (g.2.1 0, 8, .inl sf))] ++ (kd_th tq R ++ ([(so2, .inr (7, [.ref sa2, .ref sn2, .int (nI T2), .int go2, .int (nI th2), .int (nI sm2)])), (sa2, .inl (g.2.1 3, 6, .inr (.inr (.inr (.inr (fun j => some (tq2 j))))))), (sn2, .inl (g.2.1 0, 8, .inl sf2))] ++ (kd_th tq2 R2))))) (sz := sz) (mc := 0) (ms := 0) (cc := cX7_copy) (maxL := 3) (ret := none) (own := RX7) (fun A => va_Qv (fun (u : Nat × Int32 × Nat × Nat × (Nat → Int32) × (Nat → Nat → Int32)) => u = (T2, go2, th2, sm2, kd_cs sf sf2 8, kd_cp R R2 6)) (fun u t => kd_post g A ([(so, .inr (7, [.ref sa, .ref sn, .int (nI u.1), .int u.2.1, .int (nI u.2.2.1), .int (nI u.2.2.2.1)])), (sa, .inl (g.2.1 3, 6, .inr (.inr (.inr (.inr (fun j => some (tq j))))))), (sn, .inl (g.2.1 0, 8, .inl u.2.2.2.2.1))] ++ (kd_th tq u.2.2.2.2.2 ++ ([(so2, .inr (7, [.ref sa2, .ref sn2, .int (nI T2), .int go2, .int (nI th2), .int (nI sm2)])), (sa2, .inl (g.2.1 3, 6, .inr (.inr (.inr (.inr (fun j => some (tq2 j))))))), (sn2, .inl (g.2.1 0, 8, .inl sf2))] ++ (kd_th tq2 R2)))) t) A) (by decide) rfl rfl (Nat.le_of_ble_eq_true rfl) ?_
  intro p e s m below meth c A ls hx hb hr hml hts hown hlocks hnm hA hP hK hD hS hE hl
  have hl : lv_has ls 3 [(0, .ref so), (1, .ref so2)] := hl
  have hiX7 : ∀ w ∈ u_ws RX7 TX7 6, w ∈ wsX7_copy := by decide +kernel
  refine lv_iconst (v := 0) hx hb dX7_copy_0 (by decide) ?_
  refine lv_istore_n (lv' := [(2, .int 0), (0, .ref so), (1, .ref so2)]) hx hb dX7_copy_1 rfl hl (by decide) rfl (fun ls hl => ?_)
  have loop_2 : ∀ (n_2 : Nat) (i : Nat) (Rv : Nat → Nat → Int32), (i ≤ 6) → (Rv = kd_cp R R2 i) → (6 - i) < n_2 → ∀ (H : Heap) (locs : List Loc), va_P g.1 vwCl ([(so, .inr (7, [.ref sa, .ref sn, .int (nI T), .int go, .int (nI th), .int (nI sm)])), (sa, .inl (g.2.1 3, 6, .inr (.inr (.inr (.inr (fun j => some (tq j))))))), (sn, .inl (g.2.1 0, 8, .inl sf))] ++ (kd_th tq Rv ++ ([(so2, .inr (7, [.ref sa2, .ref sn2, .int (nI T2), .int go2, .int (nI th2), .int (nI sm2)])), (sa2, .inl (g.2.1 3, 6, .inr (.inr (.inr (.inr (fun j => some (tq2 j))))))), (sn2, .inl (g.2.1 0, 8, .inl sf2))] ++ (kd_th tq2 R2)))) H → va_D A ([(so, .inr (7, [.ref sa, .ref sn, .int (nI T), .int go, .int (nI th), .int (nI sm)])), (sa, .inl (g.2.1 3, 6, .inr (.inr (.inr (.inr (fun j => some (tq j))))))), (sn, .inl (g.2.1 0, 8, .inl sf))] ++ (kd_th tq Rv ++ ([(so2, .inr (7, [.ref sa2, .ref sn2, .int (nI T2), .int go2, .int (nI th2), .int (nI sm2)])), (sa2, .inl (g.2.1 3, 6, .inr (.inr (.inr (.inr (fun j => some (tq2 j))))))), (sn2, .inl (g.2.1 0, 8, .inl sf2))] ++ (kd_th tq2 R2)))) → va_S A s.heap H locs → ∀ (ls : Array Slot), lv_has ls 3 [(0, .ref so), (1, .ref so2), (2, .int (nI i))] → W p l e ({ frames := 1, cells := 0, slots := 0, locals := 21 } : Room) s m ([.ref so, .ref so2] : List Value).toArray below meth c H locs 0 0 (MQ below (va_Qv (fun (u : Nat × Int32 × Nat × Nat × (Nat → Int32) × (Nat → Nat → Int32)) => u = (T2, go2, th2, sm2, kd_cs sf sf2 8, kd_cp R R2 6)) (fun u t => kd_post g A ([(so, .inr (7, [.ref sa, .ref sn, .int (nI u.1), .int u.2.1, .int (nI u.2.2.1), .int (nI u.2.2.2.1)])), (sa, .inl (g.2.1 3, 6, .inr (.inr (.inr (.inr (fun j => some (tq j))))))), (sn, .inl (g.2.1 0, 8, .inl u.2.2.2.2.1))] ++ (kd_th tq u.2.2.2.2.2 ++ ([(so2, .inr (7, [.ref sa2, .ref sn2, .int (nI T2), .int go2, .int (nI th2), .int (nI sm2)])), (sa2, .inl (g.2.1 3, 6, .inr (.inr (.inr (.inr (fun j => some (tq2 j))))))), (sn2, .inl (g.2.1 0, 8, .inl sf2))] ++ (kd_th tq2 R2)))) t) A) ([.ref so, .ref so2] : List Value).toArray s 0 0 A) (F0 m 2 ls []) := by
    intro n_2
    induction n_2 with
    | zero => intro i Rv _ _ hm_2; exact absurd hm_2 (Nat.not_lt_zero _)
    | succ n_2 ih_2 =>
      intro i Rv hi hR hm_2 H locs hP hD hS ls hl
      refine lv_iload_n hx hb dX7_copy_2 rfl (lv_at hl 2 rfl) ?_
      refine lv_aload_n hx hb dX7_copy_3 rfl (lv_at hl 0 rfl) ?_
      refine va_get (ci := 7) (v := .ref sa) (C := RX7) (T := TX7) (N := 6) hx hb hts hiX7 hown hK hP (0) rfl rfl 0 (by decide) (hts (.fieldLink RX7 11 "KingdomAtDice$Standing" "things" "[LKingdomAtDice$Thing;") (by decide +kernel)) (fun _ h9 => h9) rfl dX7_copy_4 ?_
      refine va_alen hx hb hK hP 1 3 rfl rfl (v := 6) rfl dX7_copy_7 ?_
      refine lv_icmp_ge (tgt := 32) hx hb dX7_copy_8 (by decide) (fun c_8 => ?_) (fun c_8 => ?_)
      · have n_8 : 6 ≤ i := kd_ce (a := 6) (b := i) (by omega) (by omega) c_8
        refine lv_iconst (v := 0) hx hb dX7_copy_32 (by decide) ?_
        refine lv_istore_n (lv' := [(2, .int 0), (0, .ref so), (1, .ref so2)]) hx hb dX7_copy_33 rfl hl (by decide) rfl (fun ls hl => ?_)
        have loop_34 : ∀ (n_34 : Nat) (j : Nat) (fv : Nat → Int32), (j ≤ 8) → (fv = kd_cs sf sf2 j) → (8 - j) < n_34 → ∀ (H : Heap) (locs : List Loc), va_P g.1 vwCl ([(so, .inr (7, [.ref sa, .ref sn, .int (nI T), .int go, .int (nI th), .int (nI sm)])), (sa, .inl (g.2.1 3, 6, .inr (.inr (.inr (.inr (fun j => some (tq j))))))), (sn, .inl (g.2.1 0, 8, .inl fv))] ++ (kd_th tq Rv ++ ([(so2, .inr (7, [.ref sa2, .ref sn2, .int (nI T2), .int go2, .int (nI th2), .int (nI sm2)])), (sa2, .inl (g.2.1 3, 6, .inr (.inr (.inr (.inr (fun j => some (tq2 j))))))), (sn2, .inl (g.2.1 0, 8, .inl sf2))] ++ (kd_th tq2 R2)))) H → va_D A ([(so, .inr (7, [.ref sa, .ref sn, .int (nI T), .int go, .int (nI th), .int (nI sm)])), (sa, .inl (g.2.1 3, 6, .inr (.inr (.inr (.inr (fun j => some (tq j))))))), (sn, .inl (g.2.1 0, 8, .inl fv))] ++ (kd_th tq Rv ++ ([(so2, .inr (7, [.ref sa2, .ref sn2, .int (nI T2), .int go2, .int (nI th2), .int (nI sm2)])), (sa2, .inl (g.2.1 3, 6, .inr (.inr (.inr (.inr (fun j => some (tq2 j))))))), (sn2, .inl (g.2.1 0, 8, .inl sf2))] ++ (kd_th tq2 R2)))) → va_S A s.heap H locs → ∀ (ls : Array Slot), lv_has ls 3 [(0, .ref so), (1, .ref so2), (2, .int (nI j))] → W p l e ({ frames := 1, cells := 0, slots := 0, locals := 21 } : Room) s m ([.ref so, .ref so2] : List Value).toArray below meth c H locs 0 0 (MQ below (va_Qv (fun (u : Nat × Int32 × Nat × Nat × (Nat → Int32) × (Nat → Nat → Int32)) => u = (T2, go2, th2, sm2, kd_cs sf sf2 8, kd_cp R R2 6)) (fun u t => kd_post g A ([(so, .inr (7, [.ref sa, .ref sn, .int (nI u.1), .int u.2.1, .int (nI u.2.2.1), .int (nI u.2.2.2.1)])), (sa, .inl (g.2.1 3, 6, .inr (.inr (.inr (.inr (fun j => some (tq j))))))), (sn, .inl (g.2.1 0, 8, .inl u.2.2.2.2.1))] ++ (kd_th tq u.2.2.2.2.2 ++ ([(so2, .inr (7, [.ref sa2, .ref sn2, .int (nI T2), .int go2, .int (nI th2), .int (nI sm2)])), (sa2, .inl (g.2.1 3, 6, .inr (.inr (.inr (.inr (fun j => some (tq2 j))))))), (sn2, .inl (g.2.1 0, 8, .inl sf2))] ++ (kd_th tq2 R2)))) t) A) ([.ref so, .ref so2] : List Value).toArray s 0 0 A) (F0 m 34 ls []) := by
          intro n_34
          induction n_34 with
          | zero => intro j fv _ _ hm_34; exact absurd hm_34 (Nat.not_lt_zero _)
          | succ n_34 ih_34 =>
            intro j fv hj hf hm_34 H locs hP hD hS ls hl
            refine lv_iload_n hx hb dX7_copy_34 rfl (lv_at hl 2 rfl) ?_
            refine lv_aload_n hx hb dX7_copy_35 rfl (lv_at hl 0 rfl) ?_
            refine va_get (ci := 7) (v := .ref sn) (C := RX7) (T := TX7) (N := 6) hx hb hts hiX7 hown hK hP (0) rfl rfl 1 (by decide) (hts (.fieldLink RX7 18 "KingdomAtDice$Standing" "seen" "[I") (by decide +kernel)) (fun _ h9 => h9) rfl dX7_copy_36 ?_
            refine va_alen hx hb hK hP 2 0 rfl rfl (v := 8) rfl dX7_copy_39 ?_
            refine lv_icmp_ge (tgt := 61) hx hb dX7_copy_40 (by decide) (fun c_40 => ?_) (fun c_40 => ?_)
            · have n_40 : 8 ≤ j := kd_ce (a := 8) (b := j) (by omega) (by omega) c_40
              refine lv_aload_n hx hb dX7_copy_61 rfl (lv_at hl 0 rfl) ?_
              refine lv_aload_n hx hb dX7_copy_62 rfl (lv_at hl 1 rfl) ?_
              refine va_get (ci := 7) (v := .int (nI T2)) (C := RX7) (T := TX7) (N := 6) hx hb hts hiX7 hown hK hP (9) rfl rfl 2 (by decide) (hts (.fieldLink RX7 22 "KingdomAtDice$Standing" "thingMany" "I") (by decide +kernel)) (fun _ h9 => h9) rfl dX7_copy_63 ?_
              refine va_put (ci := 7) (v := .int (nI T2)) (ty := .int) (C := RX7) (T := TX7) (N := 6) hx hb hts hiX7 tyX7 tyX7_ok nmX7 hown hK hP hD hS (0) rfl rfl 2 (by decide) (hts (.fieldLink RX7 22 "KingdomAtDice$Standing" "thingMany" "I") (by decide +kernel)) (fun _ h9 => h9) rfl (by decide +kernel) rfl rfl (Nat.le_of_ble_eq_true rfl) dX7_copy_66 (fun H locs hP hD hS => ?_)
              have hP : va_P g.1 vwCl ([(so, .inr (7, [.ref sa, .ref sn, .int (nI T2), .int go, .int (nI th), .int (nI sm)])), (sa, .inl (g.2.1 3, 6, .inr (.inr (.inr (.inr (fun j => some (tq j))))))), (sn, .inl (g.2.1 0, 8, .inl fv))] ++ (kd_th tq Rv ++ ([(so2, .inr (7, [.ref sa2, .ref sn2, .int (nI T2), .int go2, .int (nI th2), .int (nI sm2)])), (sa2, .inl (g.2.1 3, 6, .inr (.inr (.inr (.inr (fun j => some (tq2 j))))))), (sn2, .inl (g.2.1 0, 8, .inl sf2))] ++ (kd_th tq2 R2)))) H := hP
              have hD : va_D A ([(so, .inr (7, [.ref sa, .ref sn, .int (nI T2), .int go, .int (nI th), .int (nI sm)])), (sa, .inl (g.2.1 3, 6, .inr (.inr (.inr (.inr (fun j => some (tq j))))))), (sn, .inl (g.2.1 0, 8, .inl fv))] ++ (kd_th tq Rv ++ ([(so2, .inr (7, [.ref sa2, .ref sn2, .int (nI T2), .int go2, .int (nI th2), .int (nI sm2)])), (sa2, .inl (g.2.1 3, 6, .inr (.inr (.inr (.inr (fun j => some (tq2 j))))))), (sn2, .inl (g.2.1 0, 8, .inl sf2))] ++ (kd_th tq2 R2)))) := hD
              refine lv_aload_n hx hb dX7_copy_69 rfl (lv_at hl 0 rfl) ?_
              refine lv_aload_n hx hb dX7_copy_70 rfl (lv_at hl 1 rfl) ?_
              refine va_get (ci := 7) (v := .int go2) (C := RX7) (T := TX7) (N := 6) hx hb hts hiX7 hown hK hP (9) rfl rfl 3 (by decide) (hts (.fieldLink RX7 26 "KingdomAtDice$Standing" "gold" "I") (by decide +kernel)) (fun _ h9 => h9) rfl dX7_copy_71 ?_
              refine va_put (ci := 7) (v := .int go2) (ty := .int) (C := RX7) (T := TX7) (N := 6) hx hb hts hiX7 tyX7 tyX7_ok nmX7 hown hK hP hD hS (0) rfl rfl 3 (by decide) (hts (.fieldLink RX7 26 "KingdomAtDice$Standing" "gold" "I") (by decide +kernel)) (fun _ h9 => h9) rfl (by decide +kernel) rfl rfl (Nat.le_of_ble_eq_true rfl) dX7_copy_74 (fun H locs hP hD hS => ?_)
              have hP : va_P g.1 vwCl ([(so, .inr (7, [.ref sa, .ref sn, .int (nI T2), .int go2, .int (nI th), .int (nI sm)])), (sa, .inl (g.2.1 3, 6, .inr (.inr (.inr (.inr (fun j => some (tq j))))))), (sn, .inl (g.2.1 0, 8, .inl fv))] ++ (kd_th tq Rv ++ ([(so2, .inr (7, [.ref sa2, .ref sn2, .int (nI T2), .int go2, .int (nI th2), .int (nI sm2)])), (sa2, .inl (g.2.1 3, 6, .inr (.inr (.inr (.inr (fun j => some (tq2 j))))))), (sn2, .inl (g.2.1 0, 8, .inl sf2))] ++ (kd_th tq2 R2)))) H := hP
              have hD : va_D A ([(so, .inr (7, [.ref sa, .ref sn, .int (nI T2), .int go2, .int (nI th), .int (nI sm)])), (sa, .inl (g.2.1 3, 6, .inr (.inr (.inr (.inr (fun j => some (tq j))))))), (sn, .inl (g.2.1 0, 8, .inl fv))] ++ (kd_th tq Rv ++ ([(so2, .inr (7, [.ref sa2, .ref sn2, .int (nI T2), .int go2, .int (nI th2), .int (nI sm2)])), (sa2, .inl (g.2.1 3, 6, .inr (.inr (.inr (.inr (fun j => some (tq2 j))))))), (sn2, .inl (g.2.1 0, 8, .inl sf2))] ++ (kd_th tq2 R2)))) := hD
              refine lv_aload_n hx hb dX7_copy_77 rfl (lv_at hl 0 rfl) ?_
              refine lv_aload_n hx hb dX7_copy_78 rfl (lv_at hl 1 rfl) ?_
              refine va_get (ci := 7) (v := .int (nI th2)) (C := RX7) (T := TX7) (N := 6) hx hb hts hiX7 hown hK hP (9) rfl rfl 4 (by decide) (hts (.fieldLink RX7 29 "KingdomAtDice$Standing" "throwMany" "I") (by decide +kernel)) (fun _ h9 => h9) rfl dX7_copy_79 ?_
              refine va_put (ci := 7) (v := .int (nI th2)) (ty := .int) (C := RX7) (T := TX7) (N := 6) hx hb hts hiX7 tyX7 tyX7_ok nmX7 hown hK hP hD hS (0) rfl rfl 4 (by decide) (hts (.fieldLink RX7 29 "KingdomAtDice$Standing" "throwMany" "I") (by decide +kernel)) (fun _ h9 => h9) rfl (by decide +kernel) rfl rfl (Nat.le_of_ble_eq_true rfl) dX7_copy_82 (fun H locs hP hD hS => ?_)
              have hP : va_P g.1 vwCl ([(so, .inr (7, [.ref sa, .ref sn, .int (nI T2), .int go2, .int (nI th2), .int (nI sm)])), (sa, .inl (g.2.1 3, 6, .inr (.inr (.inr (.inr (fun j => some (tq j))))))), (sn, .inl (g.2.1 0, 8, .inl fv))] ++ (kd_th tq Rv ++ ([(so2, .inr (7, [.ref sa2, .ref sn2, .int (nI T2), .int go2, .int (nI th2), .int (nI sm2)])), (sa2, .inl (g.2.1 3, 6, .inr (.inr (.inr (.inr (fun j => some (tq2 j))))))), (sn2, .inl (g.2.1 0, 8, .inl sf2))] ++ (kd_th tq2 R2)))) H := hP
              have hD : va_D A ([(so, .inr (7, [.ref sa, .ref sn, .int (nI T2), .int go2, .int (nI th2), .int (nI sm)])), (sa, .inl (g.2.1 3, 6, .inr (.inr (.inr (.inr (fun j => some (tq j))))))), (sn, .inl (g.2.1 0, 8, .inl fv))] ++ (kd_th tq Rv ++ ([(so2, .inr (7, [.ref sa2, .ref sn2, .int (nI T2), .int go2, .int (nI th2), .int (nI sm2)])), (sa2, .inl (g.2.1 3, 6, .inr (.inr (.inr (.inr (fun j => some (tq2 j))))))), (sn2, .inl (g.2.1 0, 8, .inl sf2))] ++ (kd_th tq2 R2)))) := hD
              refine lv_aload_n hx hb dX7_copy_85 rfl (lv_at hl 0 rfl) ?_
              refine lv_aload_n hx hb dX7_copy_86 rfl (lv_at hl 1 rfl) ?_
              refine va_get (ci := 7) (v := .int (nI sm2)) (C := RX7) (T := TX7) (N := 6) hx hb hts hiX7 hown hK hP (9) rfl rfl 5 (by decide) (hts (.fieldLink RX7 32 "KingdomAtDice$Standing" "seenMany" "I") (by decide +kernel)) (fun _ h9 => h9) rfl dX7_copy_87 ?_
              refine va_put (ci := 7) (v := .int (nI sm2)) (ty := .int) (C := RX7) (T := TX7) (N := 6) hx hb hts hiX7 tyX7 tyX7_ok nmX7 hown hK hP hD hS (0) rfl rfl 5 (by decide) (hts (.fieldLink RX7 32 "KingdomAtDice$Standing" "seenMany" "I") (by decide +kernel)) (fun _ h9 => h9) rfl (by decide +kernel) rfl rfl (Nat.le_of_ble_eq_true rfl) dX7_copy_90 (fun H locs hP hD hS => ?_)
              have hP : va_P g.1 vwCl ([(so, .inr (7, [.ref sa, .ref sn, .int (nI T2), .int go2, .int (nI th2), .int (nI sm2)])), (sa, .inl (g.2.1 3, 6, .inr (.inr (.inr (.inr (fun j => some (tq j))))))), (sn, .inl (g.2.1 0, 8, .inl fv))] ++ (kd_th tq Rv ++ ([(so2, .inr (7, [.ref sa2, .ref sn2, .int (nI T2), .int go2, .int (nI th2), .int (nI sm2)])), (sa2, .inl (g.2.1 3, 6, .inr (.inr (.inr (.inr (fun j => some (tq2 j))))))), (sn2, .inl (g.2.1 0, 8, .inl sf2))] ++ (kd_th tq2 R2)))) H := hP
              have hD : va_D A ([(so, .inr (7, [.ref sa, .ref sn, .int (nI T2), .int go2, .int (nI th2), .int (nI sm2)])), (sa, .inl (g.2.1 3, 6, .inr (.inr (.inr (.inr (fun j => some (tq j))))))), (sn, .inl (g.2.1 0, 8, .inl fv))] ++ (kd_th tq Rv ++ ([(so2, .inr (7, [.ref sa2, .ref sn2, .int (nI T2), .int go2, .int (nI th2), .int (nI sm2)])), (sa2, .inl (g.2.1 3, 6, .inr (.inr (.inr (.inr (fun j => some (tq2 j))))))), (sn2, .inl (g.2.1 0, 8, .inl sf2))] ++ (kd_th tq2 R2)))) := hD
              exact kd_vret hx hb hr hlocks hK hS dX7_copy_93 ((T2, go2, th2, sm2, fv, Rv)) (by rw [hf, hR, show i = 6 by omega, show j = 8 by omega]) hP hD
            · have n_40 : j < 8 := kd_cne (a := 8) (b := j) (by omega) (by omega) c_40
              refine lv_aload_n hx hb dX7_copy_43 rfl (lv_at hl 0 rfl) ?_
              refine va_get (ci := 7) (v := .ref sn) (C := RX7) (T := TX7) (N := 6) hx hb hts hiX7 hown hK hP (0) rfl rfl 1 (by decide) (hts (.fieldLink RX7 18 "KingdomAtDice$Standing" "seen" "[I") (by decide +kernel)) (fun _ h9 => h9) rfl dX7_copy_44 ?_
              refine lv_iload_n hx hb dX7_copy_47 rfl (lv_at hl 2 rfl) ?_
              refine lv_aload_n hx hb dX7_copy_48 rfl (lv_at hl 1 rfl) ?_
              refine va_get (ci := 7) (v := .ref sn2) (C := RX7) (T := TX7) (N := 6) hx hb hts hiX7 hown hK hP (9) rfl rfl 1 (by decide) (hts (.fieldLink RX7 18 "KingdomAtDice$Standing" "seen" "[I") (by decide +kernel)) (fun _ h9 => h9) rfl dX7_copy_49 ?_
              refine lv_iload_n hx hb dX7_copy_52 rfl (lv_at hl 2 rfl) ?_
              refine kd_iald hx hb hK hP 11 (k := j) rfl (by omega) (by decide) dX7_copy_53 ?_
              refine kd_iast hx hb hK hP hD hS 2 (k := j) rfl (by omega) (by decide) dX7_copy_54 (fun H locs hP hD hS => ?_)
              have hP : va_P g.1 vwCl ([(so, .inr (7, [.ref sa, .ref sn, .int (nI T), .int go, .int (nI th), .int (nI sm)])), (sa, .inl (g.2.1 3, 6, .inr (.inr (.inr (.inr (fun j => some (tq j))))))), (sn, .inl (g.2.1 0, 8, .inl (upd fv j (sf2 j))))] ++ (kd_th tq Rv ++ ([(so2, .inr (7, [.ref sa2, .ref sn2, .int (nI T2), .int go2, .int (nI th2), .int (nI sm2)])), (sa2, .inl (g.2.1 3, 6, .inr (.inr (.inr (.inr (fun j => some (tq2 j))))))), (sn2, .inl (g.2.1 0, 8, .inl sf2))] ++ (kd_th tq2 R2)))) H := hP
              have hD : va_D A ([(so, .inr (7, [.ref sa, .ref sn, .int (nI T), .int go, .int (nI th), .int (nI sm)])), (sa, .inl (g.2.1 3, 6, .inr (.inr (.inr (.inr (fun j => some (tq j))))))), (sn, .inl (g.2.1 0, 8, .inl (upd fv j (sf2 j))))] ++ (kd_th tq Rv ++ ([(so2, .inr (7, [.ref sa2, .ref sn2, .int (nI T2), .int go2, .int (nI th2), .int (nI sm2)])), (sa2, .inl (g.2.1 3, 6, .inr (.inr (.inr (.inr (fun j => some (tq2 j))))))), (sn2, .inl (g.2.1 0, 8, .inl sf2))] ++ (kd_th tq2 R2)))) := hD
              refine lv_iinc (v := nI (j + 1)) (lv' := [(2, .int (nI (j + 1))), (0, .ref so), (1, .ref so2)]) hx hb dX7_copy_55 hl (k := 2) rfl (nI_1 _) (by decide) rfl (fun ls hl => ?_)
              refine lv_goto (tgt := 34) hx hb dX7_copy_58 (by decide) ?_
              exact ih_34 (j + 1) (upd fv j (sf2 j)) (by omega) (by rw [hf]; rfl) (by omega) _ _ hP hD hS ls (lv_sub hl [1, 2, 0] rfl)
        exact loop_34 ((8 - 0) + 1) 0 sf (by omega) rfl (Nat.lt_succ_self _) _ _ hP hD hS ls (lv_sub hl [1, 2, 0] rfl)
      · have n_8 : i < 6 := kd_cne (a := 6) (b := i) (by omega) (by omega) c_8
        refine lv_aload_n hx hb dX7_copy_11 rfl (lv_at hl 0 rfl) ?_
        refine va_get (ci := 7) (v := .ref sa) (C := RX7) (T := TX7) (N := 6) hx hb hts hiX7 hown hK hP (0) rfl rfl 0 (by decide) (hts (.fieldLink RX7 11 "KingdomAtDice$Standing" "things" "[LKingdomAtDice$Thing;") (by decide +kernel)) (fun _ h9 => h9) rfl dX7_copy_12 ?_
        refine lv_iload_n hx hb dX7_copy_15 rfl (lv_at hl 2 rfl) ?_
        refine kd_aldN hx hb hK hP 1 3 (k := i) rfl rfl (by omega) (by decide) dX7_copy_16 ?_
        refine lv_aload_n hx hb dX7_copy_17 rfl (lv_at hl 1 rfl) ?_
        refine va_get (ci := 7) (v := .ref sa2) (C := RX7) (T := TX7) (N := 6) hx hb hts hiX7 hown hK hP (9) rfl rfl 0 (by decide) (hts (.fieldLink RX7 11 "KingdomAtDice$Standing" "things" "[LKingdomAtDice$Thing;") (by decide +kernel)) (fun _ h9 => h9) rfl dX7_copy_18 ?_
        refine lv_iload_n hx hb dX7_copy_21 rfl (lv_at hl 2 rfl) ?_
        refine kd_aldN hx hb hK hP 10 3 (k := i) rfl rfl (by omega) (by decide) dX7_copy_22 ?_
        refine kd_callVJ (Wf := fun (u : (Nat → Nat → Int32)) => (kd_th tq u ++ (kd_th tq2 R2))) (g := g) (wc := (kd_th tq Rv ++ (kd_th tq2 R2))) (wr := [(so, .inr (7, [.ref sa, .ref sn, .int (nI T), .int go, .int (nI th), .int (nI sm)])), (sa, .inl (g.2.1 3, 6, .inr (.inr (.inr (.inr (fun j => some (tq j))))))), (sn, .inl (g.2.1 0, 8, .inl sf)), (so2, .inr (7, [.ref sa2, .ref sn2, .int (nI T2), .int go2, .int (nI th2), .int (nI sm2)])), (sa2, .inl (g.2.1 3, 6, .inr (.inr (.inr (.inr (fun j => some (tq2 j))))))), (sn2, .inl (g.2.1 0, 8, .inl sf2))]) (va_runVN (mc := 0) (ms := 0) (rm := { frames := 0, cells := 0, slots := 0, locals := 0 }) (C := RX8) (host := "KingdomAtDice") (As := [.ref (tq2 i)]) (rest := []) ⟨hx, hb, hml, hown, hts⟩ (c_X8_copy l g H.size tq Rv tq2 R2 i (by omega) (hz2 i (by omega))) ⟨va_cnB 1 hts gX7_copy_X8_copy_n58 rfl rfl rfl (kd_N hE 43 rfl) (hts (.initialized RX8) (by decide +kernel)) (by decide +kernel) ⟨Nat.le_of_ble_eq_true rfl, Nat.le_of_ble_eq_true rfl⟩, (hts (.instanceMethod yX8_copy) (by decide +kernel)), (hts (.selects RX8 yX8_copy yX8_copy) (by decide +kernel))⟩ (kd_preV (wc := (kd_th tq Rv ++ (kd_th tq2 R2))) (va_recv hK hP (ci := 8) (q0 := i + 3) rfl (kd_th_at (by omega))) hP hD hS hA hK hE [3, 4, 5, 6, 7, 8, 12, 13, 14, 15, 16, 17] rfl (by decide)) rfl rfl hl.1 rfl (lv_room (Nat.le_of_ble_eq_true rfl)) dX7_copy_23 ⟨Nat.le_of_ble_eq_true rfl, Nat.le_of_ble_eq_true rfl⟩) hP hD hS hA [3, 4, 5, 6, 7, 8, 12, 13, 14, 15, 16, 17] [0, 1, 2, 9, 10, 11] rfl rfl (by decide) (by decide) (fun u_23 H locs hw_23 hP hD hS => ?_)
        obtain ⟨R_23, rfl⟩ : ∃ z, z = u_23 := ⟨_, rfl⟩
        have hP : va_P g.1 vwCl ([(so, .inr (7, [.ref sa, .ref sn, .int (nI T), .int go, .int (nI th), .int (nI sm)])), (sa, .inl (g.2.1 3, 6, .inr (.inr (.inr (.inr (fun j => some (tq j))))))), (sn, .inl (g.2.1 0, 8, .inl sf)), (so2, .inr (7, [.ref sa2, .ref sn2, .int (nI T2), .int go2, .int (nI th2), .int (nI sm2)])), (sa2, .inl (g.2.1 3, 6, .inr (.inr (.inr (.inr (fun j => some (tq2 j))))))), (sn2, .inl (g.2.1 0, 8, .inl sf2))] ++ (kd_th tq R_23 ++ (kd_th tq2 R2))) H := hP
        have hD : va_D A ([(so, .inr (7, [.ref sa, .ref sn, .int (nI T), .int go, .int (nI th), .int (nI sm)])), (sa, .inl (g.2.1 3, 6, .inr (.inr (.inr (.inr (fun j => some (tq j))))))), (sn, .inl (g.2.1 0, 8, .inl sf)), (so2, .inr (7, [.ref sa2, .ref sn2, .int (nI T2), .int go2, .int (nI th2), .int (nI sm2)])), (sa2, .inl (g.2.1 3, 6, .inr (.inr (.inr (.inr (fun j => some (tq2 j))))))), (sn2, .inl (g.2.1 0, 8, .inl sf2))] ++ (kd_th tq R_23 ++ (kd_th tq2 R2))) := hD
        refine lv_iinc (v := nI (i + 1)) (lv' := [(2, .int (nI (i + 1))), (0, .ref so), (1, .ref so2)]) hx hb dX7_copy_26 hl (k := 2) rfl (nI_1 _) (by decide) rfl (fun ls hl => ?_)
        refine lv_goto (tgt := 2) hx hb dX7_copy_29 (by decide) ?_
        exact ih_2 (i + 1) R_23 (by omega) (by rw [hw_23, hR]; rfl) (by omega) _ _ (hP.sub (ws' := ([(so, .inr (7, [.ref sa, .ref sn, .int (nI T), .int go, .int (nI th), .int (nI sm)])), (sa, .inl (g.2.1 3, 6, .inr (.inr (.inr (.inr (fun j => some (tq j))))))), (sn, .inl (g.2.1 0, 8, .inl sf))] ++ (kd_th tq R_23 ++ ([(so2, .inr (7, [.ref sa2, .ref sn2, .int (nI T2), .int go2, .int (nI th2), .int (nI sm2)])), (sa2, .inl (g.2.1 3, 6, .inr (.inr (.inr (.inr (fun j => some (tq2 j))))))), (sn2, .inl (g.2.1 0, 8, .inl sf2))] ++ (kd_th tq2 R2))))) [0, 1, 2, 6, 7, 8, 9, 10, 11, 3, 4, 5, 12, 13, 14, 15, 16, 17] rfl) (hD.sub (ws' := ([(so, .inr (7, [.ref sa, .ref sn, .int (nI T), .int go, .int (nI th), .int (nI sm)])), (sa, .inl (g.2.1 3, 6, .inr (.inr (.inr (.inr (fun j => some (tq j))))))), (sn, .inl (g.2.1 0, 8, .inl sf))] ++ (kd_th tq R_23 ++ ([(so2, .inr (7, [.ref sa2, .ref sn2, .int (nI T2), .int go2, .int (nI th2), .int (nI sm2)])), (sa2, .inl (g.2.1 3, 6, .inr (.inr (.inr (.inr (fun j => some (tq2 j))))))), (sn2, .inl (g.2.1 0, 8, .inl sf2))] ++ (kd_th tq2 R2))))) [0, 1, 2, 6, 7, 8, 9, 10, 11, 3, 4, 5, 12, 13, 14, 15, 16, 17] (by decide) rfl) hS ls (lv_sub hl [1, 2, 0] rfl)
  exact loop_2 ((6 - 0) + 1) 0 R (by omega) rfl (Nat.lt_succ_self _) _ _ hP hD hS ls (lv_sub hl [1, 2, 0] rfl)

/-- what KingdomAtDiceModel.leastOf answers and leaves, by its instructions -/
def sp_X11_leastOf (p0 : Int32) : Int32 :=
  if p0 = 1 then
    2
  else
    if p0 = 4 then
      4
    else
      1
set_option maxHeartbeats 4000000 in
set_option maxRecDepth 100000 in
theorem c_X11_leastOf (l : Launch) (g : kd_G) (sz : Nat) (p0 : Int32)  : kd_MI l yX11_leastOf wsX11_leastOf ({ frames := 0, cells := 0, slots := 0, locals := 0 }) [.int p0] g [] sz (fun r (_ : Unit) => r = sp_X11_leastOf p0) (fun _ => []) 0 0 := by
  refine kd_met (l := l) (y := yX11_leastOf) (ws := wsX11_leastOf) (rm := { frames := 0, cells := 0, slots := 0, locals := 0 }) (av := [.int p0]) (g := g) (WS := []) (sz := sz) (mc := 0) (ms := 0) (cc := cX11_leastOf) (maxL := 1) (ret := (some .int)) (own := RX11) (fun A => va_Qi (fun r (_ : Unit) => r = sp_X11_leastOf p0) (fun u t => kd_post g A [] t) A) (by decide) rfl rfl (Nat.le_of_ble_eq_true rfl) ?_
  intro p e s m below meth c A ls hx hb hr hml hts hown hlocks hnm hA hP hK hD hS hE hl
  have hl : lv_has ls 1 [(0, .int p0)] := hl
  refine lv_iload_n hx hb dX11_leastOf_0 rfl (lv_at hl 0 rfl) ?_
  refine lv_iconst (v := 1) hx hb dX11_leastOf_1 (by decide) ?_
  refine lv_icmp_ne (tgt := 9) hx hb dX11_leastOf_2 (by decide) (fun c_2 => ?_) (fun c_2 => ?_)
  · refine lv_iload_n hx hb dX11_leastOf_9 rfl (lv_at hl 0 rfl) ?_
    refine lv_iconst (v := 4) hx hb dX11_leastOf_10 (by decide) ?_
    refine lv_icmp_ne (tgt := 18) hx hb dX11_leastOf_11 (by decide) (fun c_11 => ?_) (fun c_11 => ?_)
    · refine lv_iconst (v := 1) hx hb dX11_leastOf_18 (by decide) ?_
      exact kd_iret hx hb hr hlocks hK hS dX11_leastOf_19 (()) (by rw [sp_X11_leastOf, if_neg c_2, if_neg c_11]) hP hD
    · refine lv_iconst (v := 4) hx hb dX11_leastOf_14 (by decide) ?_
      refine lv_goto (tgt := 19) hx hb dX11_leastOf_15 (by decide) ?_
      exact kd_iret hx hb hr hlocks hK hS dX11_leastOf_19 (()) (by rw [sp_X11_leastOf, if_neg c_2, if_pos c_11]) hP hD
  · refine lv_iconst (v := 2) hx hb dX11_leastOf_5 (by decide) ?_
    refine lv_goto (tgt := 19) hx hb dX11_leastOf_6 (by decide) ?_
    exact kd_iret hx hb hr hlocks hK hS dX11_leastOf_19 (()) (by rw [sp_X11_leastOf, if_pos c_2]) hP hD
/-- what KingdomAtDiceModel.mostOf answers and leaves, by its instructions -/
def sp_X11_mostOf (p0 : Int32) : Int32 :=
  if p0 = 3 then
    3
  else
    6
set_option maxHeartbeats 4000000 in
set_option maxRecDepth 100000 in
theorem c_X11_mostOf (l : Launch) (g : kd_G) (sz : Nat) (p0 : Int32)  : kd_MI l yX11_mostOf wsX11_mostOf ({ frames := 0, cells := 0, slots := 0, locals := 0 }) [.int p0] g [] sz (fun r (_ : Unit) => r = sp_X11_mostOf p0) (fun _ => []) 0 0 := by
  refine kd_met (l := l) (y := yX11_mostOf) (ws := wsX11_mostOf) (rm := { frames := 0, cells := 0, slots := 0, locals := 0 }) (av := [.int p0]) (g := g) (WS := []) (sz := sz) (mc := 0) (ms := 0) (cc := cX11_mostOf) (maxL := 1) (ret := (some .int)) (own := RX11) (fun A => va_Qi (fun r (_ : Unit) => r = sp_X11_mostOf p0) (fun u t => kd_post g A [] t) A) (by decide) rfl rfl (Nat.le_of_ble_eq_true rfl) ?_
  intro p e s m below meth c A ls hx hb hr hml hts hown hlocks hnm hA hP hK hD hS hE hl
  have hl : lv_has ls 1 [(0, .int p0)] := hl
  refine lv_iload_n hx hb dX11_mostOf_0 rfl (lv_at hl 0 rfl) ?_
  refine lv_iconst (v := 3) hx hb dX11_mostOf_1 (by decide) ?_
  refine lv_icmp_ne (tgt := 9) hx hb dX11_mostOf_2 (by decide) (fun c_2 => ?_) (fun c_2 => ?_)
  · refine lv_bipush (v := 6) hx hb dX11_mostOf_9 (by decide) ?_
    exact kd_iret hx hb hr hlocks hK hS dX11_mostOf_11 (()) (by rw [sp_X11_mostOf, if_neg c_2]) hP hD
  · refine lv_iconst (v := 3) hx hb dX11_mostOf_5 (by decide) ?_
    refine lv_goto (tgt := 11) hx hb dX11_mostOf_6 (by decide) ?_
    exact kd_iret hx hb hr hlocks hK hS dX11_mostOf_11 (()) (by rw [sp_X11_mostOf, if_pos c_2]) hP hD
/-- what KingdomAtDiceModel.sortBy answers and leaves, by its instructions -/
def sp_X11_sortBy (p0 : Int32) : Int32 :=
  if p0 = 106 then
    0
  else
    if p0 = 98 then
      1
    else
      if p0 = 115 then
        2
      else
        (-1)
set_option maxHeartbeats 4000000 in
set_option maxRecDepth 100000 in
theorem c_X11_sortBy (l : Launch) (g : kd_G) (sz : Nat) (p0 : Int32)  : kd_MI l yX11_sortBy wsX11_sortBy ({ frames := 0, cells := 0, slots := 0, locals := 0 }) [.int p0] g [] sz (fun r (_ : Unit) => r = sp_X11_sortBy p0) (fun _ => []) 0 0 := by
  refine kd_met (l := l) (y := yX11_sortBy) (ws := wsX11_sortBy) (rm := { frames := 0, cells := 0, slots := 0, locals := 0 }) (av := [.int p0]) (g := g) (WS := []) (sz := sz) (mc := 0) (ms := 0) (cc := cX11_sortBy) (maxL := 1) (ret := (some .int)) (own := RX11) (fun A => va_Qi (fun r (_ : Unit) => r = sp_X11_sortBy p0) (fun u t => kd_post g A [] t) A) (by decide) rfl rfl (Nat.le_of_ble_eq_true rfl) ?_
  intro p e s m below meth c A ls hx hb hr hml hts hown hlocks hnm hA hP hK hD hS hE hl
  have hl : lv_has ls 1 [(0, .int p0)] := hl
  refine lv_iload_n hx hb dX11_sortBy_0 rfl (lv_at hl 0 rfl) ?_
  refine lv_bipush (v := 106) hx hb dX11_sortBy_1 (by decide) ?_
  refine lv_icmp_ne (tgt := 10) hx hb dX11_sortBy_3 (by decide) (fun c_3 => ?_) (fun c_3 => ?_)
  · refine lv_iload_n hx hb dX11_sortBy_10 rfl (lv_at hl 0 rfl) ?_
    refine lv_bipush (v := 98) hx hb dX11_sortBy_11 (by decide) ?_
    refine lv_icmp_ne (tgt := 20) hx hb dX11_sortBy_13 (by decide) (fun c_13 => ?_) (fun c_13 => ?_)
    · refine lv_iload_n hx hb dX11_sortBy_20 rfl (lv_at hl 0 rfl) ?_
      refine lv_bipush (v := 115) hx hb dX11_sortBy_21 (by decide) ?_
      refine lv_icmp_ne (tgt := 30) hx hb dX11_sortBy_23 (by decide) (fun c_23 => ?_) (fun c_23 => ?_)
      · refine lv_iconst (v := (-1)) hx hb dX11_sortBy_30 (by decide) ?_
        exact kd_iret hx hb hr hlocks hK hS dX11_sortBy_31 (()) (by rw [sp_X11_sortBy, if_neg c_3, if_neg c_13, if_neg c_23]) hP hD
      · refine lv_iconst (v := 2) hx hb dX11_sortBy_26 (by decide) ?_
        refine lv_goto (tgt := 31) hx hb dX11_sortBy_27 (by decide) ?_
        exact kd_iret hx hb hr hlocks hK hS dX11_sortBy_31 (()) (by rw [sp_X11_sortBy, if_neg c_3, if_neg c_13, if_pos c_23]) hP hD
    · refine lv_iconst (v := 1) hx hb dX11_sortBy_16 (by decide) ?_
      refine lv_goto (tgt := 31) hx hb dX11_sortBy_17 (by decide) ?_
      exact kd_iret hx hb hr hlocks hK hS dX11_sortBy_31 (()) (by rw [sp_X11_sortBy, if_neg c_3, if_pos c_13]) hP hD
  · refine lv_iconst (v := 0) hx hb dX11_sortBy_6 (by decide) ?_
    refine lv_goto (tgt := 31) hx hb dX11_sortBy_7 (by decide) ?_
    exact kd_iret hx hb hr hlocks hK hS dX11_sortBy_31 (()) (by rw [sp_X11_sortBy, if_pos c_3]) hP hD
/-- what KingdomAtDiceModel.kindBy answers and leaves, by its instructions -/
def sp_X11_kindBy (p0 : Int32) : Int32 :=
  if p0 = 100 then
    0
  else
    if p0 = 104 then
      1
    else
      if p0 = 116 then
        2
      else
        if p0 = 108 then
          3
        else
          if p0 = 98 then
            4
          else
            (-1)
set_option maxHeartbeats 4000000 in
set_option maxRecDepth 100000 in
theorem c_X11_kindBy (l : Launch) (g : kd_G) (sz : Nat) (p0 : Int32)  : kd_MI l yX11_kindBy wsX11_kindBy ({ frames := 0, cells := 0, slots := 0, locals := 0 }) [.int p0] g [] sz (fun r (_ : Unit) => r = sp_X11_kindBy p0) (fun _ => []) 0 0 := by
  refine kd_met (l := l) (y := yX11_kindBy) (ws := wsX11_kindBy) (rm := { frames := 0, cells := 0, slots := 0, locals := 0 }) (av := [.int p0]) (g := g) (WS := []) (sz := sz) (mc := 0) (ms := 0) (cc := cX11_kindBy) (maxL := 1) (ret := (some .int)) (own := RX11) (fun A => va_Qi (fun r (_ : Unit) => r = sp_X11_kindBy p0) (fun u t => kd_post g A [] t) A) (by decide) rfl rfl (Nat.le_of_ble_eq_true rfl) ?_
  intro p e s m below meth c A ls hx hb hr hml hts hown hlocks hnm hA hP hK hD hS hE hl
  have hl : lv_has ls 1 [(0, .int p0)] := hl
  refine lv_iload_n hx hb dX11_kindBy_0 rfl (lv_at hl 0 rfl) ?_
  refine lv_bipush (v := 100) hx hb dX11_kindBy_1 (by decide) ?_
  refine lv_icmp_ne (tgt := 10) hx hb dX11_kindBy_3 (by decide) (fun c_3 => ?_) (fun c_3 => ?_)
  · refine lv_iload_n hx hb dX11_kindBy_10 rfl (lv_at hl 0 rfl) ?_
    refine lv_bipush (v := 104) hx hb dX11_kindBy_11 (by decide) ?_
    refine lv_icmp_ne (tgt := 20) hx hb dX11_kindBy_13 (by decide) (fun c_13 => ?_) (fun c_13 => ?_)
    · refine lv_iload_n hx hb dX11_kindBy_20 rfl (lv_at hl 0 rfl) ?_
      refine lv_bipush (v := 116) hx hb dX11_kindBy_21 (by decide) ?_
      refine lv_icmp_ne (tgt := 30) hx hb dX11_kindBy_23 (by decide) (fun c_23 => ?_) (fun c_23 => ?_)
      · refine lv_iload_n hx hb dX11_kindBy_30 rfl (lv_at hl 0 rfl) ?_
        refine lv_bipush (v := 108) hx hb dX11_kindBy_31 (by decide) ?_
        refine lv_icmp_ne (tgt := 40) hx hb dX11_kindBy_33 (by decide) (fun c_33 => ?_) (fun c_33 => ?_)
        · refine lv_iload_n hx hb dX11_kindBy_40 rfl (lv_at hl 0 rfl) ?_
          refine lv_bipush (v := 98) hx hb dX11_kindBy_41 (by decide) ?_
          refine lv_icmp_ne (tgt := 50) hx hb dX11_kindBy_43 (by decide) (fun c_43 => ?_) (fun c_43 => ?_)
          · refine lv_iconst (v := (-1)) hx hb dX11_kindBy_50 (by decide) ?_
            exact kd_iret hx hb hr hlocks hK hS dX11_kindBy_51 (()) (by rw [sp_X11_kindBy, if_neg c_3, if_neg c_13, if_neg c_23, if_neg c_33, if_neg c_43]) hP hD
          · refine lv_iconst (v := 4) hx hb dX11_kindBy_46 (by decide) ?_
            refine lv_goto (tgt := 51) hx hb dX11_kindBy_47 (by decide) ?_
            exact kd_iret hx hb hr hlocks hK hS dX11_kindBy_51 (()) (by rw [sp_X11_kindBy, if_neg c_3, if_neg c_13, if_neg c_23, if_neg c_33, if_pos c_43]) hP hD
        · refine lv_iconst (v := 3) hx hb dX11_kindBy_36 (by decide) ?_
          refine lv_goto (tgt := 51) hx hb dX11_kindBy_37 (by decide) ?_
          exact kd_iret hx hb hr hlocks hK hS dX11_kindBy_51 (()) (by rw [sp_X11_kindBy, if_neg c_3, if_neg c_13, if_neg c_23, if_pos c_33]) hP hD
      · refine lv_iconst (v := 2) hx hb dX11_kindBy_26 (by decide) ?_
        refine lv_goto (tgt := 51) hx hb dX11_kindBy_27 (by decide) ?_
        exact kd_iret hx hb hr hlocks hK hS dX11_kindBy_51 (()) (by rw [sp_X11_kindBy, if_neg c_3, if_neg c_13, if_pos c_23]) hP hD
    · refine lv_iconst (v := 1) hx hb dX11_kindBy_16 (by decide) ?_
      refine lv_goto (tgt := 51) hx hb dX11_kindBy_17 (by decide) ?_
      exact kd_iret hx hb hr hlocks hK hS dX11_kindBy_51 (()) (by rw [sp_X11_kindBy, if_neg c_3, if_pos c_13]) hP hD
  · refine lv_iconst (v := 0) hx hb dX11_kindBy_6 (by decide) ?_
    refine lv_goto (tgt := 51) hx hb dX11_kindBy_7 (by decide) ?_
    exact kd_iret hx hb hr hlocks hK hS dX11_kindBy_51 (()) (by rw [sp_X11_kindBy, if_pos c_3]) hP hD
/-- what KingdomAtDiceModel.in answers and leaves, by its instructions -/
def sp_X11_in (a0 : Int64) (a1 : Int64) (a2 : Int64) : Int32 :=
  if (lg_cmp a0 a1) < 0 then
    0
  else
    if 0 < (lg_cmp a0 a2) then
      0
    else
      1
theorem zb_X11_in (a0 : Int64) (a1 : Int64) (a2 : Int64) : sp_X11_in a0 a1 a2 = 0 ∨ sp_X11_in a0 a1 a2 = 1 := by
  unfold sp_X11_in
  repeat' split
  all_goals first | exact Or.inl rfl | exact Or.inr rfl | simp
set_option maxHeartbeats 4000000 in
set_option maxRecDepth 100000 in
theorem c_X11_in (l : Launch) (g : kd_G) (sz : Nat) (a0 : Int64) (a1 : Int64) (a2 : Int64)  : kd_MI l yX11_in wsX11_in ({ frames := 0, cells := 0, slots := 0, locals := 0 }) [.long a0, .long a1, .long a2] g [] sz (fun r (_ : Unit) => r = sp_X11_in a0 a1 a2) (fun _ => []) 0 0 := by
  refine kd_met (l := l) (y := yX11_in) (ws := wsX11_in) (rm := { frames := 0, cells := 0, slots := 0, locals := 0 }) (av := [.long a0, .long a1, .long a2]) (g := g) (WS := []) (sz := sz) (mc := 0) (ms := 0) (cc := cX11_in) (maxL := 6) (ret := (some .boolean)) (own := RX11) (fun A => va_Qi (fun r (_ : Unit) => r = sp_X11_in a0 a1 a2) (fun u t => kd_post g A [] t) A) (by decide) rfl rfl (Nat.le_of_ble_eq_true rfl) ?_
  intro p e s m below meth c A ls hx hb hr hml hts hown hlocks hnm hA hP hK hD hS hE hl
  have hl : lv_has ls 6 [(0, .long a0), (2, .long a1), (4, .long a2)] := hl
  refine lv_lload_n hx hb dX11_in_0 rfl (lv_at hl 0 rfl) ?_
  refine lv_lload_n hx hb dX11_in_1 rfl (lv_at hl 1 rfl) ?_
  refine W.lcmp hx hb dX11_in_2 ?_
  refine lv_if_lt (tgt := 17) hx hb dX11_in_3 (by decide) (fun c_3 => ?_) (fun c_3 => ?_)
  · refine lv_iconst (v := 0) hx hb dX11_in_17 (by decide) ?_
    exact kd_zret hx hb hr hlocks hK hS dX11_in_18 (Or.inl rfl) (()) (by rw [sp_X11_in, if_pos c_3]) hP hD
  · refine lv_lload_n hx hb dX11_in_6 rfl (lv_at hl 0 rfl) ?_
    refine lv_lload hx hb dX11_in_7 (lv_at hl 2 rfl) ?_
    refine W.lcmp hx hb dX11_in_9 ?_
    refine lv_if_gt (tgt := 17) hx hb dX11_in_10 (by decide) (fun c_10 => ?_) (fun c_10 => ?_)
    · refine lv_iconst (v := 0) hx hb dX11_in_17 (by decide) ?_
      exact kd_zret hx hb hr hlocks hK hS dX11_in_18 (Or.inl rfl) (()) (by rw [sp_X11_in, if_neg c_3, if_pos c_10]) hP hD
    · refine lv_iconst (v := 1) hx hb dX11_in_13 (by decide) ?_
      refine lv_goto (tgt := 18) hx hb dX11_in_14 (by decide) ?_
      exact kd_zret hx hb hr hlocks hK hS dX11_in_18 (Or.inr rfl) (()) (by rw [sp_X11_in, if_neg c_3, if_neg c_10]) hP hD
theorem kd_in {a b c : Int64} (h : ¬ sp_X11_in a b c = 0) : b ≤ a ∧ a ≤ c := by
  unfold sp_X11_in lg_cmp at h
  constructor
  · rcases Int64.le_total b a with q | q
    · exact q
    · rcases Int64.lt_or_eq_of_le q with q | q
      · exfalso; apply h; have e1 : ¬ b < a := fun z => Int64.lt_irrefl (Int64.lt_trans q z); have e2 : ¬ a = b := fun z => Int64.lt_irrefl (z ▸ q); simp [e1, e2]
      · exact Int64.le_of_eq q.symm
  · rcases Int64.le_total a c with q | q
    · exact q
    · rcases Int64.lt_or_eq_of_le q with q | q
      · exfalso; apply h; simp [q]
      · exact Int64.le_of_eq q.symm
/-- what KingdomAtDiceModel.waysOf answers and leaves, by its instructions -/
def sp_X11_waysOf (tf : Nat → Int32) (bf : Nat → Int32) (k : Nat) (s_ : Nat) : Int32 :=
  if (nI k) = 4 then
    bf s_
  else
    tf ((13 * k) + s_)
set_option maxHeartbeats 4000000 in
set_option maxRecDepth 100000 in
theorem c_X11_waysOf (l : Launch) (g : kd_G) (sz : Nat) (mo : Nat) (mt : Nat) (mb : Nat) (mp : Nat) (qn : Nat) (mr : Nat) (rm : Nat) (rs : Int32) (mk : Nat) (zt : Nat) (T : Nat) (go : Int32) (th : Nat) (nh : Nat) (mw : Nat) (mc : Nat) (mn : Nat) (mx : Nat) (sm : Nat) (ms : Nat) (se : Int32) (mv : Nat) (kh : Int32) (kg : Int32) (kt : Nat) (ks : Nat) (mq : Nat) (mu : Nat) (hsh : Int64) (tf : Nat → Int32) (bf : Nat → Int32) (k : Nat) (s_ : Nat) (hk : k < 5) (hs_ : s_ ≤ 12) : kd_MI l yX11_waysOf wsX11_waysOf ({ frames := 0, cells := 0, slots := 0, locals := 0 }) [.ref mo, .int (nI k), .int (nI s_)] g [(mo, .inr (11, [.ref mt, .ref mb, .ref mp, .int (nI qn), .ref mr, .int (nI rm), .int rs, .ref mk, .int (nI zt), .int (nI T), .int go, .int (nI th), .int (nI nh), .ref mw, .ref mc, .ref mn, .ref mx, .int (nI sm), .ref ms, .int se, .ref mv, .int kh, .int kg, .int (nI kt), .int (nI ks), .ref mq, .ref mu, .long hsh])), (mt, .inl (g.2.1 0, 64, .inl tf)), (mb, .inl (g.2.1 0, 13, .inl bf))] sz (fun r (_ : Unit) => r = sp_X11_waysOf tf bf k s_) (fun _ => [(mo, .inr (11, [.ref mt, .ref mb, .ref mp, .int (nI qn), .ref mr, .int (nI rm), .int rs, .ref mk, .int (nI zt), .int (nI T), .int go, .int (nI th), .int (nI nh), .ref mw, .ref mc, .ref mn, .ref mx, .int (nI sm), .ref ms, .int se, .ref mv, .int kh, .int kg, .int (nI kt), .int (nI ks), .ref mq, .ref mu, .long hsh])), (mt, .inl (g.2.1 0, 64, .inl tf)), (mb, .inl (g.2.1 0, 13, .inl bf))]) 0 0 := by
  refine kd_met (l := l) (y := yX11_waysOf) (ws := wsX11_waysOf) (rm := { frames := 0, cells := 0, slots := 0, locals := 0 }) (av := [.ref mo, .int (nI k), .int (nI s_)]) (g := g) (WS := [(mo, .inr (11, [.ref mt, .ref mb, .ref mp, .int (nI qn), .ref mr, .int (nI rm), .int rs, .ref mk, .int (nI zt), .int (nI T), .int go, .int (nI th), .int (nI nh), .ref mw, .ref mc, .ref mn, .ref mx, .int (nI sm), .ref ms, .int se, .ref mv, .int kh, .int kg, .int (nI kt), .int (nI ks), .ref mq, .ref mu, .long hsh])), (mt, .inl (g.2.1 0, 64, .inl tf)), (mb, .inl (g.2.1 0, 13, .inl bf))]) (sz := sz) (mc := 0) (ms := 0) (cc := cX11_waysOf) (maxL := 3) (ret := (some .int)) (own := RX11) (fun A => va_Qi (fun r (_ : Unit) => r = sp_X11_waysOf tf bf k s_) (fun u t => kd_post g A [(mo, .inr (11, [.ref mt, .ref mb, .ref mp, .int (nI qn), .ref mr, .int (nI rm), .int rs, .ref mk, .int (nI zt), .int (nI T), .int go, .int (nI th), .int (nI nh), .ref mw, .ref mc, .ref mn, .ref mx, .int (nI sm), .ref ms, .int se, .ref mv, .int kh, .int kg, .int (nI kt), .int (nI ks), .ref mq, .ref mu, .long hsh])), (mt, .inl (g.2.1 0, 64, .inl tf)), (mb, .inl (g.2.1 0, 13, .inl bf))] t) A) (by decide) rfl rfl (Nat.le_of_ble_eq_true rfl) ?_
  intro p e s m below meth c A ls hx hb hr hml hts hown hlocks hnm hA hP hK hD hS hE hl
  have hl : lv_has ls 3 [(0, .ref mo), (1, .int (nI k)), (2, .int (nI s_))] := hl
  have hiX11 : ∀ w ∈ u_ws RX11 TX11 28, w ∈ wsX11_waysOf := by decide +kernel
  refine lv_iload_n hx hb dX11_waysOf_0 rfl (lv_at hl 1 rfl) ?_
  refine lv_iconst (v := 4) hx hb dX11_waysOf_1 (by decide) ?_
  refine lv_icmp_ne (tgt := 14) hx hb dX11_waysOf_2 (by decide) (fun c_2 => ?_) (fun c_2 => ?_)
  · have n_2 : ¬ k = 4 := kd_cnq (a := k) (b := 4) (by omega) (by omega) c_2
    refine lv_aload_n hx hb dX11_waysOf_14 rfl (lv_at hl 0 rfl) ?_
    refine va_get (ci := 11) (v := .ref mt) (C := RX11) (T := TX11) (N := 28) hx hb hts hiX11 hown hK hP (0) rfl rfl 0 (by decide) (hts (.fieldLink RX11 7 "KingdomAtDiceModel" "table" "[I") (by decide +kernel)) (fun _ h9 => h9) rfl dX11_waysOf_15 ?_
    refine lv_bipush (v := 13) hx hb dX11_waysOf_18 (by decide) ?_
    refine lv_iload_n hx hb dX11_waysOf_20 rfl (lv_at hl 1 rfl) ?_
    refine lv_imul hx hb dX11_waysOf_21 ?_
    refine kd_top (pk_mul 13 k) ?_
    refine lv_iload_n hx hb dX11_waysOf_22 rfl (lv_at hl 2 rfl) ?_
    refine lv_iadd hx hb dX11_waysOf_23 ?_
    refine kd_top (nI_add (13 * k) s_) ?_
    refine kd_iald hx hb hK hP 1 (k := (13 * k) + s_) rfl (by omega) (by decide) dX11_waysOf_24 ?_
    exact kd_iret hx hb hr hlocks hK hS dX11_waysOf_25 (()) (by rw [sp_X11_waysOf, if_neg c_2]) hP hD
  · have n_2 : k = 4 := kd_cq (a := k) (b := 4) (by omega) (by omega) c_2
    refine lv_aload_n hx hb dX11_waysOf_5 rfl (lv_at hl 0 rfl) ?_
    refine va_get (ci := 11) (v := .ref mb) (C := RX11) (T := TX11) (N := 28) hx hb hts hiX11 hown hK hP (0) rfl rfl 1 (by decide) (hts (.fieldLink RX11 13 "KingdomAtDiceModel" "tableBone" "[I") (by decide +kernel)) (fun _ h9 => h9) rfl dX11_waysOf_6 ?_
    refine lv_iload_n hx hb dX11_waysOf_9 rfl (lv_at hl 2 rfl) ?_
    refine kd_iald hx hb hK hP 2 (k := s_) rfl (by omega) (by decide) dX11_waysOf_10 ?_
    refine lv_goto (tgt := 25) hx hb dX11_waysOf_11 (by decide) ?_
    exact kd_iret hx hb hr hlocks hK hS dX11_waysOf_25 (()) (by rw [sp_X11_waysOf, if_pos c_2]) hP hD
def kd_aw (tf bf : Nat → Int32) (k : Nat) : Nat → Int32
  | 0 => 0
  | i + 1 => kd_aw tf bf k i + sp_X11_waysOf tf bf k (2 + i)
set_option maxHeartbeats 4000000 in
set_option maxRecDepth 100000 in
theorem c_X11_allWays (l : Launch) (g : kd_G) (sz : Nat) (mo : Nat) (mt : Nat) (mb : Nat) (mp : Nat) (qn : Nat) (mr : Nat) (rm : Nat) (rs : Int32) (mk : Nat) (zt : Nat) (T : Nat) (go : Int32) (th : Nat) (nh : Nat) (mw : Nat) (mc : Nat) (mn : Nat) (mx : Nat) (sm : Nat) (ms : Nat) (se : Int32) (mv : Nat) (kh : Int32) (kg : Int32) (kt : Nat) (ks : Nat) (mq : Nat) (mu : Nat) (hsh : Int64) (tf : Nat → Int32) (bf : Nat → Int32) (k : Nat) (hk : k < 5) : kd_MI l yX11_allWays wsX11_allWays ({ frames := 1, cells := 0, slots := 0, locals := 22 }) [.ref mo, .int (nI k)] g [(mo, .inr (11, [.ref mt, .ref mb, .ref mp, .int (nI qn), .ref mr, .int (nI rm), .int rs, .ref mk, .int (nI zt), .int (nI T), .int go, .int (nI th), .int (nI nh), .ref mw, .ref mc, .ref mn, .ref mx, .int (nI sm), .ref ms, .int se, .ref mv, .int kh, .int kg, .int (nI kt), .int (nI ks), .ref mq, .ref mu, .long hsh])), (mt, .inl (g.2.1 0, 64, .inl tf)), (mb, .inl (g.2.1 0, 13, .inl bf))] sz (fun r (_ : Unit) => r = kd_aw tf bf k 11) (fun _ => [(mo, .inr (11, [.ref mt, .ref mb, .ref mp, .int (nI qn), .ref mr, .int (nI rm), .int rs, .ref mk, .int (nI zt), .int (nI T), .int go, .int (nI th), .int (nI nh), .ref mw, .ref mc, .ref mn, .ref mx, .int (nI sm), .ref ms, .int se, .ref mv, .int kh, .int kg, .int (nI kt), .int (nI ks), .ref mq, .ref mu, .long hsh])), (mt, .inl (g.2.1 0, 64, .inl tf)), (mb, .inl (g.2.1 0, 13, .inl bf))]) 0 0 := by
  refine kd_met (l := l) (y := yX11_allWays) (ws := wsX11_allWays) (rm := { frames := 1, cells := 0, slots := 0, locals := 22 }) (av := [.ref mo, .int (nI k)]) (g := g) (WS := [(mo, .inr (11, [.ref mt, .ref mb, .ref mp, .int (nI qn), .ref mr, .int (nI rm), .int rs, .ref mk, .int (nI zt), .int (nI T), .int go, .int (nI th), .int (nI nh), .ref mw, .ref mc, .ref mn, .ref mx, .int (nI sm), .ref ms, .int se, .ref mv, .int kh, .int kg, .int (nI kt), .int (nI ks), .ref mq, .ref mu, .long hsh])), (mt, .inl (g.2.1 0, 64, .inl tf)), (mb, .inl (g.2.1 0, 13, .inl bf))]) (sz := sz) (mc := 0) (ms := 0) (cc := cX11_allWays) (maxL := 4) (ret := (some .int)) (own := RX11) (fun A => va_Qi (fun r (_ : Unit) => r = kd_aw tf bf k 11) (fun u t => kd_post g A [(mo, .inr (11, [.ref mt, .ref mb, .ref mp, .int (nI qn), .ref mr, .int (nI rm), .int rs, .ref mk, .int (nI zt), .int (nI T), .int go, .int (nI th), .int (nI nh), .ref mw, .ref mc, .ref mn, .ref mx, .int (nI sm), .ref ms, .int se, .ref mv, .int kh, .int kg, .int (nI kt), .int (nI ks), .ref mq, .ref mu, .long hsh])), (mt, .inl (g.2.1 0, 64, .inl tf)), (mb, .inl (g.2.1 0, 13, .inl bf))] t) A) (by decide) rfl rfl (Nat.le_of_ble_eq_true rfl) ?_
  intro p e s m below meth c A ls hx hb hr hml hts hown hlocks hnm hA hP hK hD hS hE hl
  have hl : lv_has ls 4 [(0, .ref mo), (1, .int (nI k))] := hl
  refine lv_iconst (v := 0) hx hb dX11_allWays_0 (by decide) ?_
  refine lv_istore_n (lv' := [(2, .int 0), (0, .ref mo), (1, .int (nI k))]) hx hb dX11_allWays_1 rfl hl (by decide) rfl (fun ls hl => ?_)
  refine lv_iconst (v := 2) hx hb dX11_allWays_2 (by decide) ?_
  refine lv_istore_n (lv' := [(3, .int 2), (2, .int 0), (0, .ref mo), (1, .int (nI k))]) hx hb dX11_allWays_3 rfl hl (by decide) rfl (fun ls hl => ?_)
  have loop_4 : ∀ (n_4 : Nat) (j : Nat) (a : Int32), (2 ≤ j) → (j ≤ 13) → (a = kd_aw tf bf k (j - 2)) → (13 - j) < n_4 → ∀ (H : Heap) (locs : List Loc), va_P g.1 vwCl [(mo, .inr (11, [.ref mt, .ref mb, .ref mp, .int (nI qn), .ref mr, .int (nI rm), .int rs, .ref mk, .int (nI zt), .int (nI T), .int go, .int (nI th), .int (nI nh), .ref mw, .ref mc, .ref mn, .ref mx, .int (nI sm), .ref ms, .int se, .ref mv, .int kh, .int kg, .int (nI kt), .int (nI ks), .ref mq, .ref mu, .long hsh])), (mt, .inl (g.2.1 0, 64, .inl tf)), (mb, .inl (g.2.1 0, 13, .inl bf))] H → va_D A [(mo, .inr (11, [.ref mt, .ref mb, .ref mp, .int (nI qn), .ref mr, .int (nI rm), .int rs, .ref mk, .int (nI zt), .int (nI T), .int go, .int (nI th), .int (nI nh), .ref mw, .ref mc, .ref mn, .ref mx, .int (nI sm), .ref ms, .int se, .ref mv, .int kh, .int kg, .int (nI kt), .int (nI ks), .ref mq, .ref mu, .long hsh])), (mt, .inl (g.2.1 0, 64, .inl tf)), (mb, .inl (g.2.1 0, 13, .inl bf))] → va_S A s.heap H locs → ∀ (ls : Array Slot), lv_has ls 4 [(0, .ref mo), (1, .int (nI k)), (2, .int a), (3, .int (nI j))] → W p l e ({ frames := 1, cells := 0, slots := 0, locals := 22 } : Room) s m ([.ref mo, .int (nI k)] : List Value).toArray below meth c H locs 0 0 (MQ below (va_Qi (fun r (_ : Unit) => r = kd_aw tf bf k 11) (fun u t => kd_post g A [(mo, .inr (11, [.ref mt, .ref mb, .ref mp, .int (nI qn), .ref mr, .int (nI rm), .int rs, .ref mk, .int (nI zt), .int (nI T), .int go, .int (nI th), .int (nI nh), .ref mw, .ref mc, .ref mn, .ref mx, .int (nI sm), .ref ms, .int se, .ref mv, .int kh, .int kg, .int (nI kt), .int (nI ks), .ref mq, .ref mu, .long hsh])), (mt, .inl (g.2.1 0, 64, .inl tf)), (mb, .inl (g.2.1 0, 13, .inl bf))] t) A) ([.ref mo, .int (nI k)] : List Value).toArray s 0 0 A) (F0 m 4 ls []) := by
    intro n_4
    induction n_4 with
    | zero => intro j a _ _ _ hm_4; exact absurd hm_4 (Nat.not_lt_zero _)
    | succ n_4 ih_4 =>
      intro j a hj hj2 ha hm_4 H locs hP hD hS ls hl
      refine lv_iload_n hx hb dX11_allWays_4 rfl (lv_at hl 3 rfl) ?_
      refine lv_bipush (v := 13) hx hb dX11_allWays_5 (by decide) ?_
      refine lv_icmp_ge (tgt := 25) hx hb dX11_allWays_7 (by decide) (fun c_7 => ?_) (fun c_7 => ?_)
      · have n_7 : 13 ≤ j := kd_ce (a := 13) (b := j) (by omega) (by omega) c_7
        refine lv_iload_n hx hb dX11_allWays_25 rfl (lv_at hl 2 rfl) ?_
        exact kd_iret hx hb hr hlocks hK hS dX11_allWays_26 (()) (by rw [ha, show j = 13 by omega]) hP hD
      · have n_7 : j < 13 := kd_cne (a := 13) (b := j) (by omega) (by omega) c_7
        refine lv_iload_n hx hb dX11_allWays_10 rfl (lv_at hl 2 rfl) ?_
        refine lv_aload_n hx hb dX11_allWays_11 rfl (lv_at hl 0 rfl) ?_
        refine lv_iload_n hx hb dX11_allWays_12 rfl (lv_at hl 1 rfl) ?_
        refine lv_iload_n hx hb dX11_allWays_13 rfl (lv_at hl 3 rfl) ?_
        refine kd_callIK (g := g) (wc := [(mo, .inr (11, [.ref mt, .ref mb, .ref mp, .int (nI qn), .ref mr, .int (nI rm), .int rs, .ref mk, .int (nI zt), .int (nI T), .int go, .int (nI th), .int (nI nh), .ref mw, .ref mc, .ref mn, .ref mx, .int (nI sm), .ref ms, .int se, .ref mv, .int kh, .int kg, .int (nI kt), .int (nI ks), .ref mq, .ref mu, .long hsh])), (mt, .inl (g.2.1 0, 64, .inl tf)), (mb, .inl (g.2.1 0, 13, .inl bf))]) (va_runV (mc := 0) (ms := 0) (rm := { frames := 0, cells := 0, slots := 0, locals := 0 }) (As := [.int (nI k), .int (nI j)]) (rest := [.int a]) ⟨hx, hb, hml, hown, hts⟩ (c_X11_waysOf l g H.size mo mt mb mp qn mr rm rs mk zt T go th nh mw mc mn mx sm ms se mv kh kg kt ks mq mu hsh tf bf k j hk (by omega)) (cwV 2 hts gX11_allWays_X11_waysOf rfl rfl rfl (by decide +kernel) ⟨Nat.le_of_ble_eq_true rfl, Nat.le_of_ble_eq_true rfl⟩) (kd_preV (wc := [(mo, .inr (11, [.ref mt, .ref mb, .ref mp, .int (nI qn), .ref mr, .int (nI rm), .int rs, .ref mk, .int (nI zt), .int (nI T), .int go, .int (nI th), .int (nI nh), .ref mw, .ref mc, .ref mn, .ref mx, .int (nI sm), .ref ms, .int se, .ref mv, .int kh, .int kg, .int (nI kt), .int (nI ks), .ref mq, .ref mu, .long hsh])), (mt, .inl (g.2.1 0, 64, .inl tf)), (mb, .inl (g.2.1 0, 13, .inl bf))]) (va_recv hK hP (ci := 11) (q0 := 0) rfl rfl) hP hD hS hA hK hE [0, 1, 2] rfl (by decide)) rfl rfl hl.1 rfl (lv_room (Nat.le_of_ble_eq_true rfl)) dX11_allWays_14 ⟨Nat.le_of_ble_eq_true rfl, Nat.le_of_ble_eq_true rfl⟩) hP hD hS hA [0, 1, 2] rfl (fun r_14 _ H locs hw hP hS => ?_)
        subst hw
        refine lv_iadd hx hb dX11_allWays_17 ?_
        refine lv_istore_n (lv' := [(2, .int (a + (sp_X11_waysOf tf bf k j))), (0, .ref mo), (1, .int (nI k)), (3, .int (nI j))]) hx hb dX11_allWays_18 rfl hl (by decide) rfl (fun ls hl => ?_)
        refine lv_iinc (v := nI (j + 1)) (lv' := [(3, .int (nI (j + 1))), (2, .int (a + (sp_X11_waysOf tf bf k j))), (0, .ref mo), (1, .int (nI k))]) hx hb dX11_allWays_19 hl (k := 3) rfl (nI_1 _) (by decide) rfl (fun ls hl => ?_)
        refine lv_goto (tgt := 4) hx hb dX11_allWays_22 (by decide) ?_
        exact ih_4 (j + 1) (a + (sp_X11_waysOf tf bf k j)) (by omega) (by omega) (by rw [show j + 1 - 2 = (j - 2) + 1 by omega, kd_aw, show 2 + (j - 2) = j by omega, ← ha]) (by omega) _ _ hP hD hS ls (lv_sub hl [2, 3, 1, 0] rfl)
  exact loop_4 ((13 - 2) + 1) 2 0 (by decide) (by decide) rfl (Nat.lt_succ_self _) _ _ hP hD hS ls (lv_sub hl [2, 3, 1, 0] rfl)
set_option maxHeartbeats 4000000 in
set_option maxRecDepth 100000 in
theorem c_mcopy_2 (l : Launch) (g : kd_G) (sz : Nat) (fa : Nat) (ta : Nat) (f1 : Nat → Int32) (f2 : Nat → Int32)  : kd_MV l yX11_copy wsX11_copy ({ frames := 0, cells := 0, slots := 0, locals := 0 }) [.ref fa, .ref ta] g [(fa, .inl (g.2.1 0, 2, .inl f1)), (ta, .inl (g.2.1 0, 2, .inl f2))] sz (fun (u : (Nat → Int32)) => u = kd_cs f2 f1 2) (fun u => [(fa, .inl (g.2.1 0, 2, .inl f1)), (ta, .inl (g.2.1 0, 2, .inl u))]) 0 0 := by
  refine kd_met (l := l) (y := yX11_copy) (ws := wsX11_copy) (rm := { frames := 0, cells := 0, slots := 0, locals := 0 }) (av := [.ref fa, .ref ta]) (g := g) (WS := [(fa, .inl (g.2.1 0, 2, .inl f1)), (ta, .inl (g.2.1 0, 2, .inl f2))]) (sz := sz) (mc := 0) (ms := 0) (cc := cX11_copy) (maxL := 3) (ret := none) (own := RX11) (fun A => va_Qv (fun (u : (Nat → Int32)) => u = kd_cs f2 f1 2) (fun u t => kd_post g A [(fa, .inl (g.2.1 0, 2, .inl f1)), (ta, .inl (g.2.1 0, 2, .inl u))] t) A) (by decide) rfl rfl (Nat.le_of_ble_eq_true rfl) ?_
  intro p e s m below meth c A ls hx hb hr hml hts hown hlocks hnm hA hP hK hD hS hE hl
  have hl : lv_has ls 3 [(0, .ref fa), (1, .ref ta)] := hl
  refine lv_iconst (v := 0) hx hb dX11_copy_0 (by decide) ?_
  refine lv_istore_n (lv' := [(2, .int 0), (0, .ref fa), (1, .ref ta)]) hx hb dX11_copy_1 rfl hl (by decide) rfl (fun ls hl => ?_)
  have loop_2 : ∀ (n_2 : Nat) (j : Nat) (fv : Nat → Int32), (j ≤ 2) → (fv = kd_cs f2 f1 j) → (2 - j) < n_2 → ∀ (H : Heap) (locs : List Loc), va_P g.1 vwCl [(fa, .inl (g.2.1 0, 2, .inl f1)), (ta, .inl (g.2.1 0, 2, .inl fv))] H → va_D A [(fa, .inl (g.2.1 0, 2, .inl f1)), (ta, .inl (g.2.1 0, 2, .inl fv))] → va_S A s.heap H locs → ∀ (ls : Array Slot), lv_has ls 3 [(0, .ref fa), (1, .ref ta), (2, .int (nI j))] → W p l e ({ frames := 0, cells := 0, slots := 0, locals := 0 } : Room) s m ([.ref fa, .ref ta] : List Value).toArray below meth c H locs 0 0 (MQ below (va_Qv (fun (u : (Nat → Int32)) => u = kd_cs f2 f1 2) (fun u t => kd_post g A [(fa, .inl (g.2.1 0, 2, .inl f1)), (ta, .inl (g.2.1 0, 2, .inl u))] t) A) ([.ref fa, .ref ta] : List Value).toArray s 0 0 A) (F0 m 2 ls []) := by
    intro n_2
    induction n_2 with
    | zero => intro j fv _ _ hm_2; exact absurd hm_2 (Nat.not_lt_zero _)
    | succ n_2 ih_2 =>
      intro j fv hj hf hm_2 H locs hP hD hS ls hl
      refine lv_iload_n hx hb dX11_copy_2 rfl (lv_at hl 2 rfl) ?_
      refine lv_aload_n hx hb dX11_copy_3 rfl (lv_at hl 0 rfl) ?_
      refine va_alen hx hb hK hP 0 0 rfl rfl (v := 2) rfl dX11_copy_4 ?_
      refine lv_icmp_ge (tgt := 20) hx hb dX11_copy_5 (by decide) (fun c_5 => ?_) (fun c_5 => ?_)
      · have n_5 : 2 ≤ j := kd_ce (a := 2) (b := j) (by omega) (by omega) c_5
        exact kd_vret hx hb hr hlocks hK hS dX11_copy_20 (fv) (by rw [hf, show j = 2 by omega]) hP hD
      · have n_5 : j < 2 := kd_cne (a := 2) (b := j) (by omega) (by omega) c_5
        refine lv_aload_n hx hb dX11_copy_8 rfl (lv_at hl 1 rfl) ?_
        refine lv_iload_n hx hb dX11_copy_9 rfl (lv_at hl 2 rfl) ?_
        refine lv_aload_n hx hb dX11_copy_10 rfl (lv_at hl 0 rfl) ?_
        refine lv_iload_n hx hb dX11_copy_11 rfl (lv_at hl 2 rfl) ?_
        refine kd_iald hx hb hK hP 0 (k := j) rfl (by omega) (by decide) dX11_copy_12 ?_
        refine kd_iast hx hb hK hP hD hS 1 (k := j) rfl (by omega) (by decide) dX11_copy_13 (fun H locs hP hD hS => ?_)
        have hP : va_P g.1 vwCl [(fa, .inl (g.2.1 0, 2, .inl f1)), (ta, .inl (g.2.1 0, 2, .inl (upd fv j (f1 j))))] H := hP
        have hD : va_D A [(fa, .inl (g.2.1 0, 2, .inl f1)), (ta, .inl (g.2.1 0, 2, .inl (upd fv j (f1 j))))] := hD
        refine lv_iinc (v := nI (j + 1)) (lv' := [(2, .int (nI (j + 1))), (0, .ref fa), (1, .ref ta)]) hx hb dX11_copy_14 hl (k := 2) rfl (nI_1 _) (by decide) rfl (fun ls hl => ?_)
        refine lv_goto (tgt := 2) hx hb dX11_copy_17 (by decide) ?_
        exact ih_2 (j + 1) (upd fv j (f1 j)) (by omega) (by rw [hf]; rfl) (by omega) _ _ hP hD hS ls (lv_sub hl [1, 2, 0] rfl)
  exact loop_2 ((2 - 0) + 1) 0 f2 (by omega) rfl (Nat.lt_succ_self _) _ _ hP hD hS ls (lv_sub hl [1, 2, 0] rfl)
set_option maxHeartbeats 4000000 in
set_option maxRecDepth 100000 in
theorem c_mcopy_8 (l : Launch) (g : kd_G) (sz : Nat) (fa : Nat) (ta : Nat) (f1 : Nat → Int32) (f2 : Nat → Int32)  : kd_MV l yX11_copy wsX11_copy ({ frames := 0, cells := 0, slots := 0, locals := 0 }) [.ref fa, .ref ta] g [(fa, .inl (g.2.1 0, 8, .inl f1)), (ta, .inl (g.2.1 0, 8, .inl f2))] sz (fun (u : (Nat → Int32)) => u = kd_cs f2 f1 8) (fun u => [(fa, .inl (g.2.1 0, 8, .inl f1)), (ta, .inl (g.2.1 0, 8, .inl u))]) 0 0 := by
  refine kd_met (l := l) (y := yX11_copy) (ws := wsX11_copy) (rm := { frames := 0, cells := 0, slots := 0, locals := 0 }) (av := [.ref fa, .ref ta]) (g := g) (WS := [(fa, .inl (g.2.1 0, 8, .inl f1)), (ta, .inl (g.2.1 0, 8, .inl f2))]) (sz := sz) (mc := 0) (ms := 0) (cc := cX11_copy) (maxL := 3) (ret := none) (own := RX11) (fun A => va_Qv (fun (u : (Nat → Int32)) => u = kd_cs f2 f1 8) (fun u t => kd_post g A [(fa, .inl (g.2.1 0, 8, .inl f1)), (ta, .inl (g.2.1 0, 8, .inl u))] t) A) (by decide) rfl rfl (Nat.le_of_ble_eq_true rfl) ?_
  intro p e s m below meth c A ls hx hb hr hml hts hown hlocks hnm hA hP hK hD hS hE hl
  have hl : lv_has ls 3 [(0, .ref fa), (1, .ref ta)] := hl
  refine lv_iconst (v := 0) hx hb dX11_copy_0 (by decide) ?_
  refine lv_istore_n (lv' := [(2, .int 0), (0, .ref fa), (1, .ref ta)]) hx hb dX11_copy_1 rfl hl (by decide) rfl (fun ls hl => ?_)
  have loop_2 : ∀ (n_2 : Nat) (j : Nat) (fv : Nat → Int32), (j ≤ 8) → (fv = kd_cs f2 f1 j) → (8 - j) < n_2 → ∀ (H : Heap) (locs : List Loc), va_P g.1 vwCl [(fa, .inl (g.2.1 0, 8, .inl f1)), (ta, .inl (g.2.1 0, 8, .inl fv))] H → va_D A [(fa, .inl (g.2.1 0, 8, .inl f1)), (ta, .inl (g.2.1 0, 8, .inl fv))] → va_S A s.heap H locs → ∀ (ls : Array Slot), lv_has ls 3 [(0, .ref fa), (1, .ref ta), (2, .int (nI j))] → W p l e ({ frames := 0, cells := 0, slots := 0, locals := 0 } : Room) s m ([.ref fa, .ref ta] : List Value).toArray below meth c H locs 0 0 (MQ below (va_Qv (fun (u : (Nat → Int32)) => u = kd_cs f2 f1 8) (fun u t => kd_post g A [(fa, .inl (g.2.1 0, 8, .inl f1)), (ta, .inl (g.2.1 0, 8, .inl u))] t) A) ([.ref fa, .ref ta] : List Value).toArray s 0 0 A) (F0 m 2 ls []) := by
    intro n_2
    induction n_2 with
    | zero => intro j fv _ _ hm_2; exact absurd hm_2 (Nat.not_lt_zero _)
    | succ n_2 ih_2 =>
      intro j fv hj hf hm_2 H locs hP hD hS ls hl
      refine lv_iload_n hx hb dX11_copy_2 rfl (lv_at hl 2 rfl) ?_
      refine lv_aload_n hx hb dX11_copy_3 rfl (lv_at hl 0 rfl) ?_
      refine va_alen hx hb hK hP 0 0 rfl rfl (v := 8) rfl dX11_copy_4 ?_
      refine lv_icmp_ge (tgt := 20) hx hb dX11_copy_5 (by decide) (fun c_5 => ?_) (fun c_5 => ?_)
      · have n_5 : 8 ≤ j := kd_ce (a := 8) (b := j) (by omega) (by omega) c_5
        exact kd_vret hx hb hr hlocks hK hS dX11_copy_20 (fv) (by rw [hf, show j = 8 by omega]) hP hD
      · have n_5 : j < 8 := kd_cne (a := 8) (b := j) (by omega) (by omega) c_5
        refine lv_aload_n hx hb dX11_copy_8 rfl (lv_at hl 1 rfl) ?_
        refine lv_iload_n hx hb dX11_copy_9 rfl (lv_at hl 2 rfl) ?_
        refine lv_aload_n hx hb dX11_copy_10 rfl (lv_at hl 0 rfl) ?_
        refine lv_iload_n hx hb dX11_copy_11 rfl (lv_at hl 2 rfl) ?_
        refine kd_iald hx hb hK hP 0 (k := j) rfl (by omega) (by decide) dX11_copy_12 ?_
        refine kd_iast hx hb hK hP hD hS 1 (k := j) rfl (by omega) (by decide) dX11_copy_13 (fun H locs hP hD hS => ?_)
        have hP : va_P g.1 vwCl [(fa, .inl (g.2.1 0, 8, .inl f1)), (ta, .inl (g.2.1 0, 8, .inl (upd fv j (f1 j))))] H := hP
        have hD : va_D A [(fa, .inl (g.2.1 0, 8, .inl f1)), (ta, .inl (g.2.1 0, 8, .inl (upd fv j (f1 j))))] := hD
        refine lv_iinc (v := nI (j + 1)) (lv' := [(2, .int (nI (j + 1))), (0, .ref fa), (1, .ref ta)]) hx hb dX11_copy_14 hl (k := 2) rfl (nI_1 _) (by decide) rfl (fun ls hl => ?_)
        refine lv_goto (tgt := 2) hx hb dX11_copy_17 (by decide) ?_
        exact ih_2 (j + 1) (upd fv j (f1 j)) (by omega) (by rw [hf]; rfl) (by omega) _ _ hP hD hS ls (lv_sub hl [1, 2, 0] rfl)
  exact loop_2 ((8 - 0) + 1) 0 f2 (by omega) rfl (Nat.lt_succ_self _) _ _ hP hD hS ls (lv_sub hl [1, 2, 0] rfl)
set_option maxHeartbeats 4000000 in
set_option maxRecDepth 100000 in
theorem c_mcopy_36 (l : Launch) (g : kd_G) (sz : Nat) (fa : Nat) (ta : Nat) (f1 : Nat → Int32) (f2 : Nat → Int32)  : kd_MV l yX11_copy wsX11_copy ({ frames := 0, cells := 0, slots := 0, locals := 0 }) [.ref fa, .ref ta] g [(fa, .inl (g.2.1 0, 36, .inl f1)), (ta, .inl (g.2.1 0, 36, .inl f2))] sz (fun (u : (Nat → Int32)) => u = kd_cs f2 f1 36) (fun u => [(fa, .inl (g.2.1 0, 36, .inl f1)), (ta, .inl (g.2.1 0, 36, .inl u))]) 0 0 := by
  refine kd_met (l := l) (y := yX11_copy) (ws := wsX11_copy) (rm := { frames := 0, cells := 0, slots := 0, locals := 0 }) (av := [.ref fa, .ref ta]) (g := g) (WS := [(fa, .inl (g.2.1 0, 36, .inl f1)), (ta, .inl (g.2.1 0, 36, .inl f2))]) (sz := sz) (mc := 0) (ms := 0) (cc := cX11_copy) (maxL := 3) (ret := none) (own := RX11) (fun A => va_Qv (fun (u : (Nat → Int32)) => u = kd_cs f2 f1 36) (fun u t => kd_post g A [(fa, .inl (g.2.1 0, 36, .inl f1)), (ta, .inl (g.2.1 0, 36, .inl u))] t) A) (by decide) rfl rfl (Nat.le_of_ble_eq_true rfl) ?_
  intro p e s m below meth c A ls hx hb hr hml hts hown hlocks hnm hA hP hK hD hS hE hl
  have hl : lv_has ls 3 [(0, .ref fa), (1, .ref ta)] := hl
  refine lv_iconst (v := 0) hx hb dX11_copy_0 (by decide) ?_
  refine lv_istore_n (lv' := [(2, .int 0), (0, .ref fa), (1, .ref ta)]) hx hb dX11_copy_1 rfl hl (by decide) rfl (fun ls hl => ?_)
  have loop_2 : ∀ (n_2 : Nat) (j : Nat) (fv : Nat → Int32), (j ≤ 36) → (fv = kd_cs f2 f1 j) → (36 - j) < n_2 → ∀ (H : Heap) (locs : List Loc), va_P g.1 vwCl [(fa, .inl (g.2.1 0, 36, .inl f1)), (ta, .inl (g.2.1 0, 36, .inl fv))] H → va_D A [(fa, .inl (g.2.1 0, 36, .inl f1)), (ta, .inl (g.2.1 0, 36, .inl fv))] → va_S A s.heap H locs → ∀ (ls : Array Slot), lv_has ls 3 [(0, .ref fa), (1, .ref ta), (2, .int (nI j))] → W p l e ({ frames := 0, cells := 0, slots := 0, locals := 0 } : Room) s m ([.ref fa, .ref ta] : List Value).toArray below meth c H locs 0 0 (MQ below (va_Qv (fun (u : (Nat → Int32)) => u = kd_cs f2 f1 36) (fun u t => kd_post g A [(fa, .inl (g.2.1 0, 36, .inl f1)), (ta, .inl (g.2.1 0, 36, .inl u))] t) A) ([.ref fa, .ref ta] : List Value).toArray s 0 0 A) (F0 m 2 ls []) := by
    intro n_2
    induction n_2 with
    | zero => intro j fv _ _ hm_2; exact absurd hm_2 (Nat.not_lt_zero _)
    | succ n_2 ih_2 =>
      intro j fv hj hf hm_2 H locs hP hD hS ls hl
      refine lv_iload_n hx hb dX11_copy_2 rfl (lv_at hl 2 rfl) ?_
      refine lv_aload_n hx hb dX11_copy_3 rfl (lv_at hl 0 rfl) ?_
      refine va_alen hx hb hK hP 0 0 rfl rfl (v := 36) rfl dX11_copy_4 ?_
      refine lv_icmp_ge (tgt := 20) hx hb dX11_copy_5 (by decide) (fun c_5 => ?_) (fun c_5 => ?_)
      · have n_5 : 36 ≤ j := kd_ce (a := 36) (b := j) (by omega) (by omega) c_5
        exact kd_vret hx hb hr hlocks hK hS dX11_copy_20 (fv) (by rw [hf, show j = 36 by omega]) hP hD
      · have n_5 : j < 36 := kd_cne (a := 36) (b := j) (by omega) (by omega) c_5
        refine lv_aload_n hx hb dX11_copy_8 rfl (lv_at hl 1 rfl) ?_
        refine lv_iload_n hx hb dX11_copy_9 rfl (lv_at hl 2 rfl) ?_
        refine lv_aload_n hx hb dX11_copy_10 rfl (lv_at hl 0 rfl) ?_
        refine lv_iload_n hx hb dX11_copy_11 rfl (lv_at hl 2 rfl) ?_
        refine kd_iald hx hb hK hP 0 (k := j) rfl (by omega) (by decide) dX11_copy_12 ?_
        refine kd_iast hx hb hK hP hD hS 1 (k := j) rfl (by omega) (by decide) dX11_copy_13 (fun H locs hP hD hS => ?_)
        have hP : va_P g.1 vwCl [(fa, .inl (g.2.1 0, 36, .inl f1)), (ta, .inl (g.2.1 0, 36, .inl (upd fv j (f1 j))))] H := hP
        have hD : va_D A [(fa, .inl (g.2.1 0, 36, .inl f1)), (ta, .inl (g.2.1 0, 36, .inl (upd fv j (f1 j))))] := hD
        refine lv_iinc (v := nI (j + 1)) (lv' := [(2, .int (nI (j + 1))), (0, .ref fa), (1, .ref ta)]) hx hb dX11_copy_14 hl (k := 2) rfl (nI_1 _) (by decide) rfl (fun ls hl => ?_)
        refine lv_goto (tgt := 2) hx hb dX11_copy_17 (by decide) ?_
        exact ih_2 (j + 1) (upd fv j (f1 j)) (by omega) (by rw [hf]; rfl) (by omega) _ _ hP hD hS ls (lv_sub hl [1, 2, 0] rfl)
  exact loop_2 ((36 - 0) + 1) 0 f2 (by omega) rfl (Nat.lt_succ_self _) _ _ hP hD hS ls (lv_sub hl [1, 2, 0] rfl)
def kd_cm : Nat → Int64 → Int64 → Int64
  | 0, a, _ => a
  | k + 1, a, b => if lg_cmp b 0 ≤ 0 then a else kd_cm k b (a - a / b * b)
theorem kd_cmdec {x y : Int64} (h : ¬ lg_cmp y 0 ≤ 0) : (x - x / y * y).toInt.toNat < y.toInt.toNat := by
  have hy : 0 < y.toInt := by
    have h1 : ¬ y ≤ 0 := fun q => h ((lg_cmp_le y 0).mpr q)
    rw [Int64.le_iff_toInt_le] at h1
    have e : (0 : Int64).toInt = 0 := by decide
    omega
  have hne : y ≠ -1 := fun q => by
    rw [q] at hy
    exact absurd hy (by decide)
  have hd := Int.mul_tdiv_add_tmod x.toInt y.toInt
  have h1 := Int.tmod_lt_of_pos x.toInt hy
  have h2 := Int.lt_tmod_of_pos x.toInt hy
  have h3 := Int64.toInt_lt y
  have e : (x - x / y * y).toInt = x.toInt.tmod y.toInt := by
    rw [Int64.toInt_sub, Int64.toInt_mul, Int64.toInt_div_of_ne_right x y hne, Int.sub_bmod_bmod, Int.mul_comm (x.toInt.tdiv y.toInt) y.toInt, show x.toInt - y.toInt * x.toInt.tdiv y.toInt = x.toInt.tmod y.toInt by omega]
    exact Int.bmod_eq_of_le_mul_two (by omega) (by omega)
  rw [e]
  omega
set_option maxHeartbeats 4000000 in
set_option maxRecDepth 100000 in
theorem c_X11_common (l : Launch) (g : kd_G) (sz : Nat) (a0 : Int64) (a1 : Int64)  : kd_ML l yX11_common wsX11_common ({ frames := 0, cells := 0, slots := 0, locals := 0 }) [.long a0, .long a1] g [] sz (fun r (_ : Unit) => r = kd_cm (a1.toInt.toNat + 1) a0 a1) (fun _ => []) 0 0 := by
  refine kd_met (l := l) (y := yX11_common) (ws := wsX11_common) (rm := { frames := 0, cells := 0, slots := 0, locals := 0 }) (av := [.long a0, .long a1]) (g := g) (WS := []) (sz := sz) (mc := 0) (ms := 0) (cc := cX11_common) (maxL := 10) (ret := (some .long)) (own := RX11) (fun A => va_Ql (fun r (_ : Unit) => r = kd_cm (a1.toInt.toNat + 1) a0 a1) (fun u t => kd_post g A [] t) A) (by decide) rfl rfl (Nat.le_of_ble_eq_true rfl) ?_
  intro p e s m below meth c A ls hx hb hr hml hts hown hlocks hnm hA hP hK hD hS hE hl
  have hl : lv_has ls 10 [(0, .long a0), (2, .long a1)] := hl
  refine lv_lload_n hx hb dX11_common_0 rfl (lv_at hl 0 rfl) ?_
  refine lv_lstore (lv' := [(4, .long a0), (0, .long a0), (2, .long a1)]) hx hb dX11_common_1 hl (by decide) rfl (fun ls hl => ?_)
  refine lv_lload_n hx hb dX11_common_3 rfl (lv_at hl 2 rfl) ?_
  refine lv_lstore (lv' := [(6, .long a1), (4, .long a0), (0, .long a0), (2, .long a1)]) hx hb dX11_common_4 hl (by decide) rfl (fun ls hl => ?_)
  have loop_6 : ∀ (n_6 : Nat) (k : Nat) (y : Int64) (z : Int64), (z.toInt.toNat ≤ k) → (kd_cm (a1.toInt.toNat + 1) a0 a1 = kd_cm (k + 1) y z) → (k) < n_6 → ∀ (H : Heap) (locs : List Loc), va_P g.1 vwCl [] H → va_D A [] → va_S A s.heap H locs → ∀ (ls : Array Slot), lv_has ls 10 [(0, .long a0), (2, .long a1), (4, .long y), (6, .long z)] → W p l e ({ frames := 0, cells := 0, slots := 0, locals := 0 } : Room) s m ([.long a0, .long a1] : List Value).toArray below meth c H locs 0 0 (MQ below (va_Ql (fun r (_ : Unit) => r = kd_cm (a1.toInt.toNat + 1) a0 a1) (fun u t => kd_post g A [] t) A) ([.long a0, .long a1] : List Value).toArray s 0 0 A) (F0 m 6 ls []) := by
    intro n_6
    induction n_6 with
    | zero => intro k y z _ _ hm_6; exact absurd hm_6 (Nat.not_lt_zero _)
    | succ n_6 ih_6 =>
      intro k y z hk hq hm_6 H locs hP hD hS ls hl
      refine lv_lload hx hb dX11_common_6 (lv_at hl 3 rfl) ?_
      refine lv_lconst (v := 0) hx hb dX11_common_8 (by decide) ?_
      refine W.lcmp hx hb dX11_common_9 ?_
      refine lv_if_le (tgt := 31) hx hb dX11_common_10 (by decide) (fun c_10 => ?_) (fun c_10 => ?_)
      · refine lv_lload hx hb dX11_common_31 (lv_at hl 2 rfl) ?_
        exact kd_lret hx hb hr hlocks hK hS dX11_common_33 (()) (by rw [hq, kd_cm, if_pos c_10]) hP hD
      · have hz0 := kd_cmdec (x := y) c_10
        obtain ⟨k, rfl⟩ : ∃ q, k = q + 1 := ⟨k - 1, by omega⟩
        refine lv_lload hx hb dX11_common_13 (lv_at hl 2 rfl) ?_
        refine lv_lload hx hb dX11_common_15 (lv_at hl 3 rfl) ?_
        refine lv_lrem hx hb dX11_common_17 (kd_lcl c_10) ?_
        refine lv_lstore (lv' := [(8, .long (y - y / z * z)), (0, .long a0), (2, .long a1), (4, .long y), (6, .long z)]) hx hb dX11_common_18 hl (by decide) rfl (fun ls hl => ?_)
        refine lv_lload hx hb dX11_common_20 (lv_at hl 4 rfl) ?_
        refine lv_lstore (lv' := [(4, .long z), (8, .long (y - y / z * z)), (0, .long a0), (2, .long a1), (6, .long z)]) hx hb dX11_common_22 hl (by decide) rfl (fun ls hl => ?_)
        refine lv_lload hx hb dX11_common_24 (lv_at hl 1 rfl) ?_
        refine lv_lstore (lv' := [(6, .long (y - y / z * z)), (4, .long z), (8, .long (y - y / z * z)), (0, .long a0), (2, .long a1)]) hx hb dX11_common_26 hl (by decide) rfl (fun ls hl => ?_)
        refine lv_goto (tgt := 6) hx hb dX11_common_28 (by decide) ?_
        exact ih_6 k z (y - y / z * z) (by have := kd_cmdec (x := y) c_10; omega) (by rw [hq, kd_cm, if_neg c_10]) (by omega) _ _ hP hD hS ls (lv_sub hl [3, 4, 1, 0] rfl)
  exact loop_6 (a1.toInt.toNat + 1) a1.toInt.toNat a0 a1 (Nat.le_refl _) rfl (Nat.lt_succ_self _) _ _ hP hD hS ls (lv_sub hl [2, 3, 1, 0] rfl)
/-- what KingdomAtDiceModel.letter answers and leaves, by its instructions -/
def sp_X11_letter (qn : Nat) (qf : Nat → Int32) (p0 : Int32) : Int32 × Nat × (Nat → Int32) :=
  if (sp_X11_in p0.toInt64 1 126) = 0 then
    ((-102), qn, qf)
  else
    if (nI qn) = 22 then
      ((-104), qn, qf)
    else
      (nI (qn + 1), qn + 1, upd qf qn p0)
set_option maxHeartbeats 4000000 in
set_option maxRecDepth 100000 in
theorem c_X11_letter (l : Launch) (g : kd_G) (sz : Nat) (mo : Nat) (mt : Nat) (mb : Nat) (mp : Nat) (qn : Nat) (mr : Nat) (rm : Nat) (rs : Int32) (mk : Nat) (zt : Nat) (T : Nat) (go : Int32) (th : Nat) (nh : Nat) (mw : Nat) (mc : Nat) (mn : Nat) (mx : Nat) (sm : Nat) (ms : Nat) (se : Int32) (mv : Nat) (kh : Int32) (kg : Int32) (kt : Nat) (ks : Nat) (mq : Nat) (mu : Nat) (hsh : Int64) (qf : Nat → Int32) (p0 : Int32) (hqn : qn ≤ 22) : kd_MI l yX11_letter wsX11_letter ({ frames := 1, cells := 0, slots := 0, locals := 25 }) [.ref mo, .int p0] g [(mo, .inr (11, [.ref mt, .ref mb, .ref mp, .int (nI qn), .ref mr, .int (nI rm), .int rs, .ref mk, .int (nI zt), .int (nI T), .int go, .int (nI th), .int (nI nh), .ref mw, .ref mc, .ref mn, .ref mx, .int (nI sm), .ref ms, .int se, .ref mv, .int kh, .int kg, .int (nI kt), .int (nI ks), .ref mq, .ref mu, .long hsh])), (mp, .inl (g.2.1 0, 22, .inl qf))] sz (fun r (u : Nat × (Nat → Int32)) => (r, u) = sp_X11_letter qn qf p0) (fun u => [(mo, .inr (11, [.ref mt, .ref mb, .ref mp, .int (nI u.1), .ref mr, .int (nI rm), .int rs, .ref mk, .int (nI zt), .int (nI T), .int go, .int (nI th), .int (nI nh), .ref mw, .ref mc, .ref mn, .ref mx, .int (nI sm), .ref ms, .int se, .ref mv, .int kh, .int kg, .int (nI kt), .int (nI ks), .ref mq, .ref mu, .long hsh])), (mp, .inl (g.2.1 0, 22, .inl u.2))]) 0 0 := by
  refine kd_met (l := l) (y := yX11_letter) (ws := wsX11_letter) (rm := { frames := 1, cells := 0, slots := 0, locals := 25 }) (av := [.ref mo, .int p0]) (g := g) (WS := [(mo, .inr (11, [.ref mt, .ref mb, .ref mp, .int (nI qn), .ref mr, .int (nI rm), .int rs, .ref mk, .int (nI zt), .int (nI T), .int go, .int (nI th), .int (nI nh), .ref mw, .ref mc, .ref mn, .ref mx, .int (nI sm), .ref ms, .int se, .ref mv, .int kh, .int kg, .int (nI kt), .int (nI ks), .ref mq, .ref mu, .long hsh])), (mp, .inl (g.2.1 0, 22, .inl qf))]) (sz := sz) (mc := 0) (ms := 0) (cc := cX11_letter) (maxL := 2) (ret := (some .int)) (own := RX11) (fun A => va_Qi (fun r (u : Nat × (Nat → Int32)) => (r, u) = sp_X11_letter qn qf p0) (fun u t => kd_post g A [(mo, .inr (11, [.ref mt, .ref mb, .ref mp, .int (nI u.1), .ref mr, .int (nI rm), .int rs, .ref mk, .int (nI zt), .int (nI T), .int go, .int (nI th), .int (nI nh), .ref mw, .ref mc, .ref mn, .ref mx, .int (nI sm), .ref ms, .int se, .ref mv, .int kh, .int kg, .int (nI kt), .int (nI ks), .ref mq, .ref mu, .long hsh])), (mp, .inl (g.2.1 0, 22, .inl u.2))] t) A) (by decide) rfl rfl (Nat.le_of_ble_eq_true rfl) ?_
  intro p e s m below meth c A ls hx hb hr hml hts hown hlocks hnm hA hP hK hD hS hE hl
  have hl : lv_has ls 2 [(0, .ref mo), (1, .int p0)] := hl
  have hiX11 : ∀ w ∈ u_ws RX11 TX11 28, w ∈ wsX11_letter := by decide +kernel
  refine lv_iload_n hx hb dX11_letter_0 rfl (lv_at hl 1 rfl) ?_
  refine lv_i2l hx hb dX11_letter_1 rfl ?_
  refine lv_lconst (v := 1) hx hb dX11_letter_2 (by decide) ?_
  refine lv_ldc2 (v := 126) hx hb hown (hts (.constantLong RX11 65 126) (by decide +kernel)) dX11_letter_3 ?_
  refine kd_callIK (g := g) (wc := []) (va_runS (mc := 0) (ms := 0) (rm := { frames := 0, cells := 0, slots := 0, locals := 0 }) (As := [.long p0.toInt64, .long 1, .long 126]) (rest := []) ⟨hx, hb, hml, hown, hts⟩ (c_X11_in l g s.heap.size p0.toInt64 1 126 ) (va_cwS 3 hts gX11_letter_X11_in rfl rfl rfl (by decide +kernel) ⟨Nat.le_of_ble_eq_true rfl, Nat.le_of_ble_eq_true rfl⟩) (kd_preS (wc := []) (av := [.long p0.toInt64, .long 1, .long 126]) hP hD hS hA hK hE [] rfl (by decide)) rfl rfl hl.1 rfl (lv_room (Nat.le_of_ble_eq_true rfl)) dX11_letter_6 ⟨Nat.le_of_ble_eq_true rfl, Nat.le_of_ble_eq_true rfl⟩) hP hD hS hA [] rfl (fun r_6 _ H locs hw hP hS => ?_)
  subst hw
  refine lv_if_ne (tgt := 15) hx hb dX11_letter_9 (by decide) (fun c_9 => ?_) (fun c_9 => ?_)
  · refine lv_aload_n hx hb dX11_letter_15 rfl (lv_at hl 0 rfl) ?_
    refine va_get (ci := 11) (v := .int (nI qn)) (C := RX11) (T := TX11) (N := 28) hx hb hts hiX11 hown hK hP (0) rfl rfl 3 (by decide) (hts (.fieldLink RX11 71 "KingdomAtDiceModel" "pageMany" "I") (by decide +kernel)) (fun _ h9 => h9) rfl dX11_letter_16 ?_
    refine lv_bipush (v := 22) hx hb dX11_letter_19 (by decide) ?_
    refine lv_icmp_ne (tgt := 27) hx hb dX11_letter_21 (by decide) (fun c_21 => ?_) (fun c_21 => ?_)
    · have n_21 : ¬ qn = 22 := kd_cnq (a := qn) (b := 22) (by omega) (by omega) c_21
      refine lv_aload_n hx hb dX11_letter_27 rfl (lv_at hl 0 rfl) ?_
      refine va_get (ci := 11) (v := .ref mp) (C := RX11) (T := TX11) (N := 28) hx hb hts hiX11 hown hK hP (0) rfl rfl 2 (by decide) (hts (.fieldLink RX11 16 "KingdomAtDiceModel" "page" "[I") (by decide +kernel)) (fun _ h9 => h9) rfl dX11_letter_28 ?_
      refine lv_aload_n hx hb dX11_letter_31 rfl (lv_at hl 0 rfl) ?_
      refine va_get (ci := 11) (v := .int (nI qn)) (C := RX11) (T := TX11) (N := 28) hx hb hts hiX11 hown hK hP (0) rfl rfl 3 (by decide) (hts (.fieldLink RX11 71 "KingdomAtDiceModel" "pageMany" "I") (by decide +kernel)) (fun _ h9 => h9) rfl dX11_letter_32 ?_
      refine lv_iload_n hx hb dX11_letter_35 rfl (lv_at hl 1 rfl) ?_
      refine kd_iast hx hb hK hP hD hS 1 (k := qn) rfl (by omega) (by decide) dX11_letter_36 (fun H locs hP hD hS => ?_)
      have hP : va_P g.1 vwCl [(mo, .inr (11, [.ref mt, .ref mb, .ref mp, .int (nI qn), .ref mr, .int (nI rm), .int rs, .ref mk, .int (nI zt), .int (nI T), .int go, .int (nI th), .int (nI nh), .ref mw, .ref mc, .ref mn, .ref mx, .int (nI sm), .ref ms, .int se, .ref mv, .int kh, .int kg, .int (nI kt), .int (nI ks), .ref mq, .ref mu, .long hsh])), (mp, .inl (g.2.1 0, 22, .inl (upd qf qn p0)))] H := hP
      have hD : va_D A [(mo, .inr (11, [.ref mt, .ref mb, .ref mp, .int (nI qn), .ref mr, .int (nI rm), .int rs, .ref mk, .int (nI zt), .int (nI T), .int go, .int (nI th), .int (nI nh), .ref mw, .ref mc, .ref mn, .ref mx, .int (nI sm), .ref ms, .int se, .ref mv, .int kh, .int kg, .int (nI kt), .int (nI ks), .ref mq, .ref mu, .long hsh])), (mp, .inl (g.2.1 0, 22, .inl (upd qf qn p0)))] := hD
      refine lv_aload_n hx hb dX11_letter_37 rfl (lv_at hl 0 rfl) ?_
      refine lv_dup hx hb dX11_letter_38 rfl ?_
      refine va_get (ci := 11) (v := .int (nI qn)) (C := RX11) (T := TX11) (N := 28) hx hb hts hiX11 hown hK hP (0) rfl rfl 3 (by decide) (hts (.fieldLink RX11 71 "KingdomAtDiceModel" "pageMany" "I") (by decide +kernel)) (fun _ h9 => h9) rfl dX11_letter_39 ?_
      refine lv_iconst (v := 1) hx hb dX11_letter_42 (by decide) ?_
      refine lv_iadd hx hb dX11_letter_43 ?_
      refine kd_top (nI_add qn 1) ?_
      refine va_put (ci := 11) (v := .int (nI (qn + 1))) (ty := .int) (C := RX11) (T := TX11) (N := 28) hx hb hts hiX11 tyX11 tyX11_ok nmX11 hown hK hP hD hS (0) rfl rfl 3 (by decide) (hts (.fieldLink RX11 71 "KingdomAtDiceModel" "pageMany" "I") (by decide +kernel)) (fun _ h9 => h9) rfl (by decide +kernel) rfl rfl (Nat.le_of_ble_eq_true rfl) dX11_letter_44 (fun H locs hP hD hS => ?_)
      have hP : va_P g.1 vwCl [(mo, .inr (11, [.ref mt, .ref mb, .ref mp, .int (nI (qn + 1)), .ref mr, .int (nI rm), .int rs, .ref mk, .int (nI zt), .int (nI T), .int go, .int (nI th), .int (nI nh), .ref mw, .ref mc, .ref mn, .ref mx, .int (nI sm), .ref ms, .int se, .ref mv, .int kh, .int kg, .int (nI kt), .int (nI ks), .ref mq, .ref mu, .long hsh])), (mp, .inl (g.2.1 0, 22, .inl (upd qf qn p0)))] H := hP
      have hD : va_D A [(mo, .inr (11, [.ref mt, .ref mb, .ref mp, .int (nI (qn + 1)), .ref mr, .int (nI rm), .int rs, .ref mk, .int (nI zt), .int (nI T), .int go, .int (nI th), .int (nI nh), .ref mw, .ref mc, .ref mn, .ref mx, .int (nI sm), .ref ms, .int se, .ref mv, .int kh, .int kg, .int (nI kt), .int (nI ks), .ref mq, .ref mu, .long hsh])), (mp, .inl (g.2.1 0, 22, .inl (upd qf qn p0)))] := hD
      refine lv_aload_n hx hb dX11_letter_47 rfl (lv_at hl 0 rfl) ?_
      refine va_get (ci := 11) (v := .int (nI (qn + 1))) (C := RX11) (T := TX11) (N := 28) hx hb hts hiX11 hown hK hP (0) rfl rfl 3 (by decide) (hts (.fieldLink RX11 71 "KingdomAtDiceModel" "pageMany" "I") (by decide +kernel)) (fun _ h9 => h9) rfl dX11_letter_48 ?_
      exact kd_iret hx hb hr hlocks hK hS dX11_letter_51 ((qn + 1, upd qf qn p0)) (by rw [sp_X11_letter, if_neg c_9, if_neg c_21]) hP hD
    · have n_21 : qn = 22 := kd_cq (a := qn) (b := 22) (by omega) (by omega) c_21
      refine lv_bipush (v := (-104)) hx hb dX11_letter_24 (by decide) ?_
      exact kd_iret hx hb hr hlocks hK hS dX11_letter_26 ((qn, qf)) (by rw [sp_X11_letter, if_neg c_9, if_pos c_21]) hP hD
  · refine lv_bipush (v := (-102)) hx hb dX11_letter_12 (by decide) ?_
    exact kd_iret hx hb hr hlocks hK hS dX11_letter_14 ((qn, qf)) (by rw [sp_X11_letter, if_pos c_9]) hP hD
/-- what KingdomAtDiceModel.blank answers and leaves, by its instructions -/
def sp_X11_blank (qn : Nat) : Int32 × Nat :=
  (nI qn, 0)
set_option maxHeartbeats 4000000 in
set_option maxRecDepth 100000 in
theorem c_X11_blank (l : Launch) (g : kd_G) (sz : Nat) (mo : Nat) (mt : Nat) (mb : Nat) (mp : Nat) (qn : Nat) (mr : Nat) (rm : Nat) (rs : Int32) (mk : Nat) (zt : Nat) (T : Nat) (go : Int32) (th : Nat) (nh : Nat) (mw : Nat) (mc : Nat) (mn : Nat) (mx : Nat) (sm : Nat) (ms : Nat) (se : Int32) (mv : Nat) (kh : Int32) (kg : Int32) (kt : Nat) (ks : Nat) (mq : Nat) (mu : Nat) (hsh : Int64)  : kd_MI l yX11_blank wsX11_blank ({ frames := 0, cells := 0, slots := 0, locals := 0 }) [.ref mo] g [(mo, .inr (11, [.ref mt, .ref mb, .ref mp, .int (nI qn), .ref mr, .int (nI rm), .int rs, .ref mk, .int (nI zt), .int (nI T), .int go, .int (nI th), .int (nI nh), .ref mw, .ref mc, .ref mn, .ref mx, .int (nI sm), .ref ms, .int se, .ref mv, .int kh, .int kg, .int (nI kt), .int (nI ks), .ref mq, .ref mu, .long hsh]))] sz (fun r (u : Nat) => (r, u) = sp_X11_blank qn) (fun u => [(mo, .inr (11, [.ref mt, .ref mb, .ref mp, .int (nI u), .ref mr, .int (nI rm), .int rs, .ref mk, .int (nI zt), .int (nI T), .int go, .int (nI th), .int (nI nh), .ref mw, .ref mc, .ref mn, .ref mx, .int (nI sm), .ref ms, .int se, .ref mv, .int kh, .int kg, .int (nI kt), .int (nI ks), .ref mq, .ref mu, .long hsh]))]) 0 0 := by
  refine kd_met (l := l) (y := yX11_blank) (ws := wsX11_blank) (rm := { frames := 0, cells := 0, slots := 0, locals := 0 }) (av := [.ref mo]) (g := g) (WS := [(mo, .inr (11, [.ref mt, .ref mb, .ref mp, .int (nI qn), .ref mr, .int (nI rm), .int rs, .ref mk, .int (nI zt), .int (nI T), .int go, .int (nI th), .int (nI nh), .ref mw, .ref mc, .ref mn, .ref mx, .int (nI sm), .ref ms, .int se, .ref mv, .int kh, .int kg, .int (nI kt), .int (nI ks), .ref mq, .ref mu, .long hsh]))]) (sz := sz) (mc := 0) (ms := 0) (cc := cX11_blank) (maxL := 2) (ret := (some .int)) (own := RX11) (fun A => va_Qi (fun r (u : Nat) => (r, u) = sp_X11_blank qn) (fun u t => kd_post g A [(mo, .inr (11, [.ref mt, .ref mb, .ref mp, .int (nI u), .ref mr, .int (nI rm), .int rs, .ref mk, .int (nI zt), .int (nI T), .int go, .int (nI th), .int (nI nh), .ref mw, .ref mc, .ref mn, .ref mx, .int (nI sm), .ref ms, .int se, .ref mv, .int kh, .int kg, .int (nI kt), .int (nI ks), .ref mq, .ref mu, .long hsh]))] t) A) (by decide) rfl rfl (Nat.le_of_ble_eq_true rfl) ?_
  intro p e s m below meth c A ls hx hb hr hml hts hown hlocks hnm hA hP hK hD hS hE hl
  have hl : lv_has ls 2 [(0, .ref mo)] := hl
  have hiX11 : ∀ w ∈ u_ws RX11 TX11 28, w ∈ wsX11_blank := by decide +kernel
  refine lv_aload_n hx hb dX11_blank_0 rfl (lv_at hl 0 rfl) ?_
  refine va_get (ci := 11) (v := .int (nI qn)) (C := RX11) (T := TX11) (N := 28) hx hb hts hiX11 hown hK hP (0) rfl rfl 3 (by decide) (hts (.fieldLink RX11 71 "KingdomAtDiceModel" "pageMany" "I") (by decide +kernel)) (fun _ h9 => h9) rfl dX11_blank_1 ?_
  refine lv_istore_n (lv' := [(1, .int (nI qn)), (0, .ref mo)]) hx hb dX11_blank_4 rfl hl (by decide) rfl (fun ls hl => ?_)
  refine lv_aload_n hx hb dX11_blank_5 rfl (lv_at hl 1 rfl) ?_
  refine lv_iconst (v := 0) hx hb dX11_blank_6 (by decide) ?_
  refine va_put (ci := 11) (v := .int 0) (ty := .int) (C := RX11) (T := TX11) (N := 28) hx hb hts hiX11 tyX11 tyX11_ok nmX11 hown hK hP hD hS (0) rfl rfl 3 (by decide) (hts (.fieldLink RX11 71 "KingdomAtDiceModel" "pageMany" "I") (by decide +kernel)) (fun _ h9 => h9) rfl (by decide +kernel) rfl rfl (Nat.le_of_ble_eq_true rfl) dX11_blank_7 (fun H locs hP hD hS => ?_)
  have hP : va_P g.1 vwCl [(mo, .inr (11, [.ref mt, .ref mb, .ref mp, .int 0, .ref mr, .int (nI rm), .int rs, .ref mk, .int (nI zt), .int (nI T), .int go, .int (nI th), .int (nI nh), .ref mw, .ref mc, .ref mn, .ref mx, .int (nI sm), .ref ms, .int se, .ref mv, .int kh, .int kg, .int (nI kt), .int (nI ks), .ref mq, .ref mu, .long hsh]))] H := hP
  have hD : va_D A [(mo, .inr (11, [.ref mt, .ref mb, .ref mp, .int 0, .ref mr, .int (nI rm), .int rs, .ref mk, .int (nI zt), .int (nI T), .int go, .int (nI th), .int (nI nh), .ref mw, .ref mc, .ref mn, .ref mx, .int (nI sm), .ref ms, .int se, .ref mv, .int kh, .int kg, .int (nI kt), .int (nI ks), .ref mq, .ref mu, .long hsh]))] := hD
  refine lv_iload_n hx hb dX11_blank_10 rfl (lv_at hl 0 rfl) ?_
  exact kd_iret hx hb hr hlocks hK hS dX11_blank_11 (0) (rfl) hP hD

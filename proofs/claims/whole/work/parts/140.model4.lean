theorem kd_isOne {T : Nat} {x : Int32} (h : ¬ sp_X11_isOne T x = 0) : x = nI x.toNatClampNeg ∧ x.toNatClampNeg < 2 := by
  unfold sp_X11_isOne at h
  split at h
  · split at h
    · exact absurd rfl h
    · rename_i h2
      exact (kd_inI (n := 1) h2 (by decide) (by decide)).imp id (by omega)
  · exact absurd rfl h
theorem kd_inS {x : Int32} (h : ¬ sp_X11_in x.toInt64 2 12 = 0) : x = nI x.toNatClampNeg ∧ 2 ≤ x.toNatClampNeg ∧ x.toNatClampNeg ≤ 12 := by
  obtain ⟨h1, h2⟩ := kd_in h
  rw [Int64.le_iff_toInt_le, Int32.toInt_toInt64] at h1 h2
  have e2 : (2 : Int64).toInt = 2 := by decide
  have e12 : (12 : Int64).toInt = 12 := by decide
  rw [e2] at h1
  rw [e12] at h2
  have hx : ¬ x < 0 := fun q => by
    have := Int32.lt_iff_toInt_lt.mp q
    have e : (0 : Int32).toInt = 0 := by decide
    omega
  obtain ⟨j, hj, rfl⟩ := nI_of hx
  rw [nI_clamp hj]
  rw [nI_toInt hj] at h1 h2
  exact ⟨rfl, by omega, by omega⟩
/-- what KingdomAtDiceModel.tellDice answers and leaves, by its instructions -/
def sp_X11_tellDice (tf : Nat → Int32) (bf : Nat → Int32) (w : Nat) (p1 : Int32) (kv : Nat → Nat) : Int32 :=
  if p1 = 0 then
    nI (kv w)
  else
    if p1 = 1 then
      2 * (sp_X11_leastOf (nI (kv w)))
    else
      if p1 = 2 then
        2 * (sp_X11_mostOf (nI (kv w)))
      else
        if p1 = 3 then
          kd_aw tf bf (kv w) 11
        else
          (-102)
set_option maxHeartbeats 4000000 in
set_option maxRecDepth 100000 in
theorem c_X11_tellDice (l : Launch) (g : kd_G) (sz : Nat) (mo : Nat) (mt : Nat) (mb : Nat) (mp : Nat) (qn : Nat) (mr : Nat) (rm : Nat) (rs : Int32) (mk : Nat) (zt : Nat) (T : Nat) (go : Int32) (th : Nat) (nh : Nat) (mw : Nat) (mc : Nat) (mn : Nat) (mx : Nat) (sm : Nat) (ms : Nat) (se : Int32) (mv : Nat) (kh : Int32) (kg : Int32) (kt : Nat) (ks : Nat) (mq : Nat) (mu : Nat) (hsh : Int64) (tf : Nat → Int32) (bf : Nat → Int32) (kf : Nat → Int32) (w : Nat) (p1 : Int32) (kv : Nat → Nat) (hkf : ∀ w, w < 2 → kf w = nI (kv w)) (hkv : ∀ w, w < 2 → kv w < 5) (hw2 : w < 2) : kd_MI l yX11_tellDice wsX11_tellDice ({ frames := 2, cells := 0, slots := 0, locals := 45 }) [.ref mo, .int (nI w), .int p1] g [(mo, .inr (11, [.ref mt, .ref mb, .ref mp, .int (nI qn), .ref mr, .int (nI rm), .int rs, .ref mk, .int (nI zt), .int (nI T), .int go, .int (nI th), .int (nI nh), .ref mw, .ref mc, .ref mn, .ref mx, .int (nI sm), .ref ms, .int se, .ref mv, .int kh, .int kg, .int (nI kt), .int (nI ks), .ref mq, .ref mu, .long hsh])), (mt, .inl (g.2.1 0, 64, .inl tf)), (mb, .inl (g.2.1 0, 13, .inl bf)), (mc, .inl (g.2.1 0, 2, .inl kf))] sz (fun r (_ : Unit) => r = sp_X11_tellDice tf bf w p1 kv) (fun _ => [(mo, .inr (11, [.ref mt, .ref mb, .ref mp, .int (nI qn), .ref mr, .int (nI rm), .int rs, .ref mk, .int (nI zt), .int (nI T), .int go, .int (nI th), .int (nI nh), .ref mw, .ref mc, .ref mn, .ref mx, .int (nI sm), .ref ms, .int se, .ref mv, .int kh, .int kg, .int (nI kt), .int (nI ks), .ref mq, .ref mu, .long hsh])), (mt, .inl (g.2.1 0, 64, .inl tf)), (mb, .inl (g.2.1 0, 13, .inl bf)), (mc, .inl (g.2.1 0, 2, .inl kf))]) 0 0 := by
  refine kd_met (l := l) (y := yX11_tellDice) (ws := wsX11_tellDice) (rm := { frames := 2, cells := 0, slots := 0, locals := 45 }) (av := [.ref mo, .int (nI w), .int p1]) (g := g) (WS := [(mo, .inr (11, [.ref mt, .ref mb, .ref mp, .int (nI qn), .ref mr, .int (nI rm), .int rs, .ref mk, .int (nI zt), .int (nI T), .int go, .int (nI th), .int (nI nh), .ref mw, .ref mc, .ref mn, .ref mx, .int (nI sm), .ref ms, .int se, .ref mv, .int kh, .int kg, .int (nI kt), .int (nI ks), .ref mq, .ref mu, .long hsh])), (mt, .inl (g.2.1 0, 64, .inl tf)), (mb, .inl (g.2.1 0, 13, .inl bf)), (mc, .inl (g.2.1 0, 2, .inl kf))]) (sz := sz) (mc := 0) (ms := 0) (cc := cX11_tellDice) (maxL := 4) (ret := (some .int)) (own := RX11) (fun A => va_Qi (fun r (_ : Unit) => r = sp_X11_tellDice tf bf w p1 kv) (fun u t => kd_post g A [(mo, .inr (11, [.ref mt, .ref mb, .ref mp, .int (nI qn), .ref mr, .int (nI rm), .int rs, .ref mk, .int (nI zt), .int (nI T), .int go, .int (nI th), .int (nI nh), .ref mw, .ref mc, .ref mn, .ref mx, .int (nI sm), .ref ms, .int se, .ref mv, .int kh, .int kg, .int (nI kt), .int (nI ks), .ref mq, .ref mu, .long hsh])), (mt, .inl (g.2.1 0, 64, .inl tf)), (mb, .inl (g.2.1 0, 13, .inl bf)), (mc, .inl (g.2.1 0, 2, .inl kf))] t) A) (by decide) rfl rfl (Nat.le_of_ble_eq_true rfl) ?_
  intro p e s m below meth c A ls hx hb hr hml hts hown hlocks hnm hA hP hK hD hS hE hl
  have hl : lv_has ls 4 [(0, .ref mo), (1, .int (nI w)), (2, .int p1)] := hl
  have hiX11 : ∀ w ∈ u_ws RX11 TX11 28, w ∈ wsX11_tellDice := by decide +kernel
  refine lv_aload_n hx hb dX11_tellDice_0 rfl (lv_at hl 0 rfl) ?_
  refine va_get (ci := 11) (v := .ref mc) (C := RX11) (T := TX11) (N := 28) hx hb hts hiX11 hown hK hP (0) rfl rfl 14 (by decide) (hts (.fieldLink RX11 28 "KingdomAtDiceModel" "kinds" "[I") (by decide +kernel)) (fun _ h9 => h9) rfl dX11_tellDice_1 ?_
  refine lv_iload_n hx hb dX11_tellDice_4 rfl (lv_at hl 1 rfl) ?_
  refine kd_iald hx hb hK hP 3 (k := w) rfl (by omega) (by decide) dX11_tellDice_5 ?_
  refine kd_top (y := nI (kv w)) (hkf w hw2) ?_
  refine lv_istore_n (lv' := [(3, .int (nI (kv w))), (0, .ref mo), (1, .int (nI w)), (2, .int p1)]) hx hb dX11_tellDice_6 rfl hl (by decide) rfl (fun ls hl => ?_)
  refine lv_iload_n hx hb dX11_tellDice_7 rfl (lv_at hl 3 rfl) ?_
  refine lv_if_ne (tgt := 15) hx hb dX11_tellDice_8 (by decide) (fun c_8 => ?_) (fun c_8 => ?_)
  · refine lv_iload_n hx hb dX11_tellDice_15 rfl (lv_at hl 3 rfl) ?_
    refine lv_iconst (v := 1) hx hb dX11_tellDice_16 (by decide) ?_
    refine lv_icmp_ne (tgt := 29) hx hb dX11_tellDice_17 (by decide) (fun c_17 => ?_) (fun c_17 => ?_)
    · refine lv_iload_n hx hb dX11_tellDice_29 rfl (lv_at hl 3 rfl) ?_
      refine lv_iconst (v := 2) hx hb dX11_tellDice_30 (by decide) ?_
      refine lv_icmp_ne (tgt := 43) hx hb dX11_tellDice_31 (by decide) (fun c_31 => ?_) (fun c_31 => ?_)
      · refine lv_iload_n hx hb dX11_tellDice_43 rfl (lv_at hl 3 rfl) ?_
        refine lv_iconst (v := 3) hx hb dX11_tellDice_44 (by decide) ?_
        refine lv_icmp_ne (tgt := 56) hx hb dX11_tellDice_45 (by decide) (fun c_45 => ?_) (fun c_45 => ?_)
        · refine lv_bipush (v := (-102)) hx hb dX11_tellDice_56 (by decide) ?_
          exact kd_iret hx hb hr hlocks hK hS dX11_tellDice_58 (()) (by rw [sp_X11_tellDice, if_neg c_8, if_neg c_17, if_neg c_31, if_neg c_45]) hP hD
        · refine lv_aload_n hx hb dX11_tellDice_48 rfl (lv_at hl 1 rfl) ?_
          refine lv_iload_n hx hb dX11_tellDice_49 rfl (lv_at hl 0 rfl) ?_
          refine kd_callIK (g := g) (wc := [(mo, .inr (11, [.ref mt, .ref mb, .ref mp, .int (nI qn), .ref mr, .int (nI rm), .int rs, .ref mk, .int (nI zt), .int (nI T), .int go, .int (nI th), .int (nI nh), .ref mw, .ref mc, .ref mn, .ref mx, .int (nI sm), .ref ms, .int se, .ref mv, .int kh, .int kg, .int (nI kt), .int (nI ks), .ref mq, .ref mu, .long hsh])), (mt, .inl (g.2.1 0, 64, .inl tf)), (mb, .inl (g.2.1 0, 13, .inl bf))]) (va_runV (mc := 0) (ms := 0) (rm := { frames := 1, cells := 0, slots := 0, locals := 22 }) (As := [.int (nI (kv w))]) (rest := []) ⟨hx, hb, hml, hown, hts⟩ (c_X11_allWays l g s.heap.size mo mt mb mp qn mr rm rs mk zt T go th nh mw mc mn mx sm ms se mv kh kg kt ks mq mu hsh tf bf (kv w) (hkv w hw2)) (cwV 1 hts gX11_tellDice_X11_allWays rfl rfl rfl (by decide +kernel) ⟨Nat.le_of_ble_eq_true rfl, Nat.le_of_ble_eq_true rfl⟩) (kd_preV (wc := [(mo, .inr (11, [.ref mt, .ref mb, .ref mp, .int (nI qn), .ref mr, .int (nI rm), .int rs, .ref mk, .int (nI zt), .int (nI T), .int go, .int (nI th), .int (nI nh), .ref mw, .ref mc, .ref mn, .ref mx, .int (nI sm), .ref ms, .int se, .ref mv, .int kh, .int kg, .int (nI kt), .int (nI ks), .ref mq, .ref mu, .long hsh])), (mt, .inl (g.2.1 0, 64, .inl tf)), (mb, .inl (g.2.1 0, 13, .inl bf))]) (va_recv hK hP (ci := 11) (q0 := 0) rfl rfl) hP hD hS hA hK hE [0, 1, 2] rfl (by decide)) rfl rfl hl.1 rfl (lv_room (Nat.le_of_ble_eq_true rfl)) dX11_tellDice_50 ⟨Nat.le_of_ble_eq_true rfl, Nat.le_of_ble_eq_true rfl⟩) hP hD hS hA [0, 1, 2] rfl (fun r_50 _ H locs hw hP hS => ?_)
          subst hw
          refine lv_goto (tgt := 58) hx hb dX11_tellDice_53 (by decide) ?_
          exact kd_iret hx hb hr hlocks hK hS dX11_tellDice_58 (()) (by rw [sp_X11_tellDice, if_neg c_8, if_neg c_17, if_neg c_31, if_pos c_45]) hP hD
      · refine lv_iconst (v := 2) hx hb dX11_tellDice_34 (by decide) ?_
        refine lv_iload_n hx hb dX11_tellDice_35 rfl (lv_at hl 0 rfl) ?_
        refine kd_callIK (g := g) (wc := []) (va_runS (mc := 0) (ms := 0) (rm := { frames := 0, cells := 0, slots := 0, locals := 0 }) (As := [.int (nI (kv w))]) (rest := [.int 2]) ⟨hx, hb, hml, hown, hts⟩ (c_X11_mostOf l g s.heap.size (nI (kv w)) ) (va_cwS 1 hts gX11_tellDice_X11_mostOf rfl rfl rfl (by decide +kernel) ⟨Nat.le_of_ble_eq_true rfl, Nat.le_of_ble_eq_true rfl⟩) (kd_preS (wc := []) (av := [.int (nI (kv w))]) hP hD hS hA hK hE [] rfl (by decide)) rfl rfl hl.1 rfl (lv_room (Nat.le_of_ble_eq_true rfl)) dX11_tellDice_36 ⟨Nat.le_of_ble_eq_true rfl, Nat.le_of_ble_eq_true rfl⟩) hP hD hS hA [] rfl (fun r_36 _ H locs hw hP hS => ?_)
        subst hw
        refine lv_imul hx hb dX11_tellDice_39 ?_
        refine lv_goto (tgt := 58) hx hb dX11_tellDice_40 (by decide) ?_
        exact kd_iret hx hb hr hlocks hK hS dX11_tellDice_58 (()) (by rw [sp_X11_tellDice, if_neg c_8, if_neg c_17, if_pos c_31]) hP hD
    · refine lv_iconst (v := 2) hx hb dX11_tellDice_20 (by decide) ?_
      refine lv_iload_n hx hb dX11_tellDice_21 rfl (lv_at hl 0 rfl) ?_
      refine kd_callIK (g := g) (wc := []) (va_runS (mc := 0) (ms := 0) (rm := { frames := 0, cells := 0, slots := 0, locals := 0 }) (As := [.int (nI (kv w))]) (rest := [.int 2]) ⟨hx, hb, hml, hown, hts⟩ (c_X11_leastOf l g s.heap.size (nI (kv w)) ) (va_cwS 1 hts gX11_tellDice_X11_leastOf rfl rfl rfl (by decide +kernel) ⟨Nat.le_of_ble_eq_true rfl, Nat.le_of_ble_eq_true rfl⟩) (kd_preS (wc := []) (av := [.int (nI (kv w))]) hP hD hS hA hK hE [] rfl (by decide)) rfl rfl hl.1 rfl (lv_room (Nat.le_of_ble_eq_true rfl)) dX11_tellDice_22 ⟨Nat.le_of_ble_eq_true rfl, Nat.le_of_ble_eq_true rfl⟩) hP hD hS hA [] rfl (fun r_22 _ H locs hw hP hS => ?_)
      subst hw
      refine lv_imul hx hb dX11_tellDice_25 ?_
      refine lv_goto (tgt := 58) hx hb dX11_tellDice_26 (by decide) ?_
      exact kd_iret hx hb hr hlocks hK hS dX11_tellDice_58 (()) (by rw [sp_X11_tellDice, if_neg c_8, if_pos c_17]) hP hD
  · refine lv_iload_n hx hb dX11_tellDice_11 rfl (lv_at hl 0 rfl) ?_
    refine lv_goto (tgt := 58) hx hb dX11_tellDice_12 (by decide) ?_
    exact kd_iret hx hb hr hlocks hK hS dX11_tellDice_58 (()) (by rw [sp_X11_tellDice, if_pos c_8]) hP hD
/-- what KingdomAtDiceModel.dice answers and leaves, by its instructions -/
def sp_X11_dice (T : Nat) (tf : Nat → Int32) (bf : Nat → Int32) (p0 : Int32) (p1 : Int32) (kv : Nat → Nat) : Int32 :=
  if (sp_X11_isOne T p0) = 0 then
    (-101)
  else
    sp_X11_tellDice tf bf p0.toNatClampNeg p1 kv
set_option maxHeartbeats 4000000 in
set_option maxRecDepth 100000 in
theorem c_X11_dice (l : Launch) (g : kd_G) (sz : Nat) (mo : Nat) (mt : Nat) (mb : Nat) (mp : Nat) (qn : Nat) (mr : Nat) (rm : Nat) (rs : Int32) (mk : Nat) (zt : Nat) (T : Nat) (go : Int32) (th : Nat) (nh : Nat) (mw : Nat) (mc : Nat) (mn : Nat) (mx : Nat) (sm : Nat) (ms : Nat) (se : Int32) (mv : Nat) (kh : Int32) (kg : Int32) (kt : Nat) (ks : Nat) (mq : Nat) (mu : Nat) (hsh : Int64) (tf : Nat → Int32) (bf : Nat → Int32) (kf : Nat → Int32) (p0 : Int32) (p1 : Int32) (kv : Nat → Nat) (hkf : ∀ w, w < 2 → kf w = nI (kv w)) (hkv : ∀ w, w < 2 → kv w < 5) (hT : T ≤ 6) : kd_MI l yX11_dice wsX11_dice ({ frames := 3, cells := 0, slots := 0, locals := 68 }) [.ref mo, .int p0, .int p1] g [(mo, .inr (11, [.ref mt, .ref mb, .ref mp, .int (nI qn), .ref mr, .int (nI rm), .int rs, .ref mk, .int (nI zt), .int (nI T), .int go, .int (nI th), .int (nI nh), .ref mw, .ref mc, .ref mn, .ref mx, .int (nI sm), .ref ms, .int se, .ref mv, .int kh, .int kg, .int (nI kt), .int (nI ks), .ref mq, .ref mu, .long hsh])), (mt, .inl (g.2.1 0, 64, .inl tf)), (mb, .inl (g.2.1 0, 13, .inl bf)), (mc, .inl (g.2.1 0, 2, .inl kf))] sz (fun r (_ : Unit) => r = sp_X11_dice T tf bf p0 p1 kv) (fun _ => [(mo, .inr (11, [.ref mt, .ref mb, .ref mp, .int (nI qn), .ref mr, .int (nI rm), .int rs, .ref mk, .int (nI zt), .int (nI T), .int go, .int (nI th), .int (nI nh), .ref mw, .ref mc, .ref mn, .ref mx, .int (nI sm), .ref ms, .int se, .ref mv, .int kh, .int kg, .int (nI kt), .int (nI ks), .ref mq, .ref mu, .long hsh])), (mt, .inl (g.2.1 0, 64, .inl tf)), (mb, .inl (g.2.1 0, 13, .inl bf)), (mc, .inl (g.2.1 0, 2, .inl kf))]) 0 0 := by
  refine kd_met (l := l) (y := yX11_dice) (ws := wsX11_dice) (rm := { frames := 3, cells := 0, slots := 0, locals := 68 }) (av := [.ref mo, .int p0, .int p1]) (g := g) (WS := [(mo, .inr (11, [.ref mt, .ref mb, .ref mp, .int (nI qn), .ref mr, .int (nI rm), .int rs, .ref mk, .int (nI zt), .int (nI T), .int go, .int (nI th), .int (nI nh), .ref mw, .ref mc, .ref mn, .ref mx, .int (nI sm), .ref ms, .int se, .ref mv, .int kh, .int kg, .int (nI kt), .int (nI ks), .ref mq, .ref mu, .long hsh])), (mt, .inl (g.2.1 0, 64, .inl tf)), (mb, .inl (g.2.1 0, 13, .inl bf)), (mc, .inl (g.2.1 0, 2, .inl kf))]) (sz := sz) (mc := 0) (ms := 0) (cc := cX11_dice) (maxL := 3) (ret := (some .int)) (own := RX11) (fun A => va_Qi (fun r (_ : Unit) => r = sp_X11_dice T tf bf p0 p1 kv) (fun u t => kd_post g A [(mo, .inr (11, [.ref mt, .ref mb, .ref mp, .int (nI qn), .ref mr, .int (nI rm), .int rs, .ref mk, .int (nI zt), .int (nI T), .int go, .int (nI th), .int (nI nh), .ref mw, .ref mc, .ref mn, .ref mx, .int (nI sm), .ref ms, .int se, .ref mv, .int kh, .int kg, .int (nI kt), .int (nI ks), .ref mq, .ref mu, .long hsh])), (mt, .inl (g.2.1 0, 64, .inl tf)), (mb, .inl (g.2.1 0, 13, .inl bf)), (mc, .inl (g.2.1 0, 2, .inl kf))] t) A) (by decide) rfl rfl (Nat.le_of_ble_eq_true rfl) ?_
  intro p e s m below meth c A ls hx hb hr hml hts hown hlocks hnm hA hP hK hD hS hE hl
  have hl : lv_has ls 3 [(0, .ref mo), (1, .int p0), (2, .int p1)] := hl
  refine lv_aload_n hx hb dX11_dice_0 rfl (lv_at hl 0 rfl) ?_
  refine lv_iload_n hx hb dX11_dice_1 rfl (lv_at hl 1 rfl) ?_
  refine kd_callIK (g := g) (wc := [(mo, .inr (11, [.ref mt, .ref mb, .ref mp, .int (nI qn), .ref mr, .int (nI rm), .int rs, .ref mk, .int (nI zt), .int (nI T), .int go, .int (nI th), .int (nI nh), .ref mw, .ref mc, .ref mn, .ref mx, .int (nI sm), .ref ms, .int se, .ref mv, .int kh, .int kg, .int (nI kt), .int (nI ks), .ref mq, .ref mu, .long hsh]))]) (va_runV (mc := 0) (ms := 0) (rm := { frames := 1, cells := 0, slots := 0, locals := 25 }) (As := [.int p0]) (rest := []) ⟨hx, hb, hml, hown, hts⟩ (c_X11_isOne l g s.heap.size mo mt mb mp qn mr rm rs mk zt T go th nh mw mc mn mx sm ms se mv kh kg kt ks mq mu hsh p0 hT) (cwV 1 hts gX11_dice_X11_isOne rfl rfl rfl (by decide +kernel) ⟨Nat.le_of_ble_eq_true rfl, Nat.le_of_ble_eq_true rfl⟩) (kd_preV (wc := [(mo, .inr (11, [.ref mt, .ref mb, .ref mp, .int (nI qn), .ref mr, .int (nI rm), .int rs, .ref mk, .int (nI zt), .int (nI T), .int go, .int (nI th), .int (nI nh), .ref mw, .ref mc, .ref mn, .ref mx, .int (nI sm), .ref ms, .int se, .ref mv, .int kh, .int kg, .int (nI kt), .int (nI ks), .ref mq, .ref mu, .long hsh]))]) (va_recv hK hP (ci := 11) (q0 := 0) rfl rfl) hP hD hS hA hK hE [0] rfl (by decide)) rfl rfl hl.1 rfl (lv_room (Nat.le_of_ble_eq_true rfl)) dX11_dice_2 ⟨Nat.le_of_ble_eq_true rfl, Nat.le_of_ble_eq_true rfl⟩) hP hD hS hA [0] rfl (fun r_2 _ H locs hw hP hS => ?_)
  subst hw
  refine lv_if_eq (tgt := 17) hx hb dX11_dice_5 (by decide) (fun c_5 => ?_) (fun c_5 => ?_)
  · refine lv_bipush (v := (-101)) hx hb dX11_dice_17 (by decide) ?_
    exact kd_iret hx hb hr hlocks hK hS dX11_dice_19 (()) (by rw [sp_X11_dice, if_pos c_5]) hP hD
  · obtain ⟨hp0, hq0⟩ := kd_isOne c_5
    refine lv_aload_n hx hb dX11_dice_8 rfl (lv_at hl 0 rfl) ?_
    refine lv_iload_n hx hb dX11_dice_9 rfl (lv_at hl 1 rfl) ?_
    refine kd_top (y := nI p0.toNatClampNeg) (hp0) ?_
    refine lv_iload_n hx hb dX11_dice_10 rfl (lv_at hl 2 rfl) ?_
    refine kd_callIK (g := g) (wc := [(mo, .inr (11, [.ref mt, .ref mb, .ref mp, .int (nI qn), .ref mr, .int (nI rm), .int rs, .ref mk, .int (nI zt), .int (nI T), .int go, .int (nI th), .int (nI nh), .ref mw, .ref mc, .ref mn, .ref mx, .int (nI sm), .ref ms, .int se, .ref mv, .int kh, .int kg, .int (nI kt), .int (nI ks), .ref mq, .ref mu, .long hsh])), (mt, .inl (g.2.1 0, 64, .inl tf)), (mb, .inl (g.2.1 0, 13, .inl bf)), (mc, .inl (g.2.1 0, 2, .inl kf))]) (va_runV (mc := 0) (ms := 0) (rm := { frames := 2, cells := 0, slots := 0, locals := 45 }) (As := [.int (nI p0.toNatClampNeg), .int p1]) (rest := []) ⟨hx, hb, hml, hown, hts⟩ (c_X11_tellDice l g H.size mo mt mb mp qn mr rm rs mk zt T go th nh mw mc mn mx sm ms se mv kh kg kt ks mq mu hsh tf bf kf p0.toNatClampNeg p1 kv (by omega) (by omega) (by omega)) (cwV 2 hts gX11_dice_X11_tellDice rfl rfl rfl (by decide +kernel) ⟨Nat.le_of_ble_eq_true rfl, Nat.le_of_ble_eq_true rfl⟩) (kd_preV (wc := [(mo, .inr (11, [.ref mt, .ref mb, .ref mp, .int (nI qn), .ref mr, .int (nI rm), .int rs, .ref mk, .int (nI zt), .int (nI T), .int go, .int (nI th), .int (nI nh), .ref mw, .ref mc, .ref mn, .ref mx, .int (nI sm), .ref ms, .int se, .ref mv, .int kh, .int kg, .int (nI kt), .int (nI ks), .ref mq, .ref mu, .long hsh])), (mt, .inl (g.2.1 0, 64, .inl tf)), (mb, .inl (g.2.1 0, 13, .inl bf)), (mc, .inl (g.2.1 0, 2, .inl kf))]) (va_recv hK hP (ci := 11) (q0 := 0) rfl rfl) hP hD hS hA hK hE [0, 1, 2, 3] rfl (by decide)) rfl rfl hl.1 rfl (lv_room (Nat.le_of_ble_eq_true rfl)) dX11_dice_11 ⟨Nat.le_of_ble_eq_true rfl, Nat.le_of_ble_eq_true rfl⟩) hP hD hS hA [0, 1, 2, 3] rfl (fun r_11 _ H locs hw hP hS => ?_)
    subst hw
    refine lv_goto (tgt := 19) hx hb dX11_dice_14 (by decide) ?_
    exact kd_iret hx hb hr hlocks hK hS dX11_dice_19 (()) (by rw [sp_X11_dice, if_neg c_5]) hP hD
/-- what KingdomAtDiceModel.as answers and leaves, by its instructions -/
def sp_X11_as (T : Nat) (p0 : Int32) (p1 : Int32) (kv : Nat → Nat) : Int32 :=
  if (sp_X11_isOne T p0) = 0 then
    (-101)
  else
    if (sp_X11_in p1.toInt64 0 4) = 0 then
      (-102)
    else
      if p1 = 0 then
        p0
      else
        if p1 = (nI (kv p0.toNatClampNeg)) then
          p0
        else
          if p1 = 1 then
            if (nI (kv p0.toNatClampNeg)) = 4 then
              p0
            else
              (-1)
          else
            (-1)
set_option maxHeartbeats 4000000 in
set_option maxRecDepth 100000 in
theorem c_X11_as (l : Launch) (g : kd_G) (sz : Nat) (mo : Nat) (mt : Nat) (mb : Nat) (mp : Nat) (qn : Nat) (mr : Nat) (rm : Nat) (rs : Int32) (mk : Nat) (zt : Nat) (T : Nat) (go : Int32) (th : Nat) (nh : Nat) (mw : Nat) (mc : Nat) (mn : Nat) (mx : Nat) (sm : Nat) (ms : Nat) (se : Int32) (mv : Nat) (kh : Int32) (kg : Int32) (kt : Nat) (ks : Nat) (mq : Nat) (mu : Nat) (hsh : Int64) (kf : Nat → Int32) (p0 : Int32) (p1 : Int32) (kv : Nat → Nat) (hkf : ∀ w, w < 2 → kf w = nI (kv w)) (hkv : ∀ w, w < 2 → kv w < 5) (hT : T ≤ 6) : kd_MI l yX11_as wsX11_as ({ frames := 2, cells := 0, slots := 0, locals := 46 }) [.ref mo, .int p0, .int p1] g [(mo, .inr (11, [.ref mt, .ref mb, .ref mp, .int (nI qn), .ref mr, .int (nI rm), .int rs, .ref mk, .int (nI zt), .int (nI T), .int go, .int (nI th), .int (nI nh), .ref mw, .ref mc, .ref mn, .ref mx, .int (nI sm), .ref ms, .int se, .ref mv, .int kh, .int kg, .int (nI kt), .int (nI ks), .ref mq, .ref mu, .long hsh])), (mc, .inl (g.2.1 0, 2, .inl kf))] sz (fun r (_ : Unit) => r = sp_X11_as T p0 p1 kv) (fun _ => [(mo, .inr (11, [.ref mt, .ref mb, .ref mp, .int (nI qn), .ref mr, .int (nI rm), .int rs, .ref mk, .int (nI zt), .int (nI T), .int go, .int (nI th), .int (nI nh), .ref mw, .ref mc, .ref mn, .ref mx, .int (nI sm), .ref ms, .int se, .ref mv, .int kh, .int kg, .int (nI kt), .int (nI ks), .ref mq, .ref mu, .long hsh])), (mc, .inl (g.2.1 0, 2, .inl kf))]) 0 0 := by
  refine kd_met (l := l) (y := yX11_as) (ws := wsX11_as) (rm := { frames := 2, cells := 0, slots := 0, locals := 46 }) (av := [.ref mo, .int p0, .int p1]) (g := g) (WS := [(mo, .inr (11, [.ref mt, .ref mb, .ref mp, .int (nI qn), .ref mr, .int (nI rm), .int rs, .ref mk, .int (nI zt), .int (nI T), .int go, .int (nI th), .int (nI nh), .ref mw, .ref mc, .ref mn, .ref mx, .int (nI sm), .ref ms, .int se, .ref mv, .int kh, .int kg, .int (nI kt), .int (nI ks), .ref mq, .ref mu, .long hsh])), (mc, .inl (g.2.1 0, 2, .inl kf))]) (sz := sz) (mc := 0) (ms := 0) (cc := cX11_as) (maxL := 4) (ret := (some .int)) (own := RX11) (fun A => va_Qi (fun r (_ : Unit) => r = sp_X11_as T p0 p1 kv) (fun u t => kd_post g A [(mo, .inr (11, [.ref mt, .ref mb, .ref mp, .int (nI qn), .ref mr, .int (nI rm), .int rs, .ref mk, .int (nI zt), .int (nI T), .int go, .int (nI th), .int (nI nh), .ref mw, .ref mc, .ref mn, .ref mx, .int (nI sm), .ref ms, .int se, .ref mv, .int kh, .int kg, .int (nI kt), .int (nI ks), .ref mq, .ref mu, .long hsh])), (mc, .inl (g.2.1 0, 2, .inl kf))] t) A) (by decide) rfl rfl (Nat.le_of_ble_eq_true rfl) ?_
  intro p e s m below meth c A ls hx hb hr hml hts hown hlocks hnm hA hP hK hD hS hE hl
  have hl : lv_has ls 4 [(0, .ref mo), (1, .int p0), (2, .int p1)] := hl
  have hiX11 : ∀ w ∈ u_ws RX11 TX11 28, w ∈ wsX11_as := by decide +kernel
  refine lv_aload_n hx hb dX11_as_0 rfl (lv_at hl 0 rfl) ?_
  refine lv_iload_n hx hb dX11_as_1 rfl (lv_at hl 1 rfl) ?_
  refine kd_callIK (g := g) (wc := [(mo, .inr (11, [.ref mt, .ref mb, .ref mp, .int (nI qn), .ref mr, .int (nI rm), .int rs, .ref mk, .int (nI zt), .int (nI T), .int go, .int (nI th), .int (nI nh), .ref mw, .ref mc, .ref mn, .ref mx, .int (nI sm), .ref ms, .int se, .ref mv, .int kh, .int kg, .int (nI kt), .int (nI ks), .ref mq, .ref mu, .long hsh]))]) (va_runV (mc := 0) (ms := 0) (rm := { frames := 1, cells := 0, slots := 0, locals := 25 }) (As := [.int p0]) (rest := []) ⟨hx, hb, hml, hown, hts⟩ (c_X11_isOne l g s.heap.size mo mt mb mp qn mr rm rs mk zt T go th nh mw mc mn mx sm ms se mv kh kg kt ks mq mu hsh p0 hT) (cwV 1 hts gX11_as_X11_isOne rfl rfl rfl (by decide +kernel) ⟨Nat.le_of_ble_eq_true rfl, Nat.le_of_ble_eq_true rfl⟩) (kd_preV (wc := [(mo, .inr (11, [.ref mt, .ref mb, .ref mp, .int (nI qn), .ref mr, .int (nI rm), .int rs, .ref mk, .int (nI zt), .int (nI T), .int go, .int (nI th), .int (nI nh), .ref mw, .ref mc, .ref mn, .ref mx, .int (nI sm), .ref ms, .int se, .ref mv, .int kh, .int kg, .int (nI kt), .int (nI ks), .ref mq, .ref mu, .long hsh]))]) (va_recv hK hP (ci := 11) (q0 := 0) rfl rfl) hP hD hS hA hK hE [0] rfl (by decide)) rfl rfl hl.1 rfl (lv_room (Nat.le_of_ble_eq_true rfl)) dX11_as_2 ⟨Nat.le_of_ble_eq_true rfl, Nat.le_of_ble_eq_true rfl⟩) hP hD hS hA [0] rfl (fun r_2 _ H locs hw hP hS => ?_)
  subst hw
  refine lv_if_ne (tgt := 11) hx hb dX11_as_5 (by decide) (fun c_5 => ?_) (fun c_5 => ?_)
  · obtain ⟨hp0, hq0⟩ := kd_isOne c_5
    refine lv_iload_n hx hb dX11_as_11 rfl (lv_at hl 2 rfl) ?_
    refine lv_i2l hx hb dX11_as_12 rfl ?_
    refine lv_lconst (v := 0) hx hb dX11_as_13 (by decide) ?_
    refine lv_ldc2 (v := 4) hx hb hown (hts (.constantLong RX11 139 4) (by decide +kernel)) dX11_as_14 ?_
    refine kd_callIK (g := g) (wc := []) (va_runS (mc := 0) (ms := 0) (rm := { frames := 0, cells := 0, slots := 0, locals := 0 }) (As := [.long p1.toInt64, .long 0, .long 4]) (rest := []) ⟨hx, hb, hml, hown, hts⟩ (c_X11_in l g H.size p1.toInt64 0 4 ) (va_cwS 3 hts gX11_as_X11_in rfl rfl rfl (by decide +kernel) ⟨Nat.le_of_ble_eq_true rfl, Nat.le_of_ble_eq_true rfl⟩) (kd_preS (wc := []) (av := [.long p1.toInt64, .long 0, .long 4]) hP hD hS hA hK hE [] rfl (by decide)) rfl rfl hl.1 rfl (lv_room (Nat.le_of_ble_eq_true rfl)) dX11_as_17 ⟨Nat.le_of_ble_eq_true rfl, Nat.le_of_ble_eq_true rfl⟩) hP hD hS hA [] rfl (fun r_17 _ H locs hw hP hS => ?_)
    subst hw
    refine lv_if_ne (tgt := 26) hx hb dX11_as_20 (by decide) (fun c_20 => ?_) (fun c_20 => ?_)
    · refine lv_iload_n hx hb dX11_as_26 rfl (lv_at hl 2 rfl) ?_
      refine lv_if_eq (tgt := 55) hx hb dX11_as_27 (by decide) (fun c_27 => ?_) (fun c_27 => ?_)
      · refine lv_iconst (v := 1) hx hb dX11_as_55 (by decide) ?_
        refine lv_goto (tgt := 60) hx hb dX11_as_56 (by decide) ?_
        refine lv_istore_n (lv' := [(3, .int 1), (0, .ref mo), (1, .int p0), (2, .int p1)]) hx hb dX11_as_60 rfl hl (by decide) rfl (fun ls hl => ?_)
        refine lv_iload_n hx hb dX11_as_61 rfl (lv_at hl 0 rfl) ?_
        refine lv_if_eq (tgt := 69) hx hb dX11_as_62 (by decide) (fun z => absurd z (by decide)) (fun _ => ?_)
        refine lv_iload_n hx hb dX11_as_65 rfl (lv_at hl 2 rfl) ?_
        refine lv_goto (tgt := 70) hx hb dX11_as_66 (by decide) ?_
        exact kd_iret hx hb hr hlocks hK hS dX11_as_70 (()) (by rw [sp_X11_as, if_neg c_5, if_neg c_20, if_pos c_27]) hP hD
      · refine lv_iload_n hx hb dX11_as_30 rfl (lv_at hl 2 rfl) ?_
        refine lv_aload_n hx hb dX11_as_31 rfl (lv_at hl 0 rfl) ?_
        refine va_get (ci := 11) (v := .ref mc) (C := RX11) (T := TX11) (N := 28) hx hb hts hiX11 hown hK hP (0) rfl rfl 14 (by decide) (hts (.fieldLink RX11 28 "KingdomAtDiceModel" "kinds" "[I") (by decide +kernel)) (fun _ h9 => h9) rfl dX11_as_32 ?_
        refine lv_iload_n hx hb dX11_as_35 rfl (lv_at hl 1 rfl) ?_
        refine kd_top (y := nI p0.toNatClampNeg) (hp0) ?_
        refine kd_iald hx hb hK hP 1 (k := p0.toNatClampNeg) rfl (by omega) (by decide) dX11_as_36 ?_
        refine kd_top (y := nI (kv p0.toNatClampNeg)) (hkf _ hq0) ?_
        refine lv_icmp_eq (tgt := 55) hx hb dX11_as_37 (by decide) (fun c_37 => ?_) (fun c_37 => ?_)
        · refine lv_iconst (v := 1) hx hb dX11_as_55 (by decide) ?_
          refine lv_goto (tgt := 60) hx hb dX11_as_56 (by decide) ?_
          refine lv_istore_n (lv' := [(3, .int 1), (0, .ref mo), (1, .int p0), (2, .int p1)]) hx hb dX11_as_60 rfl hl (by decide) rfl (fun ls hl => ?_)
          refine lv_iload_n hx hb dX11_as_61 rfl (lv_at hl 0 rfl) ?_
          refine lv_if_eq (tgt := 69) hx hb dX11_as_62 (by decide) (fun z => absurd z (by decide)) (fun _ => ?_)
          refine lv_iload_n hx hb dX11_as_65 rfl (lv_at hl 2 rfl) ?_
          refine lv_goto (tgt := 70) hx hb dX11_as_66 (by decide) ?_
          exact kd_iret hx hb hr hlocks hK hS dX11_as_70 (()) (by rw [sp_X11_as, if_neg c_5, if_neg c_20, if_neg c_27, if_pos c_37]) hP hD
        · refine lv_iload_n hx hb dX11_as_40 rfl (lv_at hl 2 rfl) ?_
          refine lv_iconst (v := 1) hx hb dX11_as_41 (by decide) ?_
          refine lv_icmp_ne (tgt := 59) hx hb dX11_as_42 (by decide) (fun c_42 => ?_) (fun c_42 => ?_)
          · refine lv_iconst (v := 0) hx hb dX11_as_59 (by decide) ?_
            refine lv_istore_n (lv' := [(3, .int 0), (0, .ref mo), (1, .int p0), (2, .int p1)]) hx hb dX11_as_60 rfl hl (by decide) rfl (fun ls hl => ?_)
            refine lv_iload_n hx hb dX11_as_61 rfl (lv_at hl 0 rfl) ?_
            refine lv_if_eq (tgt := 69) hx hb dX11_as_62 (by decide) (fun _ => ?_) (fun z => absurd (by decide) z)
            refine lv_iconst (v := (-1)) hx hb dX11_as_69 (by decide) ?_
            exact kd_iret hx hb hr hlocks hK hS dX11_as_70 (()) (by rw [sp_X11_as, if_neg c_5, if_neg c_20, if_neg c_27, if_neg c_37, if_neg c_42]) hP hD
          · refine lv_aload_n hx hb dX11_as_45 rfl (lv_at hl 0 rfl) ?_
            refine va_get (ci := 11) (v := .ref mc) (C := RX11) (T := TX11) (N := 28) hx hb hts hiX11 hown hK hP (0) rfl rfl 14 (by decide) (hts (.fieldLink RX11 28 "KingdomAtDiceModel" "kinds" "[I") (by decide +kernel)) (fun _ h9 => h9) rfl dX11_as_46 ?_
            refine lv_iload_n hx hb dX11_as_49 rfl (lv_at hl 1 rfl) ?_
            refine kd_top (y := nI p0.toNatClampNeg) (hp0) ?_
            refine kd_iald hx hb hK hP 1 (k := p0.toNatClampNeg) rfl (by omega) (by decide) dX11_as_50 ?_
            refine kd_top (y := nI (kv p0.toNatClampNeg)) (hkf _ hq0) ?_
            refine lv_iconst (v := 4) hx hb dX11_as_51 (by decide) ?_
            have hv5 := hkv _ hq0
            refine lv_icmp_ne (tgt := 59) hx hb dX11_as_52 (by decide) (fun c_52 => ?_) (fun c_52 => ?_)
            · have n_52 : ¬ kv p0.toNatClampNeg = 4 := kd_cnq (a := kv p0.toNatClampNeg) (b := 4) (by omega) (by omega) c_52
              refine lv_iconst (v := 0) hx hb dX11_as_59 (by decide) ?_
              refine lv_istore_n (lv' := [(3, .int 0), (0, .ref mo), (1, .int p0), (2, .int p1)]) hx hb dX11_as_60 rfl hl (by decide) rfl (fun ls hl => ?_)
              refine lv_iload_n hx hb dX11_as_61 rfl (lv_at hl 0 rfl) ?_
              refine lv_if_eq (tgt := 69) hx hb dX11_as_62 (by decide) (fun _ => ?_) (fun z => absurd (by decide) z)
              refine lv_iconst (v := (-1)) hx hb dX11_as_69 (by decide) ?_
              exact kd_iret hx hb hr hlocks hK hS dX11_as_70 (()) (by rw [sp_X11_as, if_neg c_5, if_neg c_20, if_neg c_27, if_neg c_37, if_pos c_42, if_neg c_52]) hP hD
            · have n_52 : kv p0.toNatClampNeg = 4 := kd_cq (a := kv p0.toNatClampNeg) (b := 4) (by omega) (by omega) c_52
              refine lv_iconst (v := 1) hx hb dX11_as_55 (by decide) ?_
              refine lv_goto (tgt := 60) hx hb dX11_as_56 (by decide) ?_
              refine lv_istore_n (lv' := [(3, .int 1), (0, .ref mo), (1, .int p0), (2, .int p1)]) hx hb dX11_as_60 rfl hl (by decide) rfl (fun ls hl => ?_)
              refine lv_iload_n hx hb dX11_as_61 rfl (lv_at hl 0 rfl) ?_
              refine lv_if_eq (tgt := 69) hx hb dX11_as_62 (by decide) (fun z => absurd z (by decide)) (fun _ => ?_)
              refine lv_iload_n hx hb dX11_as_65 rfl (lv_at hl 2 rfl) ?_
              refine lv_goto (tgt := 70) hx hb dX11_as_66 (by decide) ?_
              exact kd_iret hx hb hr hlocks hK hS dX11_as_70 (()) (by rw [sp_X11_as, if_neg c_5, if_neg c_20, if_neg c_27, if_neg c_37, if_pos c_42, if_pos c_52]) hP hD
    · refine lv_bipush (v := (-102)) hx hb dX11_as_23 (by decide) ?_
      exact kd_iret hx hb hr hlocks hK hS dX11_as_25 (()) (by rw [sp_X11_as, if_neg c_5, if_pos c_20]) hP hD
  · refine lv_bipush (v := (-101)) hx hb dX11_as_8 (by decide) ?_
    exact kd_iret hx hb hr hlocks hK hS dX11_as_10 (()) (by rw [sp_X11_as, if_pos c_5]) hP hD
/-- what KingdomAtDiceModel.ways answers and leaves, by its instructions -/
def sp_X11_ways (T : Nat) (tf : Nat → Int32) (bf : Nat → Int32) (p0 : Int32) (p1 : Int32) (kv : Nat → Nat) : Int32 :=
  if (sp_X11_isOne T p0) = 0 then
    (-101)
  else
    if (sp_X11_in p1.toInt64 2 12) = 0 then
      (-102)
    else
      sp_X11_waysOf tf bf (kv p0.toNatClampNeg) p1.toNatClampNeg
set_option maxHeartbeats 4000000 in
set_option maxRecDepth 100000 in
theorem c_X11_ways (l : Launch) (g : kd_G) (sz : Nat) (mo : Nat) (mt : Nat) (mb : Nat) (mp : Nat) (qn : Nat) (mr : Nat) (rm : Nat) (rs : Int32) (mk : Nat) (zt : Nat) (T : Nat) (go : Int32) (th : Nat) (nh : Nat) (mw : Nat) (mc : Nat) (mn : Nat) (mx : Nat) (sm : Nat) (ms : Nat) (se : Int32) (mv : Nat) (kh : Int32) (kg : Int32) (kt : Nat) (ks : Nat) (mq : Nat) (mu : Nat) (hsh : Int64) (tf : Nat → Int32) (bf : Nat → Int32) (kf : Nat → Int32) (p0 : Int32) (p1 : Int32) (kv : Nat → Nat) (hkf : ∀ w, w < 2 → kf w = nI (kv w)) (hkv : ∀ w, w < 2 → kv w < 5) (hT : T ≤ 6) : kd_MI l yX11_ways wsX11_ways ({ frames := 2, cells := 0, slots := 0, locals := 46 }) [.ref mo, .int p0, .int p1] g [(mo, .inr (11, [.ref mt, .ref mb, .ref mp, .int (nI qn), .ref mr, .int (nI rm), .int rs, .ref mk, .int (nI zt), .int (nI T), .int go, .int (nI th), .int (nI nh), .ref mw, .ref mc, .ref mn, .ref mx, .int (nI sm), .ref ms, .int se, .ref mv, .int kh, .int kg, .int (nI kt), .int (nI ks), .ref mq, .ref mu, .long hsh])), (mt, .inl (g.2.1 0, 64, .inl tf)), (mb, .inl (g.2.1 0, 13, .inl bf)), (mc, .inl (g.2.1 0, 2, .inl kf))] sz (fun r (_ : Unit) => r = sp_X11_ways T tf bf p0 p1 kv) (fun _ => [(mo, .inr (11, [.ref mt, .ref mb, .ref mp, .int (nI qn), .ref mr, .int (nI rm), .int rs, .ref mk, .int (nI zt), .int (nI T), .int go, .int (nI th), .int (nI nh), .ref mw, .ref mc, .ref mn, .ref mx, .int (nI sm), .ref ms, .int se, .ref mv, .int kh, .int kg, .int (nI kt), .int (nI ks), .ref mq, .ref mu, .long hsh])), (mt, .inl (g.2.1 0, 64, .inl tf)), (mb, .inl (g.2.1 0, 13, .inl bf)), (mc, .inl (g.2.1 0, 2, .inl kf))]) 0 0 := by
  refine kd_met (l := l) (y := yX11_ways) (ws := wsX11_ways) (rm := { frames := 2, cells := 0, slots := 0, locals := 46 }) (av := [.ref mo, .int p0, .int p1]) (g := g) (WS := [(mo, .inr (11, [.ref mt, .ref mb, .ref mp, .int (nI qn), .ref mr, .int (nI rm), .int rs, .ref mk, .int (nI zt), .int (nI T), .int go, .int (nI th), .int (nI nh), .ref mw, .ref mc, .ref mn, .ref mx, .int (nI sm), .ref ms, .int se, .ref mv, .int kh, .int kg, .int (nI kt), .int (nI ks), .ref mq, .ref mu, .long hsh])), (mt, .inl (g.2.1 0, 64, .inl tf)), (mb, .inl (g.2.1 0, 13, .inl bf)), (mc, .inl (g.2.1 0, 2, .inl kf))]) (sz := sz) (mc := 0) (ms := 0) (cc := cX11_ways) (maxL := 3) (ret := (some .int)) (own := RX11) (fun A => va_Qi (fun r (_ : Unit) => r = sp_X11_ways T tf bf p0 p1 kv) (fun u t => kd_post g A [(mo, .inr (11, [.ref mt, .ref mb, .ref mp, .int (nI qn), .ref mr, .int (nI rm), .int rs, .ref mk, .int (nI zt), .int (nI T), .int go, .int (nI th), .int (nI nh), .ref mw, .ref mc, .ref mn, .ref mx, .int (nI sm), .ref ms, .int se, .ref mv, .int kh, .int kg, .int (nI kt), .int (nI ks), .ref mq, .ref mu, .long hsh])), (mt, .inl (g.2.1 0, 64, .inl tf)), (mb, .inl (g.2.1 0, 13, .inl bf)), (mc, .inl (g.2.1 0, 2, .inl kf))] t) A) (by decide) rfl rfl (Nat.le_of_ble_eq_true rfl) ?_
  intro p e s m below meth c A ls hx hb hr hml hts hown hlocks hnm hA hP hK hD hS hE hl
  have hl : lv_has ls 3 [(0, .ref mo), (1, .int p0), (2, .int p1)] := hl
  have hiX11 : ∀ w ∈ u_ws RX11 TX11 28, w ∈ wsX11_ways := by decide +kernel
  refine lv_aload_n hx hb dX11_ways_0 rfl (lv_at hl 0 rfl) ?_
  refine lv_iload_n hx hb dX11_ways_1 rfl (lv_at hl 1 rfl) ?_
  refine kd_callIK (g := g) (wc := [(mo, .inr (11, [.ref mt, .ref mb, .ref mp, .int (nI qn), .ref mr, .int (nI rm), .int rs, .ref mk, .int (nI zt), .int (nI T), .int go, .int (nI th), .int (nI nh), .ref mw, .ref mc, .ref mn, .ref mx, .int (nI sm), .ref ms, .int se, .ref mv, .int kh, .int kg, .int (nI kt), .int (nI ks), .ref mq, .ref mu, .long hsh]))]) (va_runV (mc := 0) (ms := 0) (rm := { frames := 1, cells := 0, slots := 0, locals := 25 }) (As := [.int p0]) (rest := []) ⟨hx, hb, hml, hown, hts⟩ (c_X11_isOne l g s.heap.size mo mt mb mp qn mr rm rs mk zt T go th nh mw mc mn mx sm ms se mv kh kg kt ks mq mu hsh p0 hT) (cwV 1 hts gX11_ways_X11_isOne rfl rfl rfl (by decide +kernel) ⟨Nat.le_of_ble_eq_true rfl, Nat.le_of_ble_eq_true rfl⟩) (kd_preV (wc := [(mo, .inr (11, [.ref mt, .ref mb, .ref mp, .int (nI qn), .ref mr, .int (nI rm), .int rs, .ref mk, .int (nI zt), .int (nI T), .int go, .int (nI th), .int (nI nh), .ref mw, .ref mc, .ref mn, .ref mx, .int (nI sm), .ref ms, .int se, .ref mv, .int kh, .int kg, .int (nI kt), .int (nI ks), .ref mq, .ref mu, .long hsh]))]) (va_recv hK hP (ci := 11) (q0 := 0) rfl rfl) hP hD hS hA hK hE [0] rfl (by decide)) rfl rfl hl.1 rfl (lv_room (Nat.le_of_ble_eq_true rfl)) dX11_ways_2 ⟨Nat.le_of_ble_eq_true rfl, Nat.le_of_ble_eq_true rfl⟩) hP hD hS hA [0] rfl (fun r_2 _ H locs hw hP hS => ?_)
  subst hw
  refine lv_if_ne (tgt := 11) hx hb dX11_ways_5 (by decide) (fun c_5 => ?_) (fun c_5 => ?_)
  · refine lv_iload_n hx hb dX11_ways_11 rfl (lv_at hl 2 rfl) ?_
    refine lv_i2l hx hb dX11_ways_12 rfl ?_
    refine lv_ldc2 (v := 2) hx hb hown (hts (.constantLong RX11 141 2) (by decide +kernel)) dX11_ways_13 ?_
    refine lv_ldc2 (v := 12) hx hb hown (hts (.constantLong RX11 143 12) (by decide +kernel)) dX11_ways_16 ?_
    refine kd_callIK (g := g) (wc := []) (va_runS (mc := 0) (ms := 0) (rm := { frames := 0, cells := 0, slots := 0, locals := 0 }) (As := [.long p1.toInt64, .long 2, .long 12]) (rest := []) ⟨hx, hb, hml, hown, hts⟩ (c_X11_in l g H.size p1.toInt64 2 12 ) (va_cwS 3 hts gX11_ways_X11_in rfl rfl rfl (by decide +kernel) ⟨Nat.le_of_ble_eq_true rfl, Nat.le_of_ble_eq_true rfl⟩) (kd_preS (wc := []) (av := [.long p1.toInt64, .long 2, .long 12]) hP hD hS hA hK hE [] rfl (by decide)) rfl rfl hl.1 rfl (lv_room (Nat.le_of_ble_eq_true rfl)) dX11_ways_19 ⟨Nat.le_of_ble_eq_true rfl, Nat.le_of_ble_eq_true rfl⟩) hP hD hS hA [] rfl (fun r_19 _ H locs hw hP hS => ?_)
    subst hw
    refine lv_if_eq (tgt := 39) hx hb dX11_ways_22 (by decide) (fun c_22 => ?_) (fun c_22 => ?_)
    · refine lv_bipush (v := (-102)) hx hb dX11_ways_39 (by decide) ?_
      exact kd_iret hx hb hr hlocks hK hS dX11_ways_41 (()) (by rw [sp_X11_ways, if_neg c_5, if_pos c_22]) hP hD
    · obtain ⟨hp0, hq0⟩ := kd_isOne c_5
      obtain ⟨hp1, hq1⟩ := kd_inS c_22
      refine lv_aload_n hx hb dX11_ways_25 rfl (lv_at hl 0 rfl) ?_
      refine lv_aload_n hx hb dX11_ways_26 rfl (lv_at hl 0 rfl) ?_
      refine va_get (ci := 11) (v := .ref mc) (C := RX11) (T := TX11) (N := 28) hx hb hts hiX11 hown hK hP (0) rfl rfl 14 (by decide) (hts (.fieldLink RX11 28 "KingdomAtDiceModel" "kinds" "[I") (by decide +kernel)) (fun _ h9 => h9) rfl dX11_ways_27 ?_
      refine lv_iload_n hx hb dX11_ways_30 rfl (lv_at hl 1 rfl) ?_
      refine kd_top (y := nI p0.toNatClampNeg) (hp0) ?_
      refine kd_iald hx hb hK hP 3 (k := p0.toNatClampNeg) rfl (by omega) (by decide) dX11_ways_31 ?_
      refine kd_top (y := nI (kv p0.toNatClampNeg)) (hkf _ hq0) ?_
      refine lv_iload_n hx hb dX11_ways_32 rfl (lv_at hl 2 rfl) ?_
      refine kd_top (y := nI p1.toNatClampNeg) (hp1) ?_
      refine kd_callIK (g := g) (wc := [(mo, .inr (11, [.ref mt, .ref mb, .ref mp, .int (nI qn), .ref mr, .int (nI rm), .int rs, .ref mk, .int (nI zt), .int (nI T), .int go, .int (nI th), .int (nI nh), .ref mw, .ref mc, .ref mn, .ref mx, .int (nI sm), .ref ms, .int se, .ref mv, .int kh, .int kg, .int (nI kt), .int (nI ks), .ref mq, .ref mu, .long hsh])), (mt, .inl (g.2.1 0, 64, .inl tf)), (mb, .inl (g.2.1 0, 13, .inl bf))]) (va_runV (mc := 0) (ms := 0) (rm := { frames := 0, cells := 0, slots := 0, locals := 0 }) (As := [.int (nI (kv p0.toNatClampNeg)), .int (nI p1.toNatClampNeg)]) (rest := []) ⟨hx, hb, hml, hown, hts⟩ (c_X11_waysOf l g H.size mo mt mb mp qn mr rm rs mk zt T go th nh mw mc mn mx sm ms se mv kh kg kt ks mq mu hsh tf bf (kv p0.toNatClampNeg) p1.toNatClampNeg (hkv _ hq0) (hq1.2)) (cwV 2 hts gX11_ways_X11_waysOf rfl rfl rfl (by decide +kernel) ⟨Nat.le_of_ble_eq_true rfl, Nat.le_of_ble_eq_true rfl⟩) (kd_preV (wc := [(mo, .inr (11, [.ref mt, .ref mb, .ref mp, .int (nI qn), .ref mr, .int (nI rm), .int rs, .ref mk, .int (nI zt), .int (nI T), .int go, .int (nI th), .int (nI nh), .ref mw, .ref mc, .ref mn, .ref mx, .int (nI sm), .ref ms, .int se, .ref mv, .int kh, .int kg, .int (nI kt), .int (nI ks), .ref mq, .ref mu, .long hsh])), (mt, .inl (g.2.1 0, 64, .inl tf)), (mb, .inl (g.2.1 0, 13, .inl bf))]) (va_recv hK hP (ci := 11) (q0 := 0) rfl rfl) hP hD hS hA hK hE [0, 1, 2] rfl (by decide)) rfl rfl hl.1 rfl (lv_room (Nat.le_of_ble_eq_true rfl)) dX11_ways_33 ⟨Nat.le_of_ble_eq_true rfl, Nat.le_of_ble_eq_true rfl⟩) hP hD hS hA [0, 1, 2] rfl (fun r_33 _ H locs hw hP hS => ?_)
      subst hw
      refine lv_goto (tgt := 41) hx hb dX11_ways_36 (by decide) ?_
      exact kd_iret hx hb hr hlocks hK hS dX11_ways_41 (()) (by rw [sp_X11_ways, if_neg c_5, if_neg c_22]) hP hD
  · refine lv_bipush (v := (-101)) hx hb dX11_ways_8 (by decide) ?_
    exact kd_iret hx hb hr hlocks hK hS dX11_ways_10 (()) (by rw [sp_X11_ways, if_pos c_5]) hP hD
/-- what KingdomAtDiceModel.goesOver answers and leaves, by its instructions -/
def sp_X11_goesOver (rf : Nat → Int32) (t : Nat) (p0 : Int32) : (Nat → Int32) :=
  upd (upd rf ((6 * t) + 2) p0) ((6 * t) + 5) (((upd rf ((6 * t) + 2) p0) ((6 * t) + 5)) + 1)
set_option maxHeartbeats 4000000 in
set_option maxRecDepth 100000 in
theorem c_X11_goesOver (l : Launch) (g : kd_G) (sz : Nat) (mo : Nat) (mt : Nat) (mb : Nat) (mp : Nat) (qn : Nat) (mr : Nat) (rm : Nat) (rs : Int32) (mk : Nat) (zt : Nat) (T : Nat) (go : Int32) (th : Nat) (nh : Nat) (mw : Nat) (mc : Nat) (mn : Nat) (mx : Nat) (sm : Nat) (ms : Nat) (se : Int32) (mv : Nat) (kh : Int32) (kg : Int32) (kt : Nat) (ks : Nat) (mq : Nat) (mu : Nat) (hsh : Int64) (rf : Nat → Int32) (t : Nat) (p0 : Int32) (ht : t < 6) : kd_MV l yX11_goesOver wsX11_goesOver ({ frames := 0, cells := 0, slots := 0, locals := 0 }) [.ref mo, .int (nI t), .int p0] g [(mo, .inr (11, [.ref mt, .ref mb, .ref mp, .int (nI qn), .ref mr, .int (nI rm), .int rs, .ref mk, .int (nI zt), .int (nI T), .int go, .int (nI th), .int (nI nh), .ref mw, .ref mc, .ref mn, .ref mx, .int (nI sm), .ref ms, .int se, .ref mv, .int kh, .int kg, .int (nI kt), .int (nI ks), .ref mq, .ref mu, .long hsh])), (mw, .inl (g.2.1 0, 36, .inl rf))] sz (fun (u : (Nat → Int32)) => u = sp_X11_goesOver rf t p0) (fun u => [(mo, .inr (11, [.ref mt, .ref mb, .ref mp, .int (nI qn), .ref mr, .int (nI rm), .int rs, .ref mk, .int (nI zt), .int (nI T), .int go, .int (nI th), .int (nI nh), .ref mw, .ref mc, .ref mn, .ref mx, .int (nI sm), .ref ms, .int se, .ref mv, .int kh, .int kg, .int (nI kt), .int (nI ks), .ref mq, .ref mu, .long hsh])), (mw, .inl (g.2.1 0, 36, .inl u))]) 0 0 := by
  refine kd_met (l := l) (y := yX11_goesOver) (ws := wsX11_goesOver) (rm := { frames := 0, cells := 0, slots := 0, locals := 0 }) (av := [.ref mo, .int (nI t), .int p0]) (g := g) (WS := [(mo, .inr (11, [.ref mt, .ref mb, .ref mp, .int (nI qn), .ref mr, .int (nI rm), .int rs, .ref mk, .int (nI zt), .int (nI T), .int go, .int (nI th), .int (nI nh), .ref mw, .ref mc, .ref mn, .ref mx, .int (nI sm), .ref ms, .int se, .ref mv, .int kh, .int kg, .int (nI kt), .int (nI ks), .ref mq, .ref mu, .long hsh])), (mw, .inl (g.2.1 0, 36, .inl rf))]) (sz := sz) (mc := 0) (ms := 0) (cc := cX11_goesOver) (maxL := 3) (ret := none) (own := RX11) (fun A => va_Qv (fun (u : (Nat → Int32)) => u = sp_X11_goesOver rf t p0) (fun u t => kd_post g A [(mo, .inr (11, [.ref mt, .ref mb, .ref mp, .int (nI qn), .ref mr, .int (nI rm), .int rs, .ref mk, .int (nI zt), .int (nI T), .int go, .int (nI th), .int (nI nh), .ref mw, .ref mc, .ref mn, .ref mx, .int (nI sm), .ref ms, .int se, .ref mv, .int kh, .int kg, .int (nI kt), .int (nI ks), .ref mq, .ref mu, .long hsh])), (mw, .inl (g.2.1 0, 36, .inl u))] t) A) (by decide) rfl rfl (Nat.le_of_ble_eq_true rfl) ?_
  intro p e s m below meth c A ls hx hb hr hml hts hown hlocks hnm hA hP hK hD hS hE hl
  have hl : lv_has ls 3 [(0, .ref mo), (1, .int (nI t)), (2, .int p0)] := hl
  have hiX11 : ∀ w ∈ u_ws RX11 TX11 28, w ∈ wsX11_goesOver := by decide +kernel
  refine lv_aload_n hx hb dX11_goesOver_0 rfl (lv_at hl 0 rfl) ?_
  refine va_get (ci := 11) (v := .ref mw) (C := RX11) (T := TX11) (N := 28) hx hb hts hiX11 hown hK hP (0) rfl rfl 13 (by decide) (hts (.fieldLink RX11 25 "KingdomAtDiceModel" "rows" "[I") (by decide +kernel)) (fun _ h9 => h9) rfl dX11_goesOver_1 ?_
  refine lv_bipush (v := 6) hx hb dX11_goesOver_4 (by decide) ?_
  refine lv_iload_n hx hb dX11_goesOver_6 rfl (lv_at hl 1 rfl) ?_
  refine lv_imul hx hb dX11_goesOver_7 ?_
  refine kd_top (pk_mul 6 t) ?_
  refine lv_iconst (v := 2) hx hb dX11_goesOver_8 (by decide) ?_
  refine lv_iadd hx hb dX11_goesOver_9 ?_
  refine kd_top (nI_add (6 * t) 2) ?_
  refine lv_iload_n hx hb dX11_goesOver_10 rfl (lv_at hl 2 rfl) ?_
  refine kd_iast hx hb hK hP hD hS 1 (k := (6 * t) + 2) rfl (by omega) (by decide) dX11_goesOver_11 (fun H locs hP hD hS => ?_)
  have hP : va_P g.1 vwCl [(mo, .inr (11, [.ref mt, .ref mb, .ref mp, .int (nI qn), .ref mr, .int (nI rm), .int rs, .ref mk, .int (nI zt), .int (nI T), .int go, .int (nI th), .int (nI nh), .ref mw, .ref mc, .ref mn, .ref mx, .int (nI sm), .ref ms, .int se, .ref mv, .int kh, .int kg, .int (nI kt), .int (nI ks), .ref mq, .ref mu, .long hsh])), (mw, .inl (g.2.1 0, 36, .inl (upd rf ((6 * t) + 2) p0)))] H := hP
  have hD : va_D A [(mo, .inr (11, [.ref mt, .ref mb, .ref mp, .int (nI qn), .ref mr, .int (nI rm), .int rs, .ref mk, .int (nI zt), .int (nI T), .int go, .int (nI th), .int (nI nh), .ref mw, .ref mc, .ref mn, .ref mx, .int (nI sm), .ref ms, .int se, .ref mv, .int kh, .int kg, .int (nI kt), .int (nI ks), .ref mq, .ref mu, .long hsh])), (mw, .inl (g.2.1 0, 36, .inl (upd rf ((6 * t) + 2) p0)))] := hD
  refine lv_aload_n hx hb dX11_goesOver_12 rfl (lv_at hl 0 rfl) ?_
  refine va_get (ci := 11) (v := .ref mw) (C := RX11) (T := TX11) (N := 28) hx hb hts hiX11 hown hK hP (0) rfl rfl 13 (by decide) (hts (.fieldLink RX11 25 "KingdomAtDiceModel" "rows" "[I") (by decide +kernel)) (fun _ h9 => h9) rfl dX11_goesOver_13 ?_
  refine lv_bipush (v := 6) hx hb dX11_goesOver_16 (by decide) ?_
  refine lv_iload_n hx hb dX11_goesOver_18 rfl (lv_at hl 1 rfl) ?_
  refine lv_imul hx hb dX11_goesOver_19 ?_
  refine kd_top (pk_mul 6 t) ?_
  refine lv_iconst (v := 5) hx hb dX11_goesOver_20 (by decide) ?_
  refine lv_iadd hx hb dX11_goesOver_21 ?_
  refine kd_top (nI_add (6 * t) 5) ?_
  refine lv_dup2_11 hx hb dX11_goesOver_22 rfl rfl ?_
  refine kd_iald hx hb hK hP 1 (k := (6 * t) + 5) rfl (by omega) (by decide) dX11_goesOver_23 ?_
  refine lv_iconst (v := 1) hx hb dX11_goesOver_24 (by decide) ?_
  refine lv_iadd hx hb dX11_goesOver_25 ?_
  refine kd_iast hx hb hK hP hD hS 1 (k := (6 * t) + 5) rfl (by omega) (by decide) dX11_goesOver_26 (fun H locs hP hD hS => ?_)
  have hP : va_P g.1 vwCl [(mo, .inr (11, [.ref mt, .ref mb, .ref mp, .int (nI qn), .ref mr, .int (nI rm), .int rs, .ref mk, .int (nI zt), .int (nI T), .int go, .int (nI th), .int (nI nh), .ref mw, .ref mc, .ref mn, .ref mx, .int (nI sm), .ref ms, .int se, .ref mv, .int kh, .int kg, .int (nI kt), .int (nI ks), .ref mq, .ref mu, .long hsh])), (mw, .inl (g.2.1 0, 36, .inl (upd (upd rf ((6 * t) + 2) p0) ((6 * t) + 5) (((upd rf ((6 * t) + 2) p0) ((6 * t) + 5)) + 1))))] H := hP
  have hD : va_D A [(mo, .inr (11, [.ref mt, .ref mb, .ref mp, .int (nI qn), .ref mr, .int (nI rm), .int rs, .ref mk, .int (nI zt), .int (nI T), .int go, .int (nI th), .int (nI nh), .ref mw, .ref mc, .ref mn, .ref mx, .int (nI sm), .ref ms, .int se, .ref mv, .int kh, .int kg, .int (nI kt), .int (nI ks), .ref mq, .ref mu, .long hsh])), (mw, .inl (g.2.1 0, 36, .inl (upd (upd rf ((6 * t) + 2) p0) ((6 * t) + 5) (((upd rf ((6 * t) + 2) p0) ((6 * t) + 5)) + 1))))] := hD
  exact kd_vret hx hb hr hlocks hK hS dX11_goesOver_27 (upd (upd rf ((6 * t) + 2) p0) ((6 * t) + 5) (((upd rf ((6 * t) + 2) p0) ((6 * t) + 5)) + 1)) (rfl) hP hD
def kd_rn (rf : Nat → Int32) : Nat → Int32
  | 0 => 1
  | i + 1 => if kd_rn rf i = 0 then 0 else if rf (6 * i) = 2 then (if sp_X11_isKings rf i = 0 then 0 else 1) else 1
theorem kd_rn_z (rf : Nat → Int32) : ∀ i, kd_rn rf i = 0 ∨ kd_rn rf i = 1
  | 0 => Or.inr rfl
  | i + 1 => by
    rw [kd_rn]
    repeat' split
    all_goals first | exact Or.inl rfl | exact Or.inr rfl
set_option maxHeartbeats 4000000 in
set_option maxRecDepth 100000 in
theorem c_X11_isRightNow (l : Launch) (g : kd_G) (sz : Nat) (mo : Nat) (mt : Nat) (mb : Nat) (mp : Nat) (qn : Nat) (mr : Nat) (rm : Nat) (rs : Int32) (mk : Nat) (zt : Nat) (T : Nat) (go : Int32) (th : Nat) (nh : Nat) (mw : Nat) (mc : Nat) (mn : Nat) (mx : Nat) (sm : Nat) (ms : Nat) (se : Int32) (mv : Nat) (kh : Int32) (kg : Int32) (kt : Nat) (ks : Nat) (mq : Nat) (mu : Nat) (hsh : Int64) (rf : Nat → Int32) (hT : T ≤ 6) : kd_MI l yX11_isRightNow wsX11_isRightNow ({ frames := 1, cells := 0, slots := 0, locals := 21 }) [.ref mo] g [(mo, .inr (11, [.ref mt, .ref mb, .ref mp, .int (nI qn), .ref mr, .int (nI rm), .int rs, .ref mk, .int (nI zt), .int (nI T), .int go, .int (nI th), .int (nI nh), .ref mw, .ref mc, .ref mn, .ref mx, .int (nI sm), .ref ms, .int se, .ref mv, .int kh, .int kg, .int (nI kt), .int (nI ks), .ref mq, .ref mu, .long hsh])), (mw, .inl (g.2.1 0, 36, .inl rf))] sz (fun r (_ : Unit) => r = kd_rn rf T) (fun _ => [(mo, .inr (11, [.ref mt, .ref mb, .ref mp, .int (nI qn), .ref mr, .int (nI rm), .int rs, .ref mk, .int (nI zt), .int (nI T), .int go, .int (nI th), .int (nI nh), .ref mw, .ref mc, .ref mn, .ref mx, .int (nI sm), .ref ms, .int se, .ref mv, .int kh, .int kg, .int (nI kt), .int (nI ks), .ref mq, .ref mu, .long hsh])), (mw, .inl (g.2.1 0, 36, .inl rf))]) 0 0 := by
  refine kd_met (l := l) (y := yX11_isRightNow) (ws := wsX11_isRightNow) (rm := { frames := 1, cells := 0, slots := 0, locals := 21 }) (av := [.ref mo]) (g := g) (WS := [(mo, .inr (11, [.ref mt, .ref mb, .ref mp, .int (nI qn), .ref mr, .int (nI rm), .int rs, .ref mk, .int (nI zt), .int (nI T), .int go, .int (nI th), .int (nI nh), .ref mw, .ref mc, .ref mn, .ref mx, .int (nI sm), .ref ms, .int se, .ref mv, .int kh, .int kg, .int (nI kt), .int (nI ks), .ref mq, .ref mu, .long hsh])), (mw, .inl (g.2.1 0, 36, .inl rf))]) (sz := sz) (mc := 0) (ms := 0) (cc := cX11_isRightNow) (maxL := 3) (ret := (some .boolean)) (own := RX11) (fun A => va_Qi (fun r (_ : Unit) => r = kd_rn rf T) (fun u t => kd_post g A [(mo, .inr (11, [.ref mt, .ref mb, .ref mp, .int (nI qn), .ref mr, .int (nI rm), .int rs, .ref mk, .int (nI zt), .int (nI T), .int go, .int (nI th), .int (nI nh), .ref mw, .ref mc, .ref mn, .ref mx, .int (nI sm), .ref ms, .int se, .ref mv, .int kh, .int kg, .int (nI kt), .int (nI ks), .ref mq, .ref mu, .long hsh])), (mw, .inl (g.2.1 0, 36, .inl rf))] t) A) (by decide) rfl rfl (Nat.le_of_ble_eq_true rfl) ?_
  intro p e s m below meth c A ls hx hb hr hml hts hown hlocks hnm hA hP hK hD hS hE hl
  have hl : lv_has ls 3 [(0, .ref mo)] := hl
  have hiX11 : ∀ w ∈ u_ws RX11 TX11 28, w ∈ wsX11_isRightNow := by decide +kernel
  refine lv_iconst (v := 1) hx hb dX11_isRightNow_0 (by decide) ?_
  refine lv_istore_n (lv' := [(1, .int 1), (0, .ref mo)]) hx hb dX11_isRightNow_1 rfl hl (by decide) rfl (fun ls hl => ?_)
  refine lv_iconst (v := 0) hx hb dX11_isRightNow_2 (by decide) ?_
  refine lv_istore_n (lv' := [(2, .int 0), (1, .int 1), (0, .ref mo)]) hx hb dX11_isRightNow_3 rfl hl (by decide) rfl (fun ls hl => ?_)
  have loop_4 : ∀ (n_4 : Nat) (i : Nat) (a : Int32), (i ≤ T) → (a = kd_rn rf i) → (T - i) < n_4 → ∀ (H : Heap) (locs : List Loc), va_P g.1 vwCl [(mo, .inr (11, [.ref mt, .ref mb, .ref mp, .int (nI qn), .ref mr, .int (nI rm), .int rs, .ref mk, .int (nI zt), .int (nI T), .int go, .int (nI th), .int (nI nh), .ref mw, .ref mc, .ref mn, .ref mx, .int (nI sm), .ref ms, .int se, .ref mv, .int kh, .int kg, .int (nI kt), .int (nI ks), .ref mq, .ref mu, .long hsh])), (mw, .inl (g.2.1 0, 36, .inl rf))] H → va_D A [(mo, .inr (11, [.ref mt, .ref mb, .ref mp, .int (nI qn), .ref mr, .int (nI rm), .int rs, .ref mk, .int (nI zt), .int (nI T), .int go, .int (nI th), .int (nI nh), .ref mw, .ref mc, .ref mn, .ref mx, .int (nI sm), .ref ms, .int se, .ref mv, .int kh, .int kg, .int (nI kt), .int (nI ks), .ref mq, .ref mu, .long hsh])), (mw, .inl (g.2.1 0, 36, .inl rf))] → va_S A s.heap H locs → ∀ (ls : Array Slot), lv_has ls 3 [(0, .ref mo), (1, .int a), (2, .int (nI i))] → W p l e ({ frames := 1, cells := 0, slots := 0, locals := 21 } : Room) s m ([.ref mo] : List Value).toArray below meth c H locs 0 0 (MQ below (va_Qi (fun r (_ : Unit) => r = kd_rn rf T) (fun u t => kd_post g A [(mo, .inr (11, [.ref mt, .ref mb, .ref mp, .int (nI qn), .ref mr, .int (nI rm), .int rs, .ref mk, .int (nI zt), .int (nI T), .int go, .int (nI th), .int (nI nh), .ref mw, .ref mc, .ref mn, .ref mx, .int (nI sm), .ref ms, .int se, .ref mv, .int kh, .int kg, .int (nI kt), .int (nI ks), .ref mq, .ref mu, .long hsh])), (mw, .inl (g.2.1 0, 36, .inl rf))] t) A) ([.ref mo] : List Value).toArray s 0 0 A) (F0 m 4 ls []) := by
    intro n_4
    induction n_4 with
    | zero => intro i a _ _ hm_4; exact absurd hm_4 (Nat.not_lt_zero _)
    | succ n_4 ih_4 =>
      intro i a hi ha hm_4 H locs hP hD hS ls hl
      refine lv_iload_n hx hb dX11_isRightNow_4 rfl (lv_at hl 2 rfl) ?_
      refine lv_aload_n hx hb dX11_isRightNow_5 rfl (lv_at hl 0 rfl) ?_
      refine va_get (ci := 11) (v := .int (nI T)) (C := RX11) (T := TX11) (N := 28) hx hb hts hiX11 hown hK hP (0) rfl rfl 9 (by decide) (hts (.fieldLink RX11 102 "KingdomAtDiceModel" "things" "I") (by decide +kernel)) (fun _ h9 => h9) rfl dX11_isRightNow_6 ?_
      refine lv_icmp_ge (tgt := 49) hx hb dX11_isRightNow_9 (by decide) (fun c_9 => ?_) (fun c_9 => ?_)
      · have n_9 : T ≤ i := kd_ce (a := T) (b := i) (by omega) (by omega) c_9
        refine lv_iload_n hx hb dX11_isRightNow_49 rfl (lv_at hl 1 rfl) ?_
        exact kd_zret hx hb hr hlocks hK hS dX11_isRightNow_50 (by rw [ha]; exact kd_rn_z _ _) (()) (by rw [ha, show i = T by omega]) hP hD
      · have n_9 : i < T := kd_cne (a := T) (b := i) (by omega) (by omega) c_9
        refine lv_iload_n hx hb dX11_isRightNow_12 rfl (lv_at hl 1 rfl) ?_
        refine lv_if_eq (tgt := 41) hx hb dX11_isRightNow_13 (by decide) (fun c_13 => ?_) (fun c_13 => ?_)
        · refine lv_iconst (v := 0) hx hb dX11_isRightNow_41 (by decide) ?_
          refine lv_istore_n (lv' := [(1, .int 0), (0, .ref mo), (2, .int (nI i))]) hx hb dX11_isRightNow_42 rfl hl (by decide) rfl (fun ls hl => ?_)
          refine lv_iinc (v := nI (i + 1)) (lv' := [(2, .int (nI (i + 1))), (1, .int 0), (0, .ref mo)]) hx hb dX11_isRightNow_43 hl (k := 2) rfl (nI_1 _) (by decide) rfl (fun ls hl => ?_)
          refine lv_goto (tgt := 4) hx hb dX11_isRightNow_46 (by decide) ?_
          exact ih_4 (i + 1) 0 (by omega) (by rw [kd_rn, ← ha, if_pos c_13]) (by omega) _ _ hP hD hS ls (lv_sub hl [2, 1, 0] rfl)
        · refine lv_aload_n hx hb dX11_isRightNow_16 rfl (lv_at hl 0 rfl) ?_
          refine va_get (ci := 11) (v := .ref mw) (C := RX11) (T := TX11) (N := 28) hx hb hts hiX11 hown hK hP (0) rfl rfl 13 (by decide) (hts (.fieldLink RX11 25 "KingdomAtDiceModel" "rows" "[I") (by decide +kernel)) (fun _ h9 => h9) rfl dX11_isRightNow_17 ?_
          refine lv_bipush (v := 6) hx hb dX11_isRightNow_20 (by decide) ?_
          refine lv_iload_n hx hb dX11_isRightNow_22 rfl (lv_at hl 2 rfl) ?_
          refine lv_imul hx hb dX11_isRightNow_23 ?_
          refine kd_top (pk_mul 6 i) ?_
          refine kd_iald hx hb hK hP 1 (k := 6 * i) rfl (by omega) (by decide) dX11_isRightNow_24 ?_
          refine lv_iconst (v := 2) hx hb dX11_isRightNow_25 (by decide) ?_
          refine lv_icmp_ne (tgt := 37) hx hb dX11_isRightNow_26 (by decide) (fun c_26 => ?_) (fun c_26 => ?_)
          · refine lv_iconst (v := 1) hx hb dX11_isRightNow_37 (by decide) ?_
            refine lv_goto (tgt := 42) hx hb dX11_isRightNow_38 (by decide) ?_
            refine lv_istore_n (lv' := [(1, .int 1), (0, .ref mo), (2, .int (nI i))]) hx hb dX11_isRightNow_42 rfl hl (by decide) rfl (fun ls hl => ?_)
            refine lv_iinc (v := nI (i + 1)) (lv' := [(2, .int (nI (i + 1))), (1, .int 1), (0, .ref mo)]) hx hb dX11_isRightNow_43 hl (k := 2) rfl (nI_1 _) (by decide) rfl (fun ls hl => ?_)
            refine lv_goto (tgt := 4) hx hb dX11_isRightNow_46 (by decide) ?_
            exact ih_4 (i + 1) 1 (by omega) (by rw [kd_rn, ← ha, if_neg c_13, if_neg c_26]) (by omega) _ _ hP hD hS ls (lv_sub hl [2, 1, 0] rfl)
          · refine lv_aload_n hx hb dX11_isRightNow_29 rfl (lv_at hl 0 rfl) ?_
            refine lv_iload_n hx hb dX11_isRightNow_30 rfl (lv_at hl 2 rfl) ?_
            refine kd_callIK (g := g) (wc := [(mo, .inr (11, [.ref mt, .ref mb, .ref mp, .int (nI qn), .ref mr, .int (nI rm), .int rs, .ref mk, .int (nI zt), .int (nI T), .int go, .int (nI th), .int (nI nh), .ref mw, .ref mc, .ref mn, .ref mx, .int (nI sm), .ref ms, .int se, .ref mv, .int kh, .int kg, .int (nI kt), .int (nI ks), .ref mq, .ref mu, .long hsh])), (mw, .inl (g.2.1 0, 36, .inl rf))]) (va_runV (mc := 0) (ms := 0) (rm := { frames := 0, cells := 0, slots := 0, locals := 0 }) (As := [.int (nI i)]) (rest := []) ⟨hx, hb, hml, hown, hts⟩ (c_X11_isKings l g H.size mo mt mb mp qn mr rm rs mk zt T go th nh mw mc mn mx sm ms se mv kh kg kt ks mq mu hsh rf i (by omega)) (cwV 1 hts gX11_isRightNow_X11_isKings rfl rfl rfl (by decide +kernel) ⟨Nat.le_of_ble_eq_true rfl, Nat.le_of_ble_eq_true rfl⟩) (kd_preV (wc := [(mo, .inr (11, [.ref mt, .ref mb, .ref mp, .int (nI qn), .ref mr, .int (nI rm), .int rs, .ref mk, .int (nI zt), .int (nI T), .int go, .int (nI th), .int (nI nh), .ref mw, .ref mc, .ref mn, .ref mx, .int (nI sm), .ref ms, .int se, .ref mv, .int kh, .int kg, .int (nI kt), .int (nI ks), .ref mq, .ref mu, .long hsh])), (mw, .inl (g.2.1 0, 36, .inl rf))]) (va_recv hK hP (ci := 11) (q0 := 0) rfl rfl) hP hD hS hA hK hE [0, 1] rfl (by decide)) rfl rfl hl.1 rfl (lv_room (Nat.le_of_ble_eq_true rfl)) dX11_isRightNow_31 ⟨Nat.le_of_ble_eq_true rfl, Nat.le_of_ble_eq_true rfl⟩) hP hD hS hA [0, 1] rfl (fun r_31 _ H locs hw hP hS => ?_)
            subst hw
            refine lv_if_eq (tgt := 41) hx hb dX11_isRightNow_34 (by decide) (fun c_34 => ?_) (fun c_34 => ?_)
            · refine lv_iconst (v := 0) hx hb dX11_isRightNow_41 (by decide) ?_
              refine lv_istore_n (lv' := [(1, .int 0), (0, .ref mo), (2, .int (nI i))]) hx hb dX11_isRightNow_42 rfl hl (by decide) rfl (fun ls hl => ?_)
              refine lv_iinc (v := nI (i + 1)) (lv' := [(2, .int (nI (i + 1))), (1, .int 0), (0, .ref mo)]) hx hb dX11_isRightNow_43 hl (k := 2) rfl (nI_1 _) (by decide) rfl (fun ls hl => ?_)
              refine lv_goto (tgt := 4) hx hb dX11_isRightNow_46 (by decide) ?_
              exact ih_4 (i + 1) 0 (by omega) (by rw [kd_rn, ← ha, if_neg c_13, if_pos c_26, if_pos c_34]) (by omega) _ _ hP hD hS ls (lv_sub hl [2, 1, 0] rfl)
            · refine lv_iconst (v := 1) hx hb dX11_isRightNow_37 (by decide) ?_
              refine lv_goto (tgt := 42) hx hb dX11_isRightNow_38 (by decide) ?_
              refine lv_istore_n (lv' := [(1, .int 1), (0, .ref mo), (2, .int (nI i))]) hx hb dX11_isRightNow_42 rfl hl (by decide) rfl (fun ls hl => ?_)
              refine lv_iinc (v := nI (i + 1)) (lv' := [(2, .int (nI (i + 1))), (1, .int 1), (0, .ref mo)]) hx hb dX11_isRightNow_43 hl (k := 2) rfl (nI_1 _) (by decide) rfl (fun ls hl => ?_)
              refine lv_goto (tgt := 4) hx hb dX11_isRightNow_46 (by decide) ?_
              exact ih_4 (i + 1) 1 (by omega) (by rw [kd_rn, ← ha, if_neg c_13, if_pos c_26, if_neg c_34]) (by omega) _ _ hP hD hS ls (lv_sub hl [2, 1, 0] rfl)
  exact loop_4 ((T - 0) + 1) 0 1 (by omega) rfl (Nat.lt_succ_self _) _ _ hP hD hS ls (lv_sub hl [2, 1, 0] rfl)
/-- what KingdomAtDiceModel.loses answers and leaves, by its instructions -/
def sp_X11_loses (T : Nat) (th : Nat) (rf : Nat → Int32) (t : Nat) : (Nat → Int32) :=
  if (kd_rn rf T) = 0 then
    (sp_X11_goesOver (upd (upd rf ((6 * t) + 4) 0) ((6 * t) + 3) (nI th)) t 1)
  else
    (sp_X11_goesOver (upd (upd rf ((6 * t) + 4) 1) ((6 * t) + 3) (nI th)) t 1)
set_option maxHeartbeats 4000000 in
set_option maxRecDepth 100000 in
theorem c_X11_loses (l : Launch) (g : kd_G) (sz : Nat) (mo : Nat) (mt : Nat) (mb : Nat) (mp : Nat) (qn : Nat) (mr : Nat) (rm : Nat) (rs : Int32) (mk : Nat) (zt : Nat) (T : Nat) (go : Int32) (th : Nat) (nh : Nat) (mw : Nat) (mc : Nat) (mn : Nat) (mx : Nat) (sm : Nat) (ms : Nat) (se : Int32) (mv : Nat) (kh : Int32) (kg : Int32) (kt : Nat) (ks : Nat) (mq : Nat) (mu : Nat) (hsh : Int64) (rf : Nat → Int32) (t : Nat) (hT : T ≤ 6) (ht : t < 6) : kd_MV l yX11_loses wsX11_loses ({ frames := 2, cells := 0, slots := 0, locals := 43 }) [.ref mo, .int (nI t)] g [(mo, .inr (11, [.ref mt, .ref mb, .ref mp, .int (nI qn), .ref mr, .int (nI rm), .int rs, .ref mk, .int (nI zt), .int (nI T), .int go, .int (nI th), .int (nI nh), .ref mw, .ref mc, .ref mn, .ref mx, .int (nI sm), .ref ms, .int se, .ref mv, .int kh, .int kg, .int (nI kt), .int (nI ks), .ref mq, .ref mu, .long hsh])), (mw, .inl (g.2.1 0, 36, .inl rf))] sz (fun (u : (Nat → Int32)) => u = sp_X11_loses T th rf t) (fun u => [(mo, .inr (11, [.ref mt, .ref mb, .ref mp, .int (nI qn), .ref mr, .int (nI rm), .int rs, .ref mk, .int (nI zt), .int (nI T), .int go, .int (nI th), .int (nI nh), .ref mw, .ref mc, .ref mn, .ref mx, .int (nI sm), .ref ms, .int se, .ref mv, .int kh, .int kg, .int (nI kt), .int (nI ks), .ref mq, .ref mu, .long hsh])), (mw, .inl (g.2.1 0, 36, .inl u))]) 0 0 := by
  refine kd_met (l := l) (y := yX11_loses) (ws := wsX11_loses) (rm := { frames := 2, cells := 0, slots := 0, locals := 43 }) (av := [.ref mo, .int (nI t)]) (g := g) (WS := [(mo, .inr (11, [.ref mt, .ref mb, .ref mp, .int (nI qn), .ref mr, .int (nI rm), .int rs, .ref mk, .int (nI zt), .int (nI T), .int go, .int (nI th), .int (nI nh), .ref mw, .ref mc, .ref mn, .ref mx, .int (nI sm), .ref ms, .int se, .ref mv, .int kh, .int kg, .int (nI kt), .int (nI ks), .ref mq, .ref mu, .long hsh])), (mw, .inl (g.2.1 0, 36, .inl rf))]) (sz := sz) (mc := 0) (ms := 0) (cc := cX11_loses) (maxL := 2) (ret := none) (own := RX11) (fun A => va_Qv (fun (u : (Nat → Int32)) => u = sp_X11_loses T th rf t) (fun u t => kd_post g A [(mo, .inr (11, [.ref mt, .ref mb, .ref mp, .int (nI qn), .ref mr, .int (nI rm), .int rs, .ref mk, .int (nI zt), .int (nI T), .int go, .int (nI th), .int (nI nh), .ref mw, .ref mc, .ref mn, .ref mx, .int (nI sm), .ref ms, .int se, .ref mv, .int kh, .int kg, .int (nI kt), .int (nI ks), .ref mq, .ref mu, .long hsh])), (mw, .inl (g.2.1 0, 36, .inl u))] t) A) (by decide) rfl rfl (Nat.le_of_ble_eq_true rfl) ?_
  intro p e s m below meth c A ls hx hb hr hml hts hown hlocks hnm hA hP hK hD hS hE hl
  have hl : lv_has ls 2 [(0, .ref mo), (1, .int (nI t))] := hl
  have hiX11 : ∀ w ∈ u_ws RX11 TX11 28, w ∈ wsX11_loses := by decide +kernel
  refine lv_aload_n hx hb dX11_loses_0 rfl (lv_at hl 0 rfl) ?_
  refine va_get (ci := 11) (v := .ref mw) (C := RX11) (T := TX11) (N := 28) hx hb hts hiX11 hown hK hP (0) rfl rfl 13 (by decide) (hts (.fieldLink RX11 25 "KingdomAtDiceModel" "rows" "[I") (by decide +kernel)) (fun _ h9 => h9) rfl dX11_loses_1 ?_
  refine lv_bipush (v := 6) hx hb dX11_loses_4 (by decide) ?_
  refine lv_iload_n hx hb dX11_loses_6 rfl (lv_at hl 1 rfl) ?_
  refine lv_imul hx hb dX11_loses_7 ?_
  refine kd_top (pk_mul 6 t) ?_
  refine lv_iconst (v := 4) hx hb dX11_loses_8 (by decide) ?_
  refine lv_iadd hx hb dX11_loses_9 ?_
  refine kd_top (nI_add (6 * t) 4) ?_
  refine lv_aload_n hx hb dX11_loses_10 rfl (lv_at hl 0 rfl) ?_
  refine kd_callIK (g := g) (wc := [(mo, .inr (11, [.ref mt, .ref mb, .ref mp, .int (nI qn), .ref mr, .int (nI rm), .int rs, .ref mk, .int (nI zt), .int (nI T), .int go, .int (nI th), .int (nI nh), .ref mw, .ref mc, .ref mn, .ref mx, .int (nI sm), .ref ms, .int se, .ref mv, .int kh, .int kg, .int (nI kt), .int (nI ks), .ref mq, .ref mu, .long hsh])), (mw, .inl (g.2.1 0, 36, .inl rf))]) (va_runV (mc := 0) (ms := 0) (rm := { frames := 1, cells := 0, slots := 0, locals := 21 }) (As := []) (rest := [.int (nI ((6 * t) + 4)), .ref mw]) ⟨hx, hb, hml, hown, hts⟩ (c_X11_isRightNow l g s.heap.size mo mt mb mp qn mr rm rs mk zt T go th nh mw mc mn mx sm ms se mv kh kg kt ks mq mu hsh rf hT) (cwV 0 hts gX11_loses_X11_isRightNow rfl rfl rfl (by decide +kernel) ⟨Nat.le_of_ble_eq_true rfl, Nat.le_of_ble_eq_true rfl⟩) (kd_preV (wc := [(mo, .inr (11, [.ref mt, .ref mb, .ref mp, .int (nI qn), .ref mr, .int (nI rm), .int rs, .ref mk, .int (nI zt), .int (nI T), .int go, .int (nI th), .int (nI nh), .ref mw, .ref mc, .ref mn, .ref mx, .int (nI sm), .ref ms, .int se, .ref mv, .int kh, .int kg, .int (nI kt), .int (nI ks), .ref mq, .ref mu, .long hsh])), (mw, .inl (g.2.1 0, 36, .inl rf))]) (va_recv hK hP (ci := 11) (q0 := 0) rfl rfl) hP hD hS hA hK hE [0, 1] rfl (by decide)) rfl rfl hl.1 rfl (lv_room (Nat.le_of_ble_eq_true rfl)) dX11_loses_11 ⟨Nat.le_of_ble_eq_true rfl, Nat.le_of_ble_eq_true rfl⟩) hP hD hS hA [0, 1] rfl (fun r_11 _ H locs hw hP hS => ?_)
  subst hw
  refine lv_if_eq (tgt := 21) hx hb dX11_loses_14 (by decide) (fun c_14 => ?_) (fun c_14 => ?_)
  · refine lv_iconst (v := 0) hx hb dX11_loses_21 (by decide) ?_
    refine kd_iast hx hb hK hP hD hS 1 (k := (6 * t) + 4) rfl (by omega) (by decide) dX11_loses_22 (fun H locs hP hD hS => ?_)
    have hP : va_P g.1 vwCl [(mo, .inr (11, [.ref mt, .ref mb, .ref mp, .int (nI qn), .ref mr, .int (nI rm), .int rs, .ref mk, .int (nI zt), .int (nI T), .int go, .int (nI th), .int (nI nh), .ref mw, .ref mc, .ref mn, .ref mx, .int (nI sm), .ref ms, .int se, .ref mv, .int kh, .int kg, .int (nI kt), .int (nI ks), .ref mq, .ref mu, .long hsh])), (mw, .inl (g.2.1 0, 36, .inl (upd rf ((6 * t) + 4) 0)))] H := hP
    have hD : va_D A [(mo, .inr (11, [.ref mt, .ref mb, .ref mp, .int (nI qn), .ref mr, .int (nI rm), .int rs, .ref mk, .int (nI zt), .int (nI T), .int go, .int (nI th), .int (nI nh), .ref mw, .ref mc, .ref mn, .ref mx, .int (nI sm), .ref ms, .int se, .ref mv, .int kh, .int kg, .int (nI kt), .int (nI ks), .ref mq, .ref mu, .long hsh])), (mw, .inl (g.2.1 0, 36, .inl (upd rf ((6 * t) + 4) 0)))] := hD
    refine lv_aload_n hx hb dX11_loses_23 rfl (lv_at hl 0 rfl) ?_
    refine va_get (ci := 11) (v := .ref mw) (C := RX11) (T := TX11) (N := 28) hx hb hts hiX11 hown hK hP (0) rfl rfl 13 (by decide) (hts (.fieldLink RX11 25 "KingdomAtDiceModel" "rows" "[I") (by decide +kernel)) (fun _ h9 => h9) rfl dX11_loses_24 ?_
    refine lv_bipush (v := 6) hx hb dX11_loses_27 (by decide) ?_
    refine lv_iload_n hx hb dX11_loses_29 rfl (lv_at hl 1 rfl) ?_
    refine lv_imul hx hb dX11_loses_30 ?_
    refine kd_top (pk_mul 6 t) ?_
    refine lv_iconst (v := 3) hx hb dX11_loses_31 (by decide) ?_
    refine lv_iadd hx hb dX11_loses_32 ?_
    refine kd_top (nI_add (6 * t) 3) ?_
    refine lv_aload_n hx hb dX11_loses_33 rfl (lv_at hl 0 rfl) ?_
    refine va_get (ci := 11) (v := .int (nI th)) (C := RX11) (T := TX11) (N := 28) hx hb hts hiX11 hown hK hP (0) rfl rfl 11 (by decide) (hts (.fieldLink RX11 112 "KingdomAtDiceModel" "throwsNow" "I") (by decide +kernel)) (fun _ h9 => h9) rfl dX11_loses_34 ?_
    refine kd_iast hx hb hK hP hD hS 1 (k := (6 * t) + 3) rfl (by omega) (by decide) dX11_loses_37 (fun H locs hP hD hS => ?_)
    have hP : va_P g.1 vwCl [(mo, .inr (11, [.ref mt, .ref mb, .ref mp, .int (nI qn), .ref mr, .int (nI rm), .int rs, .ref mk, .int (nI zt), .int (nI T), .int go, .int (nI th), .int (nI nh), .ref mw, .ref mc, .ref mn, .ref mx, .int (nI sm), .ref ms, .int se, .ref mv, .int kh, .int kg, .int (nI kt), .int (nI ks), .ref mq, .ref mu, .long hsh])), (mw, .inl (g.2.1 0, 36, .inl (upd (upd rf ((6 * t) + 4) 0) ((6 * t) + 3) (nI th))))] H := hP
    have hD : va_D A [(mo, .inr (11, [.ref mt, .ref mb, .ref mp, .int (nI qn), .ref mr, .int (nI rm), .int rs, .ref mk, .int (nI zt), .int (nI T), .int go, .int (nI th), .int (nI nh), .ref mw, .ref mc, .ref mn, .ref mx, .int (nI sm), .ref ms, .int se, .ref mv, .int kh, .int kg, .int (nI kt), .int (nI ks), .ref mq, .ref mu, .long hsh])), (mw, .inl (g.2.1 0, 36, .inl (upd (upd rf ((6 * t) + 4) 0) ((6 * t) + 3) (nI th))))] := hD
    refine lv_aload_n hx hb dX11_loses_38 rfl (lv_at hl 0 rfl) ?_
    refine lv_iload_n hx hb dX11_loses_39 rfl (lv_at hl 1 rfl) ?_
    refine lv_iconst (v := 1) hx hb dX11_loses_40 (by decide) ?_
    refine kd_callVJ (Wf := fun (u : (Nat → Int32)) => [(mo, .inr (11, [.ref mt, .ref mb, .ref mp, .int (nI qn), .ref mr, .int (nI rm), .int rs, .ref mk, .int (nI zt), .int (nI T), .int go, .int (nI th), .int (nI nh), .ref mw, .ref mc, .ref mn, .ref mx, .int (nI sm), .ref ms, .int se, .ref mv, .int kh, .int kg, .int (nI kt), .int (nI ks), .ref mq, .ref mu, .long hsh])), (mw, .inl (g.2.1 0, 36, .inl u))]) (g := g) (wc := [(mo, .inr (11, [.ref mt, .ref mb, .ref mp, .int (nI qn), .ref mr, .int (nI rm), .int rs, .ref mk, .int (nI zt), .int (nI T), .int go, .int (nI th), .int (nI nh), .ref mw, .ref mc, .ref mn, .ref mx, .int (nI sm), .ref ms, .int se, .ref mv, .int kh, .int kg, .int (nI kt), .int (nI ks), .ref mq, .ref mu, .long hsh])), (mw, .inl (g.2.1 0, 36, .inl (upd (upd rf ((6 * t) + 4) 0) ((6 * t) + 3) (nI th))))]) (wr := []) (va_runV (mc := 0) (ms := 0) (rm := { frames := 0, cells := 0, slots := 0, locals := 0 }) (As := [.int (nI t), .int 1]) (rest := []) ⟨hx, hb, hml, hown, hts⟩ (c_X11_goesOver l g H.size mo mt mb mp qn mr rm rs mk zt T go th nh mw mc mn mx sm ms se mv kh kg kt ks mq mu hsh (upd (upd rf ((6 * t) + 4) 0) ((6 * t) + 3) (nI th)) t 1 ht) (cwV 2 hts gX11_loses_X11_goesOver rfl rfl rfl (by decide +kernel) ⟨Nat.le_of_ble_eq_true rfl, Nat.le_of_ble_eq_true rfl⟩) (kd_preV (wc := [(mo, .inr (11, [.ref mt, .ref mb, .ref mp, .int (nI qn), .ref mr, .int (nI rm), .int rs, .ref mk, .int (nI zt), .int (nI T), .int go, .int (nI th), .int (nI nh), .ref mw, .ref mc, .ref mn, .ref mx, .int (nI sm), .ref ms, .int se, .ref mv, .int kh, .int kg, .int (nI kt), .int (nI ks), .ref mq, .ref mu, .long hsh])), (mw, .inl (g.2.1 0, 36, .inl (upd (upd rf ((6 * t) + 4) 0) ((6 * t) + 3) (nI th))))]) (va_recv hK hP (ci := 11) (q0 := 0) rfl rfl) hP hD hS hA hK hE [0, 1] rfl (by decide)) rfl rfl hl.1 rfl (lv_room (Nat.le_of_ble_eq_true rfl)) dX11_loses_41 ⟨Nat.le_of_ble_eq_true rfl, Nat.le_of_ble_eq_true rfl⟩) hP hD hS hA [0, 1] [] rfl rfl (by decide) (by decide) (fun u_41 H locs hw_41 hP hD hS => ?_)
    obtain ⟨rf_41, rfl⟩ : ∃ z, z = u_41 := ⟨_, rfl⟩
    have hP : va_P g.1 vwCl ([] ++ [(mo, .inr (11, [.ref mt, .ref mb, .ref mp, .int (nI qn), .ref mr, .int (nI rm), .int rs, .ref mk, .int (nI zt), .int (nI T), .int go, .int (nI th), .int (nI nh), .ref mw, .ref mc, .ref mn, .ref mx, .int (nI sm), .ref ms, .int se, .ref mv, .int kh, .int kg, .int (nI kt), .int (nI ks), .ref mq, .ref mu, .long hsh])), (mw, .inl (g.2.1 0, 36, .inl rf_41))]) H := hP
    have hD : va_D A ([] ++ [(mo, .inr (11, [.ref mt, .ref mb, .ref mp, .int (nI qn), .ref mr, .int (nI rm), .int rs, .ref mk, .int (nI zt), .int (nI T), .int go, .int (nI th), .int (nI nh), .ref mw, .ref mc, .ref mn, .ref mx, .int (nI sm), .ref ms, .int se, .ref mv, .int kh, .int kg, .int (nI kt), .int (nI ks), .ref mq, .ref mu, .long hsh])), (mw, .inl (g.2.1 0, 36, .inl rf_41))]) := hD
    have hP9 := hP.sub (ws' := [(mo, .inr (11, [.ref mt, .ref mb, .ref mp, .int (nI qn), .ref mr, .int (nI rm), .int rs, .ref mk, .int (nI zt), .int (nI T), .int go, .int (nI th), .int (nI nh), .ref mw, .ref mc, .ref mn, .ref mx, .int (nI sm), .ref ms, .int se, .ref mv, .int kh, .int kg, .int (nI kt), .int (nI ks), .ref mq, .ref mu, .long hsh])), (mw, .inl (g.2.1 0, 36, .inl rf_41))]) [0, 1] rfl
    have hD9 := hD.sub (ws' := [(mo, .inr (11, [.ref mt, .ref mb, .ref mp, .int (nI qn), .ref mr, .int (nI rm), .int rs, .ref mk, .int (nI zt), .int (nI T), .int go, .int (nI th), .int (nI nh), .ref mw, .ref mc, .ref mn, .ref mx, .int (nI sm), .ref ms, .int se, .ref mv, .int kh, .int kg, .int (nI kt), .int (nI ks), .ref mq, .ref mu, .long hsh])), (mw, .inl (g.2.1 0, 36, .inl rf_41))]) [0, 1] (by decide) rfl
    exact kd_vret hx hb hr hlocks hK hS dX11_loses_44 (rf_41) (by have e0_0 := hw_41; (try rewrite [e0_0]); rw [sp_X11_loses, if_pos c_14]) hP9 hD9
  · refine lv_iconst (v := 1) hx hb dX11_loses_17 (by decide) ?_
    refine lv_goto (tgt := 22) hx hb dX11_loses_18 (by decide) ?_
    refine kd_iast hx hb hK hP hD hS 1 (k := (6 * t) + 4) rfl (by omega) (by decide) dX11_loses_22 (fun H locs hP hD hS => ?_)
    have hP : va_P g.1 vwCl [(mo, .inr (11, [.ref mt, .ref mb, .ref mp, .int (nI qn), .ref mr, .int (nI rm), .int rs, .ref mk, .int (nI zt), .int (nI T), .int go, .int (nI th), .int (nI nh), .ref mw, .ref mc, .ref mn, .ref mx, .int (nI sm), .ref ms, .int se, .ref mv, .int kh, .int kg, .int (nI kt), .int (nI ks), .ref mq, .ref mu, .long hsh])), (mw, .inl (g.2.1 0, 36, .inl (upd rf ((6 * t) + 4) 1)))] H := hP
    have hD : va_D A [(mo, .inr (11, [.ref mt, .ref mb, .ref mp, .int (nI qn), .ref mr, .int (nI rm), .int rs, .ref mk, .int (nI zt), .int (nI T), .int go, .int (nI th), .int (nI nh), .ref mw, .ref mc, .ref mn, .ref mx, .int (nI sm), .ref ms, .int se, .ref mv, .int kh, .int kg, .int (nI kt), .int (nI ks), .ref mq, .ref mu, .long hsh])), (mw, .inl (g.2.1 0, 36, .inl (upd rf ((6 * t) + 4) 1)))] := hD
    refine lv_aload_n hx hb dX11_loses_23 rfl (lv_at hl 0 rfl) ?_
    refine va_get (ci := 11) (v := .ref mw) (C := RX11) (T := TX11) (N := 28) hx hb hts hiX11 hown hK hP (0) rfl rfl 13 (by decide) (hts (.fieldLink RX11 25 "KingdomAtDiceModel" "rows" "[I") (by decide +kernel)) (fun _ h9 => h9) rfl dX11_loses_24 ?_
    refine lv_bipush (v := 6) hx hb dX11_loses_27 (by decide) ?_
    refine lv_iload_n hx hb dX11_loses_29 rfl (lv_at hl 1 rfl) ?_
    refine lv_imul hx hb dX11_loses_30 ?_
    refine kd_top (pk_mul 6 t) ?_
    refine lv_iconst (v := 3) hx hb dX11_loses_31 (by decide) ?_
    refine lv_iadd hx hb dX11_loses_32 ?_
    refine kd_top (nI_add (6 * t) 3) ?_
    refine lv_aload_n hx hb dX11_loses_33 rfl (lv_at hl 0 rfl) ?_
    refine va_get (ci := 11) (v := .int (nI th)) (C := RX11) (T := TX11) (N := 28) hx hb hts hiX11 hown hK hP (0) rfl rfl 11 (by decide) (hts (.fieldLink RX11 112 "KingdomAtDiceModel" "throwsNow" "I") (by decide +kernel)) (fun _ h9 => h9) rfl dX11_loses_34 ?_
    refine kd_iast hx hb hK hP hD hS 1 (k := (6 * t) + 3) rfl (by omega) (by decide) dX11_loses_37 (fun H locs hP hD hS => ?_)
    have hP : va_P g.1 vwCl [(mo, .inr (11, [.ref mt, .ref mb, .ref mp, .int (nI qn), .ref mr, .int (nI rm), .int rs, .ref mk, .int (nI zt), .int (nI T), .int go, .int (nI th), .int (nI nh), .ref mw, .ref mc, .ref mn, .ref mx, .int (nI sm), .ref ms, .int se, .ref mv, .int kh, .int kg, .int (nI kt), .int (nI ks), .ref mq, .ref mu, .long hsh])), (mw, .inl (g.2.1 0, 36, .inl (upd (upd rf ((6 * t) + 4) 1) ((6 * t) + 3) (nI th))))] H := hP
    have hD : va_D A [(mo, .inr (11, [.ref mt, .ref mb, .ref mp, .int (nI qn), .ref mr, .int (nI rm), .int rs, .ref mk, .int (nI zt), .int (nI T), .int go, .int (nI th), .int (nI nh), .ref mw, .ref mc, .ref mn, .ref mx, .int (nI sm), .ref ms, .int se, .ref mv, .int kh, .int kg, .int (nI kt), .int (nI ks), .ref mq, .ref mu, .long hsh])), (mw, .inl (g.2.1 0, 36, .inl (upd (upd rf ((6 * t) + 4) 1) ((6 * t) + 3) (nI th))))] := hD
    refine lv_aload_n hx hb dX11_loses_38 rfl (lv_at hl 0 rfl) ?_
    refine lv_iload_n hx hb dX11_loses_39 rfl (lv_at hl 1 rfl) ?_
    refine lv_iconst (v := 1) hx hb dX11_loses_40 (by decide) ?_
    refine kd_callVJ (Wf := fun (u : (Nat → Int32)) => [(mo, .inr (11, [.ref mt, .ref mb, .ref mp, .int (nI qn), .ref mr, .int (nI rm), .int rs, .ref mk, .int (nI zt), .int (nI T), .int go, .int (nI th), .int (nI nh), .ref mw, .ref mc, .ref mn, .ref mx, .int (nI sm), .ref ms, .int se, .ref mv, .int kh, .int kg, .int (nI kt), .int (nI ks), .ref mq, .ref mu, .long hsh])), (mw, .inl (g.2.1 0, 36, .inl u))]) (g := g) (wc := [(mo, .inr (11, [.ref mt, .ref mb, .ref mp, .int (nI qn), .ref mr, .int (nI rm), .int rs, .ref mk, .int (nI zt), .int (nI T), .int go, .int (nI th), .int (nI nh), .ref mw, .ref mc, .ref mn, .ref mx, .int (nI sm), .ref ms, .int se, .ref mv, .int kh, .int kg, .int (nI kt), .int (nI ks), .ref mq, .ref mu, .long hsh])), (mw, .inl (g.2.1 0, 36, .inl (upd (upd rf ((6 * t) + 4) 1) ((6 * t) + 3) (nI th))))]) (wr := []) (va_runV (mc := 0) (ms := 0) (rm := { frames := 0, cells := 0, slots := 0, locals := 0 }) (As := [.int (nI t), .int 1]) (rest := []) ⟨hx, hb, hml, hown, hts⟩ (c_X11_goesOver l g H.size mo mt mb mp qn mr rm rs mk zt T go th nh mw mc mn mx sm ms se mv kh kg kt ks mq mu hsh (upd (upd rf ((6 * t) + 4) 1) ((6 * t) + 3) (nI th)) t 1 ht) (cwV 2 hts gX11_loses_X11_goesOver rfl rfl rfl (by decide +kernel) ⟨Nat.le_of_ble_eq_true rfl, Nat.le_of_ble_eq_true rfl⟩) (kd_preV (wc := [(mo, .inr (11, [.ref mt, .ref mb, .ref mp, .int (nI qn), .ref mr, .int (nI rm), .int rs, .ref mk, .int (nI zt), .int (nI T), .int go, .int (nI th), .int (nI nh), .ref mw, .ref mc, .ref mn, .ref mx, .int (nI sm), .ref ms, .int se, .ref mv, .int kh, .int kg, .int (nI kt), .int (nI ks), .ref mq, .ref mu, .long hsh])), (mw, .inl (g.2.1 0, 36, .inl (upd (upd rf ((6 * t) + 4) 1) ((6 * t) + 3) (nI th))))]) (va_recv hK hP (ci := 11) (q0 := 0) rfl rfl) hP hD hS hA hK hE [0, 1] rfl (by decide)) rfl rfl hl.1 rfl (lv_room (Nat.le_of_ble_eq_true rfl)) dX11_loses_41 ⟨Nat.le_of_ble_eq_true rfl, Nat.le_of_ble_eq_true rfl⟩) hP hD hS hA [0, 1] [] rfl rfl (by decide) (by decide) (fun u_41 H locs hw_41 hP hD hS => ?_)
    obtain ⟨rf_41, rfl⟩ : ∃ z, z = u_41 := ⟨_, rfl⟩
    have hP : va_P g.1 vwCl ([] ++ [(mo, .inr (11, [.ref mt, .ref mb, .ref mp, .int (nI qn), .ref mr, .int (nI rm), .int rs, .ref mk, .int (nI zt), .int (nI T), .int go, .int (nI th), .int (nI nh), .ref mw, .ref mc, .ref mn, .ref mx, .int (nI sm), .ref ms, .int se, .ref mv, .int kh, .int kg, .int (nI kt), .int (nI ks), .ref mq, .ref mu, .long hsh])), (mw, .inl (g.2.1 0, 36, .inl rf_41))]) H := hP
    have hD : va_D A ([] ++ [(mo, .inr (11, [.ref mt, .ref mb, .ref mp, .int (nI qn), .ref mr, .int (nI rm), .int rs, .ref mk, .int (nI zt), .int (nI T), .int go, .int (nI th), .int (nI nh), .ref mw, .ref mc, .ref mn, .ref mx, .int (nI sm), .ref ms, .int se, .ref mv, .int kh, .int kg, .int (nI kt), .int (nI ks), .ref mq, .ref mu, .long hsh])), (mw, .inl (g.2.1 0, 36, .inl rf_41))]) := hD
    have hP9 := hP.sub (ws' := [(mo, .inr (11, [.ref mt, .ref mb, .ref mp, .int (nI qn), .ref mr, .int (nI rm), .int rs, .ref mk, .int (nI zt), .int (nI T), .int go, .int (nI th), .int (nI nh), .ref mw, .ref mc, .ref mn, .ref mx, .int (nI sm), .ref ms, .int se, .ref mv, .int kh, .int kg, .int (nI kt), .int (nI ks), .ref mq, .ref mu, .long hsh])), (mw, .inl (g.2.1 0, 36, .inl rf_41))]) [0, 1] rfl
    have hD9 := hD.sub (ws' := [(mo, .inr (11, [.ref mt, .ref mb, .ref mp, .int (nI qn), .ref mr, .int (nI rm), .int rs, .ref mk, .int (nI zt), .int (nI T), .int go, .int (nI th), .int (nI nh), .ref mw, .ref mc, .ref mn, .ref mx, .int (nI sm), .ref ms, .int se, .ref mv, .int kh, .int kg, .int (nI kt), .int (nI ks), .ref mq, .ref mu, .long hsh])), (mw, .inl (g.2.1 0, 36, .inl rf_41))]) [0, 1] (by decide) rfl
    exact kd_vret hx hb hr hlocks hK hS dX11_loses_44 (rf_41) (by have e0_0 := hw_41; (try rewrite [e0_0]); rw [sp_X11_loses, if_neg c_14]) hP9 hD9

/-- what KingdomAtDiceModel.isByLaw answers and leaves, by its instructions -/
def sp_X11_isByLaw (rf : Nat → Int32) (t : Nat) (p1 : Int32) : Int32 :=
  if (rf ((6 * t) + 4)) = 0 then
    if (p1 - p1 / 2 * 2) = 1 then
      if (rf (6 * t)) = 1 then
        if p1 ≤ 1 then
          if (sp_X11_isKings rf t) = 0 then
            1
          else
            1
        else
          if (sp_X11_isKings rf t) = 0 then
            1
          else
            1
      else
        if (sp_X11_isKings rf t) = 0 then
          1
        else
          1
    else
      if (rf (6 * t)) = 1 then
        if p1 ≤ 1 then
          if (sp_X11_isKings rf t) = 0 then
            0
          else
            1
        else
          if (sp_X11_isKings rf t) = 0 then
            1
          else
            1
      else
        if (sp_X11_isKings rf t) = 0 then
          0
        else
          1
  else
    if (rf (6 * t)) = 1 then
      if p1 ≤ 1 then
        if (sp_X11_isKings rf t) = 0 then
          0
        else
          1
      else
        if (sp_X11_isKings rf t) = 0 then
          1
        else
          1
    else
      if (sp_X11_isKings rf t) = 0 then
        0
      else
        1
theorem zb_X11_isByLaw (rf : Nat → Int32) (t : Nat) (p1 : Int32) : sp_X11_isByLaw rf t p1 = 0 ∨ sp_X11_isByLaw rf t p1 = 1 := by
  unfold sp_X11_isByLaw
  repeat' split
  all_goals first | exact Or.inl rfl | exact Or.inr rfl | simp
set_option maxHeartbeats 4000000 in
set_option maxRecDepth 100000 in
theorem c_X11_isByLaw (l : Launch) (g : kd_G) (sz : Nat) (mo : Nat) (mt : Nat) (mb : Nat) (mp : Nat) (qn : Nat) (mr : Nat) (rm : Nat) (rs : Int32) (mk : Nat) (zt : Nat) (T : Nat) (go : Int32) (th : Nat) (nh : Nat) (mw : Nat) (mc : Nat) (mn : Nat) (mx : Nat) (sm : Nat) (ms : Nat) (se : Int32) (mv : Nat) (kh : Int32) (kg : Int32) (kt : Nat) (ks : Nat) (mq : Nat) (mu : Nat) (hsh : Int64) (rf : Nat → Int32) (t : Nat) (p1 : Int32) (ht : t < 6) : kd_MI l yX11_isByLaw wsX11_isByLaw ({ frames := 1, cells := 0, slots := 0, locals := 21 }) [.ref mo, .int (nI t), .int p1] g [(mo, .inr (11, [.ref mt, .ref mb, .ref mp, .int (nI qn), .ref mr, .int (nI rm), .int rs, .ref mk, .int (nI zt), .int (nI T), .int go, .int (nI th), .int (nI nh), .ref mw, .ref mc, .ref mn, .ref mx, .int (nI sm), .ref ms, .int se, .ref mv, .int kh, .int kg, .int (nI kt), .int (nI ks), .ref mq, .ref mu, .long hsh])), (mw, .inl (g.2.1 0, 36, .inl rf))] sz (fun r (_ : Unit) => r = sp_X11_isByLaw rf t p1) (fun _ => [(mo, .inr (11, [.ref mt, .ref mb, .ref mp, .int (nI qn), .ref mr, .int (nI rm), .int rs, .ref mk, .int (nI zt), .int (nI T), .int go, .int (nI th), .int (nI nh), .ref mw, .ref mc, .ref mn, .ref mx, .int (nI sm), .ref ms, .int se, .ref mv, .int kh, .int kg, .int (nI kt), .int (nI ks), .ref mq, .ref mu, .long hsh])), (mw, .inl (g.2.1 0, 36, .inl rf))]) 0 0 := by
  refine kd_met (l := l) (y := yX11_isByLaw) (ws := wsX11_isByLaw) (rm := { frames := 1, cells := 0, slots := 0, locals := 21 }) (av := [.ref mo, .int (nI t), .int p1]) (g := g) (WS := [(mo, .inr (11, [.ref mt, .ref mb, .ref mp, .int (nI qn), .ref mr, .int (nI rm), .int rs, .ref mk, .int (nI zt), .int (nI T), .int go, .int (nI th), .int (nI nh), .ref mw, .ref mc, .ref mn, .ref mx, .int (nI sm), .ref ms, .int se, .ref mv, .int kh, .int kg, .int (nI kt), .int (nI ks), .ref mq, .ref mu, .long hsh])), (mw, .inl (g.2.1 0, 36, .inl rf))]) (sz := sz) (mc := 0) (ms := 0) (cc := cX11_isByLaw) (maxL := 5) (ret := (some .boolean)) (own := RX11) (fun A => va_Qi (fun r (_ : Unit) => r = sp_X11_isByLaw rf t p1) (fun u t => kd_post g A [(mo, .inr (11, [.ref mt, .ref mb, .ref mp, .int (nI qn), .ref mr, .int (nI rm), .int rs, .ref mk, .int (nI zt), .int (nI T), .int go, .int (nI th), .int (nI nh), .ref mw, .ref mc, .ref mn, .ref mx, .int (nI sm), .ref ms, .int se, .ref mv, .int kh, .int kg, .int (nI kt), .int (nI ks), .ref mq, .ref mu, .long hsh])), (mw, .inl (g.2.1 0, 36, .inl rf))] t) A) (by decide) rfl rfl (Nat.le_of_ble_eq_true rfl) ?_
  intro p e s m below meth c A ls hx hb hr hml hts hown hlocks hnm hA hP hK hD hS hE hl
  have hl : lv_has ls 5 [(0, .ref mo), (1, .int (nI t)), (2, .int p1)] := hl
  have hiX11 : ∀ w ∈ u_ws RX11 TX11 28, w ∈ wsX11_isByLaw := by decide +kernel
  refine lv_aload_n hx hb dX11_isByLaw_0 rfl (lv_at hl 0 rfl) ?_
  refine va_get (ci := 11) (v := .ref mw) (C := RX11) (T := TX11) (N := 28) hx hb hts hiX11 hown hK hP (0) rfl rfl 13 (by decide) (hts (.fieldLink RX11 25 "KingdomAtDiceModel" "rows" "[I") (by decide +kernel)) (fun _ h9 => h9) rfl dX11_isByLaw_1 ?_
  refine lv_bipush (v := 6) hx hb dX11_isByLaw_4 (by decide) ?_
  refine lv_iload_n hx hb dX11_isByLaw_6 rfl (lv_at hl 1 rfl) ?_
  refine lv_imul hx hb dX11_isByLaw_7 ?_
  refine kd_top (pk_mul 6 t) ?_
  refine lv_iconst (v := 4) hx hb dX11_isByLaw_8 (by decide) ?_
  refine lv_iadd hx hb dX11_isByLaw_9 ?_
  refine kd_top (nI_add (6 * t) 4) ?_
  refine kd_iald hx hb hK hP 1 (k := (6 * t) + 4) rfl (by omega) (by decide) dX11_isByLaw_10 ?_
  refine lv_if_ne (tgt := 25) hx hb dX11_isByLaw_11 (by decide) (fun c_11 => ?_) (fun c_11 => ?_)
  · refine lv_iconst (v := 0) hx hb dX11_isByLaw_25 (by decide) ?_
    refine lv_istore_n (lv' := [(3, .int 0), (0, .ref mo), (1, .int (nI t)), (2, .int p1)]) hx hb dX11_isByLaw_26 rfl hl (by decide) rfl (fun ls hl => ?_)
    refine lv_aload_n hx hb dX11_isByLaw_27 rfl (lv_at hl 1 rfl) ?_
    refine va_get (ci := 11) (v := .ref mw) (C := RX11) (T := TX11) (N := 28) hx hb hts hiX11 hown hK hP (0) rfl rfl 13 (by decide) (hts (.fieldLink RX11 25 "KingdomAtDiceModel" "rows" "[I") (by decide +kernel)) (fun _ h9 => h9) rfl dX11_isByLaw_28 ?_
    refine lv_bipush (v := 6) hx hb dX11_isByLaw_31 (by decide) ?_
    refine lv_iload_n hx hb dX11_isByLaw_33 rfl (lv_at hl 2 rfl) ?_
    refine lv_imul hx hb dX11_isByLaw_34 ?_
    refine kd_top (pk_mul 6 t) ?_
    refine kd_iald hx hb hK hP 1 (k := 6 * t) rfl (by omega) (by decide) dX11_isByLaw_35 ?_
    refine lv_iconst (v := 1) hx hb dX11_isByLaw_36 (by decide) ?_
    refine lv_icmp_ne (tgt := 49) hx hb dX11_isByLaw_37 (by decide) (fun c_37 => ?_) (fun c_37 => ?_)
    · refine lv_iconst (v := 0) hx hb dX11_isByLaw_49 (by decide) ?_
      refine lv_istore (lv' := [(4, .int 0), (3, .int 0), (0, .ref mo), (1, .int (nI t)), (2, .int p1)]) hx hb dX11_isByLaw_50 hl (by decide) rfl (fun ls hl => ?_)
      refine lv_aload_n hx hb dX11_isByLaw_52 rfl (lv_at hl 2 rfl) ?_
      refine lv_iload_n hx hb dX11_isByLaw_53 rfl (lv_at hl 3 rfl) ?_
      refine kd_callIK (g := g) (wc := [(mo, .inr (11, [.ref mt, .ref mb, .ref mp, .int (nI qn), .ref mr, .int (nI rm), .int rs, .ref mk, .int (nI zt), .int (nI T), .int go, .int (nI th), .int (nI nh), .ref mw, .ref mc, .ref mn, .ref mx, .int (nI sm), .ref ms, .int se, .ref mv, .int kh, .int kg, .int (nI kt), .int (nI ks), .ref mq, .ref mu, .long hsh])), (mw, .inl (g.2.1 0, 36, .inl rf))]) (va_runV (mc := 0) (ms := 0) (rm := { frames := 0, cells := 0, slots := 0, locals := 0 }) (As := [.int (nI t)]) (rest := []) ⟨hx, hb, hml, hown, hts⟩ (c_X11_isKings l g s.heap.size mo mt mb mp qn mr rm rs mk zt T go th nh mw mc mn mx sm ms se mv kh kg kt ks mq mu hsh rf t ht) (cwV 1 hts gX11_isByLaw_X11_isKings rfl rfl rfl (by decide +kernel) ⟨Nat.le_of_ble_eq_true rfl, Nat.le_of_ble_eq_true rfl⟩) (kd_preV (wc := [(mo, .inr (11, [.ref mt, .ref mb, .ref mp, .int (nI qn), .ref mr, .int (nI rm), .int rs, .ref mk, .int (nI zt), .int (nI T), .int go, .int (nI th), .int (nI nh), .ref mw, .ref mc, .ref mn, .ref mx, .int (nI sm), .ref ms, .int se, .ref mv, .int kh, .int kg, .int (nI kt), .int (nI ks), .ref mq, .ref mu, .long hsh])), (mw, .inl (g.2.1 0, 36, .inl rf))]) (va_recv hK hP (ci := 11) (q0 := 0) rfl rfl) hP hD hS hA hK hE [0, 1] rfl (by decide)) rfl rfl hl.1 rfl (lv_room (Nat.le_of_ble_eq_true rfl)) dX11_isByLaw_54 ⟨Nat.le_of_ble_eq_true rfl, Nat.le_of_ble_eq_true rfl⟩) hP hD hS hA [0, 1] rfl (fun r_54 _ H locs hw hP hS => ?_)
      subst hw
      refine lv_if_ne (tgt := 69) hx hb dX11_isByLaw_57 (by decide) (fun c_57 => ?_) (fun c_57 => ?_)
      · refine lv_iconst (v := 1) hx hb dX11_isByLaw_69 (by decide) ?_
        refine lv_goto (tgt := 74) hx hb dX11_isByLaw_70 (by decide) ?_
        exact kd_zret hx hb hr hlocks hK hS dX11_isByLaw_74 (Or.inr rfl) (()) (by rw [sp_X11_isByLaw, if_neg c_11, if_neg c_37, if_neg c_57]) hP hD
      · refine lv_iload_n hx hb dX11_isByLaw_60 rfl (lv_at hl 1 rfl) ?_
        refine lv_if_ne (tgt := 69) hx hb dX11_isByLaw_61 (by decide) (fun z => absurd (by decide) z) (fun _ => ?_)
        refine lv_iload hx hb dX11_isByLaw_64 (lv_at hl 0 rfl) ?_
        refine lv_if_eq (tgt := 73) hx hb dX11_isByLaw_66 (by decide) (fun _ => ?_) (fun z => absurd (by decide) z)
        refine lv_iconst (v := 0) hx hb dX11_isByLaw_73 (by decide) ?_
        exact kd_zret hx hb hr hlocks hK hS dX11_isByLaw_74 (Or.inl rfl) (()) (by rw [sp_X11_isByLaw, if_neg c_11, if_neg c_37, if_pos c_57]) hP hD
    · refine lv_iload_n hx hb dX11_isByLaw_40 rfl (lv_at hl 3 rfl) ?_
      refine lv_iconst (v := 1) hx hb dX11_isByLaw_41 (by decide) ?_
      refine lv_icmp_le (tgt := 49) hx hb dX11_isByLaw_42 (by decide) (fun c_42 => ?_) (fun c_42 => ?_)
      · refine lv_iconst (v := 0) hx hb dX11_isByLaw_49 (by decide) ?_
        refine lv_istore (lv' := [(4, .int 0), (3, .int 0), (0, .ref mo), (1, .int (nI t)), (2, .int p1)]) hx hb dX11_isByLaw_50 hl (by decide) rfl (fun ls hl => ?_)
        refine lv_aload_n hx hb dX11_isByLaw_52 rfl (lv_at hl 2 rfl) ?_
        refine lv_iload_n hx hb dX11_isByLaw_53 rfl (lv_at hl 3 rfl) ?_
        refine kd_callIK (g := g) (wc := [(mo, .inr (11, [.ref mt, .ref mb, .ref mp, .int (nI qn), .ref mr, .int (nI rm), .int rs, .ref mk, .int (nI zt), .int (nI T), .int go, .int (nI th), .int (nI nh), .ref mw, .ref mc, .ref mn, .ref mx, .int (nI sm), .ref ms, .int se, .ref mv, .int kh, .int kg, .int (nI kt), .int (nI ks), .ref mq, .ref mu, .long hsh])), (mw, .inl (g.2.1 0, 36, .inl rf))]) (va_runV (mc := 0) (ms := 0) (rm := { frames := 0, cells := 0, slots := 0, locals := 0 }) (As := [.int (nI t)]) (rest := []) ⟨hx, hb, hml, hown, hts⟩ (c_X11_isKings l g s.heap.size mo mt mb mp qn mr rm rs mk zt T go th nh mw mc mn mx sm ms se mv kh kg kt ks mq mu hsh rf t ht) (cwV 1 hts gX11_isByLaw_X11_isKings rfl rfl rfl (by decide +kernel) ⟨Nat.le_of_ble_eq_true rfl, Nat.le_of_ble_eq_true rfl⟩) (kd_preV (wc := [(mo, .inr (11, [.ref mt, .ref mb, .ref mp, .int (nI qn), .ref mr, .int (nI rm), .int rs, .ref mk, .int (nI zt), .int (nI T), .int go, .int (nI th), .int (nI nh), .ref mw, .ref mc, .ref mn, .ref mx, .int (nI sm), .ref ms, .int se, .ref mv, .int kh, .int kg, .int (nI kt), .int (nI ks), .ref mq, .ref mu, .long hsh])), (mw, .inl (g.2.1 0, 36, .inl rf))]) (va_recv hK hP (ci := 11) (q0 := 0) rfl rfl) hP hD hS hA hK hE [0, 1] rfl (by decide)) rfl rfl hl.1 rfl (lv_room (Nat.le_of_ble_eq_true rfl)) dX11_isByLaw_54 ⟨Nat.le_of_ble_eq_true rfl, Nat.le_of_ble_eq_true rfl⟩) hP hD hS hA [0, 1] rfl (fun r_54 _ H locs hw hP hS => ?_)
        subst hw
        refine lv_if_ne (tgt := 69) hx hb dX11_isByLaw_57 (by decide) (fun c_57 => ?_) (fun c_57 => ?_)
        · refine lv_iconst (v := 1) hx hb dX11_isByLaw_69 (by decide) ?_
          refine lv_goto (tgt := 74) hx hb dX11_isByLaw_70 (by decide) ?_
          exact kd_zret hx hb hr hlocks hK hS dX11_isByLaw_74 (Or.inr rfl) (()) (by rw [sp_X11_isByLaw, if_neg c_11, if_pos c_37, if_pos c_42, if_neg c_57]) hP hD
        · refine lv_iload_n hx hb dX11_isByLaw_60 rfl (lv_at hl 1 rfl) ?_
          refine lv_if_ne (tgt := 69) hx hb dX11_isByLaw_61 (by decide) (fun z => absurd (by decide) z) (fun _ => ?_)
          refine lv_iload hx hb dX11_isByLaw_64 (lv_at hl 0 rfl) ?_
          refine lv_if_eq (tgt := 73) hx hb dX11_isByLaw_66 (by decide) (fun _ => ?_) (fun z => absurd (by decide) z)
          refine lv_iconst (v := 0) hx hb dX11_isByLaw_73 (by decide) ?_
          exact kd_zret hx hb hr hlocks hK hS dX11_isByLaw_74 (Or.inl rfl) (()) (by rw [sp_X11_isByLaw, if_neg c_11, if_pos c_37, if_pos c_42, if_pos c_57]) hP hD
      · refine lv_iconst (v := 1) hx hb dX11_isByLaw_45 (by decide) ?_
        refine lv_goto (tgt := 50) hx hb dX11_isByLaw_46 (by decide) ?_
        refine lv_istore (lv' := [(4, .int 1), (3, .int 0), (0, .ref mo), (1, .int (nI t)), (2, .int p1)]) hx hb dX11_isByLaw_50 hl (by decide) rfl (fun ls hl => ?_)
        refine lv_aload_n hx hb dX11_isByLaw_52 rfl (lv_at hl 2 rfl) ?_
        refine lv_iload_n hx hb dX11_isByLaw_53 rfl (lv_at hl 3 rfl) ?_
        refine kd_callIK (g := g) (wc := [(mo, .inr (11, [.ref mt, .ref mb, .ref mp, .int (nI qn), .ref mr, .int (nI rm), .int rs, .ref mk, .int (nI zt), .int (nI T), .int go, .int (nI th), .int (nI nh), .ref mw, .ref mc, .ref mn, .ref mx, .int (nI sm), .ref ms, .int se, .ref mv, .int kh, .int kg, .int (nI kt), .int (nI ks), .ref mq, .ref mu, .long hsh])), (mw, .inl (g.2.1 0, 36, .inl rf))]) (va_runV (mc := 0) (ms := 0) (rm := { frames := 0, cells := 0, slots := 0, locals := 0 }) (As := [.int (nI t)]) (rest := []) ⟨hx, hb, hml, hown, hts⟩ (c_X11_isKings l g s.heap.size mo mt mb mp qn mr rm rs mk zt T go th nh mw mc mn mx sm ms se mv kh kg kt ks mq mu hsh rf t ht) (cwV 1 hts gX11_isByLaw_X11_isKings rfl rfl rfl (by decide +kernel) ⟨Nat.le_of_ble_eq_true rfl, Nat.le_of_ble_eq_true rfl⟩) (kd_preV (wc := [(mo, .inr (11, [.ref mt, .ref mb, .ref mp, .int (nI qn), .ref mr, .int (nI rm), .int rs, .ref mk, .int (nI zt), .int (nI T), .int go, .int (nI th), .int (nI nh), .ref mw, .ref mc, .ref mn, .ref mx, .int (nI sm), .ref ms, .int se, .ref mv, .int kh, .int kg, .int (nI kt), .int (nI ks), .ref mq, .ref mu, .long hsh])), (mw, .inl (g.2.1 0, 36, .inl rf))]) (va_recv hK hP (ci := 11) (q0 := 0) rfl rfl) hP hD hS hA hK hE [0, 1] rfl (by decide)) rfl rfl hl.1 rfl (lv_room (Nat.le_of_ble_eq_true rfl)) dX11_isByLaw_54 ⟨Nat.le_of_ble_eq_true rfl, Nat.le_of_ble_eq_true rfl⟩) hP hD hS hA [0, 1] rfl (fun r_54 _ H locs hw hP hS => ?_)
        subst hw
        refine lv_if_ne (tgt := 69) hx hb dX11_isByLaw_57 (by decide) (fun c_57 => ?_) (fun c_57 => ?_)
        · refine lv_iconst (v := 1) hx hb dX11_isByLaw_69 (by decide) ?_
          refine lv_goto (tgt := 74) hx hb dX11_isByLaw_70 (by decide) ?_
          exact kd_zret hx hb hr hlocks hK hS dX11_isByLaw_74 (Or.inr rfl) (()) (by rw [sp_X11_isByLaw, if_neg c_11, if_pos c_37, if_neg c_42, if_neg c_57]) hP hD
        · refine lv_iload_n hx hb dX11_isByLaw_60 rfl (lv_at hl 1 rfl) ?_
          refine lv_if_ne (tgt := 69) hx hb dX11_isByLaw_61 (by decide) (fun z => absurd (by decide) z) (fun _ => ?_)
          refine lv_iload hx hb dX11_isByLaw_64 (lv_at hl 0 rfl) ?_
          refine lv_if_eq (tgt := 73) hx hb dX11_isByLaw_66 (by decide) (fun z => absurd z (by decide)) (fun _ => ?_)
          refine lv_iconst (v := 1) hx hb dX11_isByLaw_69 (by decide) ?_
          refine lv_goto (tgt := 74) hx hb dX11_isByLaw_70 (by decide) ?_
          exact kd_zret hx hb hr hlocks hK hS dX11_isByLaw_74 (Or.inr rfl) (()) (by rw [sp_X11_isByLaw, if_neg c_11, if_pos c_37, if_neg c_42, if_pos c_57]) hP hD
  · refine lv_iload_n hx hb dX11_isByLaw_14 rfl (lv_at hl 2 rfl) ?_
    refine lv_iconst (v := 2) hx hb dX11_isByLaw_15 (by decide) ?_
    refine lv_irem hx hb dX11_isByLaw_16 (by decide) ?_
    refine lv_iconst (v := 1) hx hb dX11_isByLaw_17 (by decide) ?_
    refine lv_icmp_ne (tgt := 25) hx hb dX11_isByLaw_18 (by decide) (fun c_18 => ?_) (fun c_18 => ?_)
    · refine lv_iconst (v := 0) hx hb dX11_isByLaw_25 (by decide) ?_
      refine lv_istore_n (lv' := [(3, .int 0), (0, .ref mo), (1, .int (nI t)), (2, .int p1)]) hx hb dX11_isByLaw_26 rfl hl (by decide) rfl (fun ls hl => ?_)
      refine lv_aload_n hx hb dX11_isByLaw_27 rfl (lv_at hl 1 rfl) ?_
      refine va_get (ci := 11) (v := .ref mw) (C := RX11) (T := TX11) (N := 28) hx hb hts hiX11 hown hK hP (0) rfl rfl 13 (by decide) (hts (.fieldLink RX11 25 "KingdomAtDiceModel" "rows" "[I") (by decide +kernel)) (fun _ h9 => h9) rfl dX11_isByLaw_28 ?_
      refine lv_bipush (v := 6) hx hb dX11_isByLaw_31 (by decide) ?_
      refine lv_iload_n hx hb dX11_isByLaw_33 rfl (lv_at hl 2 rfl) ?_
      refine lv_imul hx hb dX11_isByLaw_34 ?_
      refine kd_top (pk_mul 6 t) ?_
      refine kd_iald hx hb hK hP 1 (k := 6 * t) rfl (by omega) (by decide) dX11_isByLaw_35 ?_
      refine lv_iconst (v := 1) hx hb dX11_isByLaw_36 (by decide) ?_
      refine lv_icmp_ne (tgt := 49) hx hb dX11_isByLaw_37 (by decide) (fun c_37 => ?_) (fun c_37 => ?_)
      · refine lv_iconst (v := 0) hx hb dX11_isByLaw_49 (by decide) ?_
        refine lv_istore (lv' := [(4, .int 0), (3, .int 0), (0, .ref mo), (1, .int (nI t)), (2, .int p1)]) hx hb dX11_isByLaw_50 hl (by decide) rfl (fun ls hl => ?_)
        refine lv_aload_n hx hb dX11_isByLaw_52 rfl (lv_at hl 2 rfl) ?_
        refine lv_iload_n hx hb dX11_isByLaw_53 rfl (lv_at hl 3 rfl) ?_
        refine kd_callIK (g := g) (wc := [(mo, .inr (11, [.ref mt, .ref mb, .ref mp, .int (nI qn), .ref mr, .int (nI rm), .int rs, .ref mk, .int (nI zt), .int (nI T), .int go, .int (nI th), .int (nI nh), .ref mw, .ref mc, .ref mn, .ref mx, .int (nI sm), .ref ms, .int se, .ref mv, .int kh, .int kg, .int (nI kt), .int (nI ks), .ref mq, .ref mu, .long hsh])), (mw, .inl (g.2.1 0, 36, .inl rf))]) (va_runV (mc := 0) (ms := 0) (rm := { frames := 0, cells := 0, slots := 0, locals := 0 }) (As := [.int (nI t)]) (rest := []) ⟨hx, hb, hml, hown, hts⟩ (c_X11_isKings l g s.heap.size mo mt mb mp qn mr rm rs mk zt T go th nh mw mc mn mx sm ms se mv kh kg kt ks mq mu hsh rf t ht) (cwV 1 hts gX11_isByLaw_X11_isKings rfl rfl rfl (by decide +kernel) ⟨Nat.le_of_ble_eq_true rfl, Nat.le_of_ble_eq_true rfl⟩) (kd_preV (wc := [(mo, .inr (11, [.ref mt, .ref mb, .ref mp, .int (nI qn), .ref mr, .int (nI rm), .int rs, .ref mk, .int (nI zt), .int (nI T), .int go, .int (nI th), .int (nI nh), .ref mw, .ref mc, .ref mn, .ref mx, .int (nI sm), .ref ms, .int se, .ref mv, .int kh, .int kg, .int (nI kt), .int (nI ks), .ref mq, .ref mu, .long hsh])), (mw, .inl (g.2.1 0, 36, .inl rf))]) (va_recv hK hP (ci := 11) (q0 := 0) rfl rfl) hP hD hS hA hK hE [0, 1] rfl (by decide)) rfl rfl hl.1 rfl (lv_room (Nat.le_of_ble_eq_true rfl)) dX11_isByLaw_54 ⟨Nat.le_of_ble_eq_true rfl, Nat.le_of_ble_eq_true rfl⟩) hP hD hS hA [0, 1] rfl (fun r_54 _ H locs hw hP hS => ?_)
        subst hw
        refine lv_if_ne (tgt := 69) hx hb dX11_isByLaw_57 (by decide) (fun c_57 => ?_) (fun c_57 => ?_)
        · refine lv_iconst (v := 1) hx hb dX11_isByLaw_69 (by decide) ?_
          refine lv_goto (tgt := 74) hx hb dX11_isByLaw_70 (by decide) ?_
          exact kd_zret hx hb hr hlocks hK hS dX11_isByLaw_74 (Or.inr rfl) (()) (by rw [sp_X11_isByLaw, if_pos c_11, if_neg c_18, if_neg c_37, if_neg c_57]) hP hD
        · refine lv_iload_n hx hb dX11_isByLaw_60 rfl (lv_at hl 1 rfl) ?_
          refine lv_if_ne (tgt := 69) hx hb dX11_isByLaw_61 (by decide) (fun z => absurd (by decide) z) (fun _ => ?_)
          refine lv_iload hx hb dX11_isByLaw_64 (lv_at hl 0 rfl) ?_
          refine lv_if_eq (tgt := 73) hx hb dX11_isByLaw_66 (by decide) (fun _ => ?_) (fun z => absurd (by decide) z)
          refine lv_iconst (v := 0) hx hb dX11_isByLaw_73 (by decide) ?_
          exact kd_zret hx hb hr hlocks hK hS dX11_isByLaw_74 (Or.inl rfl) (()) (by rw [sp_X11_isByLaw, if_pos c_11, if_neg c_18, if_neg c_37, if_pos c_57]) hP hD
      · refine lv_iload_n hx hb dX11_isByLaw_40 rfl (lv_at hl 3 rfl) ?_
        refine lv_iconst (v := 1) hx hb dX11_isByLaw_41 (by decide) ?_
        refine lv_icmp_le (tgt := 49) hx hb dX11_isByLaw_42 (by decide) (fun c_42 => ?_) (fun c_42 => ?_)
        · refine lv_iconst (v := 0) hx hb dX11_isByLaw_49 (by decide) ?_
          refine lv_istore (lv' := [(4, .int 0), (3, .int 0), (0, .ref mo), (1, .int (nI t)), (2, .int p1)]) hx hb dX11_isByLaw_50 hl (by decide) rfl (fun ls hl => ?_)
          refine lv_aload_n hx hb dX11_isByLaw_52 rfl (lv_at hl 2 rfl) ?_
          refine lv_iload_n hx hb dX11_isByLaw_53 rfl (lv_at hl 3 rfl) ?_
          refine kd_callIK (g := g) (wc := [(mo, .inr (11, [.ref mt, .ref mb, .ref mp, .int (nI qn), .ref mr, .int (nI rm), .int rs, .ref mk, .int (nI zt), .int (nI T), .int go, .int (nI th), .int (nI nh), .ref mw, .ref mc, .ref mn, .ref mx, .int (nI sm), .ref ms, .int se, .ref mv, .int kh, .int kg, .int (nI kt), .int (nI ks), .ref mq, .ref mu, .long hsh])), (mw, .inl (g.2.1 0, 36, .inl rf))]) (va_runV (mc := 0) (ms := 0) (rm := { frames := 0, cells := 0, slots := 0, locals := 0 }) (As := [.int (nI t)]) (rest := []) ⟨hx, hb, hml, hown, hts⟩ (c_X11_isKings l g s.heap.size mo mt mb mp qn mr rm rs mk zt T go th nh mw mc mn mx sm ms se mv kh kg kt ks mq mu hsh rf t ht) (cwV 1 hts gX11_isByLaw_X11_isKings rfl rfl rfl (by decide +kernel) ⟨Nat.le_of_ble_eq_true rfl, Nat.le_of_ble_eq_true rfl⟩) (kd_preV (wc := [(mo, .inr (11, [.ref mt, .ref mb, .ref mp, .int (nI qn), .ref mr, .int (nI rm), .int rs, .ref mk, .int (nI zt), .int (nI T), .int go, .int (nI th), .int (nI nh), .ref mw, .ref mc, .ref mn, .ref mx, .int (nI sm), .ref ms, .int se, .ref mv, .int kh, .int kg, .int (nI kt), .int (nI ks), .ref mq, .ref mu, .long hsh])), (mw, .inl (g.2.1 0, 36, .inl rf))]) (va_recv hK hP (ci := 11) (q0 := 0) rfl rfl) hP hD hS hA hK hE [0, 1] rfl (by decide)) rfl rfl hl.1 rfl (lv_room (Nat.le_of_ble_eq_true rfl)) dX11_isByLaw_54 ⟨Nat.le_of_ble_eq_true rfl, Nat.le_of_ble_eq_true rfl⟩) hP hD hS hA [0, 1] rfl (fun r_54 _ H locs hw hP hS => ?_)
          subst hw
          refine lv_if_ne (tgt := 69) hx hb dX11_isByLaw_57 (by decide) (fun c_57 => ?_) (fun c_57 => ?_)
          · refine lv_iconst (v := 1) hx hb dX11_isByLaw_69 (by decide) ?_
            refine lv_goto (tgt := 74) hx hb dX11_isByLaw_70 (by decide) ?_
            exact kd_zret hx hb hr hlocks hK hS dX11_isByLaw_74 (Or.inr rfl) (()) (by rw [sp_X11_isByLaw, if_pos c_11, if_neg c_18, if_pos c_37, if_pos c_42, if_neg c_57]) hP hD
          · refine lv_iload_n hx hb dX11_isByLaw_60 rfl (lv_at hl 1 rfl) ?_
            refine lv_if_ne (tgt := 69) hx hb dX11_isByLaw_61 (by decide) (fun z => absurd (by decide) z) (fun _ => ?_)
            refine lv_iload hx hb dX11_isByLaw_64 (lv_at hl 0 rfl) ?_
            refine lv_if_eq (tgt := 73) hx hb dX11_isByLaw_66 (by decide) (fun _ => ?_) (fun z => absurd (by decide) z)
            refine lv_iconst (v := 0) hx hb dX11_isByLaw_73 (by decide) ?_
            exact kd_zret hx hb hr hlocks hK hS dX11_isByLaw_74 (Or.inl rfl) (()) (by rw [sp_X11_isByLaw, if_pos c_11, if_neg c_18, if_pos c_37, if_pos c_42, if_pos c_57]) hP hD
        · refine lv_iconst (v := 1) hx hb dX11_isByLaw_45 (by decide) ?_
          refine lv_goto (tgt := 50) hx hb dX11_isByLaw_46 (by decide) ?_
          refine lv_istore (lv' := [(4, .int 1), (3, .int 0), (0, .ref mo), (1, .int (nI t)), (2, .int p1)]) hx hb dX11_isByLaw_50 hl (by decide) rfl (fun ls hl => ?_)
          refine lv_aload_n hx hb dX11_isByLaw_52 rfl (lv_at hl 2 rfl) ?_
          refine lv_iload_n hx hb dX11_isByLaw_53 rfl (lv_at hl 3 rfl) ?_
          refine kd_callIK (g := g) (wc := [(mo, .inr (11, [.ref mt, .ref mb, .ref mp, .int (nI qn), .ref mr, .int (nI rm), .int rs, .ref mk, .int (nI zt), .int (nI T), .int go, .int (nI th), .int (nI nh), .ref mw, .ref mc, .ref mn, .ref mx, .int (nI sm), .ref ms, .int se, .ref mv, .int kh, .int kg, .int (nI kt), .int (nI ks), .ref mq, .ref mu, .long hsh])), (mw, .inl (g.2.1 0, 36, .inl rf))]) (va_runV (mc := 0) (ms := 0) (rm := { frames := 0, cells := 0, slots := 0, locals := 0 }) (As := [.int (nI t)]) (rest := []) ⟨hx, hb, hml, hown, hts⟩ (c_X11_isKings l g s.heap.size mo mt mb mp qn mr rm rs mk zt T go th nh mw mc mn mx sm ms se mv kh kg kt ks mq mu hsh rf t ht) (cwV 1 hts gX11_isByLaw_X11_isKings rfl rfl rfl (by decide +kernel) ⟨Nat.le_of_ble_eq_true rfl, Nat.le_of_ble_eq_true rfl⟩) (kd_preV (wc := [(mo, .inr (11, [.ref mt, .ref mb, .ref mp, .int (nI qn), .ref mr, .int (nI rm), .int rs, .ref mk, .int (nI zt), .int (nI T), .int go, .int (nI th), .int (nI nh), .ref mw, .ref mc, .ref mn, .ref mx, .int (nI sm), .ref ms, .int se, .ref mv, .int kh, .int kg, .int (nI kt), .int (nI ks), .ref mq, .ref mu, .long hsh])), (mw, .inl (g.2.1 0, 36, .inl rf))]) (va_recv hK hP (ci := 11) (q0 := 0) rfl rfl) hP hD hS hA hK hE [0, 1] rfl (by decide)) rfl rfl hl.1 rfl (lv_room (Nat.le_of_ble_eq_true rfl)) dX11_isByLaw_54 ⟨Nat.le_of_ble_eq_true rfl, Nat.le_of_ble_eq_true rfl⟩) hP hD hS hA [0, 1] rfl (fun r_54 _ H locs hw hP hS => ?_)
          subst hw
          refine lv_if_ne (tgt := 69) hx hb dX11_isByLaw_57 (by decide) (fun c_57 => ?_) (fun c_57 => ?_)
          · refine lv_iconst (v := 1) hx hb dX11_isByLaw_69 (by decide) ?_
            refine lv_goto (tgt := 74) hx hb dX11_isByLaw_70 (by decide) ?_
            exact kd_zret hx hb hr hlocks hK hS dX11_isByLaw_74 (Or.inr rfl) (()) (by rw [sp_X11_isByLaw, if_pos c_11, if_neg c_18, if_pos c_37, if_neg c_42, if_neg c_57]) hP hD
          · refine lv_iload_n hx hb dX11_isByLaw_60 rfl (lv_at hl 1 rfl) ?_
            refine lv_if_ne (tgt := 69) hx hb dX11_isByLaw_61 (by decide) (fun z => absurd (by decide) z) (fun _ => ?_)
            refine lv_iload hx hb dX11_isByLaw_64 (lv_at hl 0 rfl) ?_
            refine lv_if_eq (tgt := 73) hx hb dX11_isByLaw_66 (by decide) (fun z => absurd z (by decide)) (fun _ => ?_)
            refine lv_iconst (v := 1) hx hb dX11_isByLaw_69 (by decide) ?_
            refine lv_goto (tgt := 74) hx hb dX11_isByLaw_70 (by decide) ?_
            exact kd_zret hx hb hr hlocks hK hS dX11_isByLaw_74 (Or.inr rfl) (()) (by rw [sp_X11_isByLaw, if_pos c_11, if_neg c_18, if_pos c_37, if_neg c_42, if_pos c_57]) hP hD
    · refine lv_iconst (v := 1) hx hb dX11_isByLaw_21 (by decide) ?_
      refine lv_goto (tgt := 26) hx hb dX11_isByLaw_22 (by decide) ?_
      refine lv_istore_n (lv' := [(3, .int 1), (0, .ref mo), (1, .int (nI t)), (2, .int p1)]) hx hb dX11_isByLaw_26 rfl hl (by decide) rfl (fun ls hl => ?_)
      refine lv_aload_n hx hb dX11_isByLaw_27 rfl (lv_at hl 1 rfl) ?_
      refine va_get (ci := 11) (v := .ref mw) (C := RX11) (T := TX11) (N := 28) hx hb hts hiX11 hown hK hP (0) rfl rfl 13 (by decide) (hts (.fieldLink RX11 25 "KingdomAtDiceModel" "rows" "[I") (by decide +kernel)) (fun _ h9 => h9) rfl dX11_isByLaw_28 ?_
      refine lv_bipush (v := 6) hx hb dX11_isByLaw_31 (by decide) ?_
      refine lv_iload_n hx hb dX11_isByLaw_33 rfl (lv_at hl 2 rfl) ?_
      refine lv_imul hx hb dX11_isByLaw_34 ?_
      refine kd_top (pk_mul 6 t) ?_
      refine kd_iald hx hb hK hP 1 (k := 6 * t) rfl (by omega) (by decide) dX11_isByLaw_35 ?_
      refine lv_iconst (v := 1) hx hb dX11_isByLaw_36 (by decide) ?_
      refine lv_icmp_ne (tgt := 49) hx hb dX11_isByLaw_37 (by decide) (fun c_37 => ?_) (fun c_37 => ?_)
      · refine lv_iconst (v := 0) hx hb dX11_isByLaw_49 (by decide) ?_
        refine lv_istore (lv' := [(4, .int 0), (3, .int 1), (0, .ref mo), (1, .int (nI t)), (2, .int p1)]) hx hb dX11_isByLaw_50 hl (by decide) rfl (fun ls hl => ?_)
        refine lv_aload_n hx hb dX11_isByLaw_52 rfl (lv_at hl 2 rfl) ?_
        refine lv_iload_n hx hb dX11_isByLaw_53 rfl (lv_at hl 3 rfl) ?_
        refine kd_callIK (g := g) (wc := [(mo, .inr (11, [.ref mt, .ref mb, .ref mp, .int (nI qn), .ref mr, .int (nI rm), .int rs, .ref mk, .int (nI zt), .int (nI T), .int go, .int (nI th), .int (nI nh), .ref mw, .ref mc, .ref mn, .ref mx, .int (nI sm), .ref ms, .int se, .ref mv, .int kh, .int kg, .int (nI kt), .int (nI ks), .ref mq, .ref mu, .long hsh])), (mw, .inl (g.2.1 0, 36, .inl rf))]) (va_runV (mc := 0) (ms := 0) (rm := { frames := 0, cells := 0, slots := 0, locals := 0 }) (As := [.int (nI t)]) (rest := []) ⟨hx, hb, hml, hown, hts⟩ (c_X11_isKings l g s.heap.size mo mt mb mp qn mr rm rs mk zt T go th nh mw mc mn mx sm ms se mv kh kg kt ks mq mu hsh rf t ht) (cwV 1 hts gX11_isByLaw_X11_isKings rfl rfl rfl (by decide +kernel) ⟨Nat.le_of_ble_eq_true rfl, Nat.le_of_ble_eq_true rfl⟩) (kd_preV (wc := [(mo, .inr (11, [.ref mt, .ref mb, .ref mp, .int (nI qn), .ref mr, .int (nI rm), .int rs, .ref mk, .int (nI zt), .int (nI T), .int go, .int (nI th), .int (nI nh), .ref mw, .ref mc, .ref mn, .ref mx, .int (nI sm), .ref ms, .int se, .ref mv, .int kh, .int kg, .int (nI kt), .int (nI ks), .ref mq, .ref mu, .long hsh])), (mw, .inl (g.2.1 0, 36, .inl rf))]) (va_recv hK hP (ci := 11) (q0 := 0) rfl rfl) hP hD hS hA hK hE [0, 1] rfl (by decide)) rfl rfl hl.1 rfl (lv_room (Nat.le_of_ble_eq_true rfl)) dX11_isByLaw_54 ⟨Nat.le_of_ble_eq_true rfl, Nat.le_of_ble_eq_true rfl⟩) hP hD hS hA [0, 1] rfl (fun r_54 _ H locs hw hP hS => ?_)
        subst hw
        refine lv_if_ne (tgt := 69) hx hb dX11_isByLaw_57 (by decide) (fun c_57 => ?_) (fun c_57 => ?_)
        · refine lv_iconst (v := 1) hx hb dX11_isByLaw_69 (by decide) ?_
          refine lv_goto (tgt := 74) hx hb dX11_isByLaw_70 (by decide) ?_
          exact kd_zret hx hb hr hlocks hK hS dX11_isByLaw_74 (Or.inr rfl) (()) (by rw [sp_X11_isByLaw, if_pos c_11, if_pos c_18, if_neg c_37, if_neg c_57]) hP hD
        · refine lv_iload_n hx hb dX11_isByLaw_60 rfl (lv_at hl 1 rfl) ?_
          refine lv_if_ne (tgt := 69) hx hb dX11_isByLaw_61 (by decide) (fun _ => ?_) (fun z => absurd z (by decide))
          refine lv_iconst (v := 1) hx hb dX11_isByLaw_69 (by decide) ?_
          refine lv_goto (tgt := 74) hx hb dX11_isByLaw_70 (by decide) ?_
          exact kd_zret hx hb hr hlocks hK hS dX11_isByLaw_74 (Or.inr rfl) (()) (by rw [sp_X11_isByLaw, if_pos c_11, if_pos c_18, if_neg c_37, if_pos c_57]) hP hD
      · refine lv_iload_n hx hb dX11_isByLaw_40 rfl (lv_at hl 3 rfl) ?_
        refine lv_iconst (v := 1) hx hb dX11_isByLaw_41 (by decide) ?_
        refine lv_icmp_le (tgt := 49) hx hb dX11_isByLaw_42 (by decide) (fun c_42 => ?_) (fun c_42 => ?_)
        · refine lv_iconst (v := 0) hx hb dX11_isByLaw_49 (by decide) ?_
          refine lv_istore (lv' := [(4, .int 0), (3, .int 1), (0, .ref mo), (1, .int (nI t)), (2, .int p1)]) hx hb dX11_isByLaw_50 hl (by decide) rfl (fun ls hl => ?_)
          refine lv_aload_n hx hb dX11_isByLaw_52 rfl (lv_at hl 2 rfl) ?_
          refine lv_iload_n hx hb dX11_isByLaw_53 rfl (lv_at hl 3 rfl) ?_
          refine kd_callIK (g := g) (wc := [(mo, .inr (11, [.ref mt, .ref mb, .ref mp, .int (nI qn), .ref mr, .int (nI rm), .int rs, .ref mk, .int (nI zt), .int (nI T), .int go, .int (nI th), .int (nI nh), .ref mw, .ref mc, .ref mn, .ref mx, .int (nI sm), .ref ms, .int se, .ref mv, .int kh, .int kg, .int (nI kt), .int (nI ks), .ref mq, .ref mu, .long hsh])), (mw, .inl (g.2.1 0, 36, .inl rf))]) (va_runV (mc := 0) (ms := 0) (rm := { frames := 0, cells := 0, slots := 0, locals := 0 }) (As := [.int (nI t)]) (rest := []) ⟨hx, hb, hml, hown, hts⟩ (c_X11_isKings l g s.heap.size mo mt mb mp qn mr rm rs mk zt T go th nh mw mc mn mx sm ms se mv kh kg kt ks mq mu hsh rf t ht) (cwV 1 hts gX11_isByLaw_X11_isKings rfl rfl rfl (by decide +kernel) ⟨Nat.le_of_ble_eq_true rfl, Nat.le_of_ble_eq_true rfl⟩) (kd_preV (wc := [(mo, .inr (11, [.ref mt, .ref mb, .ref mp, .int (nI qn), .ref mr, .int (nI rm), .int rs, .ref mk, .int (nI zt), .int (nI T), .int go, .int (nI th), .int (nI nh), .ref mw, .ref mc, .ref mn, .ref mx, .int (nI sm), .ref ms, .int se, .ref mv, .int kh, .int kg, .int (nI kt), .int (nI ks), .ref mq, .ref mu, .long hsh])), (mw, .inl (g.2.1 0, 36, .inl rf))]) (va_recv hK hP (ci := 11) (q0 := 0) rfl rfl) hP hD hS hA hK hE [0, 1] rfl (by decide)) rfl rfl hl.1 rfl (lv_room (Nat.le_of_ble_eq_true rfl)) dX11_isByLaw_54 ⟨Nat.le_of_ble_eq_true rfl, Nat.le_of_ble_eq_true rfl⟩) hP hD hS hA [0, 1] rfl (fun r_54 _ H locs hw hP hS => ?_)
          subst hw
          refine lv_if_ne (tgt := 69) hx hb dX11_isByLaw_57 (by decide) (fun c_57 => ?_) (fun c_57 => ?_)
          · refine lv_iconst (v := 1) hx hb dX11_isByLaw_69 (by decide) ?_
            refine lv_goto (tgt := 74) hx hb dX11_isByLaw_70 (by decide) ?_
            exact kd_zret hx hb hr hlocks hK hS dX11_isByLaw_74 (Or.inr rfl) (()) (by rw [sp_X11_isByLaw, if_pos c_11, if_pos c_18, if_pos c_37, if_pos c_42, if_neg c_57]) hP hD
          · refine lv_iload_n hx hb dX11_isByLaw_60 rfl (lv_at hl 1 rfl) ?_
            refine lv_if_ne (tgt := 69) hx hb dX11_isByLaw_61 (by decide) (fun _ => ?_) (fun z => absurd z (by decide))
            refine lv_iconst (v := 1) hx hb dX11_isByLaw_69 (by decide) ?_
            refine lv_goto (tgt := 74) hx hb dX11_isByLaw_70 (by decide) ?_
            exact kd_zret hx hb hr hlocks hK hS dX11_isByLaw_74 (Or.inr rfl) (()) (by rw [sp_X11_isByLaw, if_pos c_11, if_pos c_18, if_pos c_37, if_pos c_42, if_pos c_57]) hP hD
        · refine lv_iconst (v := 1) hx hb dX11_isByLaw_45 (by decide) ?_
          refine lv_goto (tgt := 50) hx hb dX11_isByLaw_46 (by decide) ?_
          refine lv_istore (lv' := [(4, .int 1), (3, .int 1), (0, .ref mo), (1, .int (nI t)), (2, .int p1)]) hx hb dX11_isByLaw_50 hl (by decide) rfl (fun ls hl => ?_)
          refine lv_aload_n hx hb dX11_isByLaw_52 rfl (lv_at hl 2 rfl) ?_
          refine lv_iload_n hx hb dX11_isByLaw_53 rfl (lv_at hl 3 rfl) ?_
          refine kd_callIK (g := g) (wc := [(mo, .inr (11, [.ref mt, .ref mb, .ref mp, .int (nI qn), .ref mr, .int (nI rm), .int rs, .ref mk, .int (nI zt), .int (nI T), .int go, .int (nI th), .int (nI nh), .ref mw, .ref mc, .ref mn, .ref mx, .int (nI sm), .ref ms, .int se, .ref mv, .int kh, .int kg, .int (nI kt), .int (nI ks), .ref mq, .ref mu, .long hsh])), (mw, .inl (g.2.1 0, 36, .inl rf))]) (va_runV (mc := 0) (ms := 0) (rm := { frames := 0, cells := 0, slots := 0, locals := 0 }) (As := [.int (nI t)]) (rest := []) ⟨hx, hb, hml, hown, hts⟩ (c_X11_isKings l g s.heap.size mo mt mb mp qn mr rm rs mk zt T go th nh mw mc mn mx sm ms se mv kh kg kt ks mq mu hsh rf t ht) (cwV 1 hts gX11_isByLaw_X11_isKings rfl rfl rfl (by decide +kernel) ⟨Nat.le_of_ble_eq_true rfl, Nat.le_of_ble_eq_true rfl⟩) (kd_preV (wc := [(mo, .inr (11, [.ref mt, .ref mb, .ref mp, .int (nI qn), .ref mr, .int (nI rm), .int rs, .ref mk, .int (nI zt), .int (nI T), .int go, .int (nI th), .int (nI nh), .ref mw, .ref mc, .ref mn, .ref mx, .int (nI sm), .ref ms, .int se, .ref mv, .int kh, .int kg, .int (nI kt), .int (nI ks), .ref mq, .ref mu, .long hsh])), (mw, .inl (g.2.1 0, 36, .inl rf))]) (va_recv hK hP (ci := 11) (q0 := 0) rfl rfl) hP hD hS hA hK hE [0, 1] rfl (by decide)) rfl rfl hl.1 rfl (lv_room (Nat.le_of_ble_eq_true rfl)) dX11_isByLaw_54 ⟨Nat.le_of_ble_eq_true rfl, Nat.le_of_ble_eq_true rfl⟩) hP hD hS hA [0, 1] rfl (fun r_54 _ H locs hw hP hS => ?_)
          subst hw
          refine lv_if_ne (tgt := 69) hx hb dX11_isByLaw_57 (by decide) (fun c_57 => ?_) (fun c_57 => ?_)
          · refine lv_iconst (v := 1) hx hb dX11_isByLaw_69 (by decide) ?_
            refine lv_goto (tgt := 74) hx hb dX11_isByLaw_70 (by decide) ?_
            exact kd_zret hx hb hr hlocks hK hS dX11_isByLaw_74 (Or.inr rfl) (()) (by rw [sp_X11_isByLaw, if_pos c_11, if_pos c_18, if_pos c_37, if_neg c_42, if_neg c_57]) hP hD
          · refine lv_iload_n hx hb dX11_isByLaw_60 rfl (lv_at hl 1 rfl) ?_
            refine lv_if_ne (tgt := 69) hx hb dX11_isByLaw_61 (by decide) (fun _ => ?_) (fun z => absurd z (by decide))
            refine lv_iconst (v := 1) hx hb dX11_isByLaw_69 (by decide) ?_
            refine lv_goto (tgt := 74) hx hb dX11_isByLaw_70 (by decide) ?_
            exact kd_zret hx hb hr hlocks hK hS dX11_isByLaw_74 (Or.inr rfl) (()) (by rw [sp_X11_isByLaw, if_pos c_11, if_pos c_18, if_pos c_37, if_neg c_42, if_pos c_57]) hP hD
def kd_lb (rf : Nat → Int32) (p0 : Int32) : Nat → Int32
  | 0 => 0
  | i + 1 => if sp_X11_isByLaw rf i p0 = 0 then kd_lb rf p0 i ||| 0 else kd_lb rf p0 i ||| ((1 : Int32) <<< ((nI i) &&& 31))
def kd_lw (rf : Nat → Int32) (p0 : Int32) : Nat → Int32
  | 0 => 0
  | i + 1 => if sp_X11_isByLaw rf i p0 = 0 then kd_lw rf p0 i + 0 else kd_lw rf p0 i + rf (6 * i + 1)
def kd_law (rf : Nat → Int32) (T : Nat) (p0 p1 : Int32) : Int32 := if p1 = 0 then kd_lb rf p0 T else kd_lw rf p0 T
set_option maxHeartbeats 4000000 in
set_option maxRecDepth 100000 in
theorem c_X11_lawOf (l : Launch) (g : kd_G) (sz : Nat) (mo : Nat) (mt : Nat) (mb : Nat) (mp : Nat) (qn : Nat) (mr : Nat) (rm : Nat) (rs : Int32) (mk : Nat) (zt : Nat) (T : Nat) (go : Int32) (th : Nat) (nh : Nat) (mw : Nat) (mc : Nat) (mn : Nat) (mx : Nat) (sm : Nat) (ms : Nat) (se : Int32) (mv : Nat) (kh : Int32) (kg : Int32) (kt : Nat) (ks : Nat) (mq : Nat) (mu : Nat) (hsh : Int64) (rf : Nat → Int32) (p0 : Int32) (p1 : Int32) (hT : T ≤ 6) : kd_MI l yX11_lawOf wsX11_lawOf ({ frames := 2, cells := 0, slots := 0, locals := 45 }) [.ref mo, .int p0, .int p1] g [(mo, .inr (11, [.ref mt, .ref mb, .ref mp, .int (nI qn), .ref mr, .int (nI rm), .int rs, .ref mk, .int (nI zt), .int (nI T), .int go, .int (nI th), .int (nI nh), .ref mw, .ref mc, .ref mn, .ref mx, .int (nI sm), .ref ms, .int se, .ref mv, .int kh, .int kg, .int (nI kt), .int (nI ks), .ref mq, .ref mu, .long hsh])), (mw, .inl (g.2.1 0, 36, .inl rf))] sz (fun r (_ : Unit) => r = kd_law rf T p0 p1) (fun _ => [(mo, .inr (11, [.ref mt, .ref mb, .ref mp, .int (nI qn), .ref mr, .int (nI rm), .int rs, .ref mk, .int (nI zt), .int (nI T), .int go, .int (nI th), .int (nI nh), .ref mw, .ref mc, .ref mn, .ref mx, .int (nI sm), .ref ms, .int se, .ref mv, .int kh, .int kg, .int (nI kt), .int (nI ks), .ref mq, .ref mu, .long hsh])), (mw, .inl (g.2.1 0, 36, .inl rf))]) 0 0 := by
  refine kd_met (l := l) (y := yX11_lawOf) (ws := wsX11_lawOf) (rm := { frames := 2, cells := 0, slots := 0, locals := 45 }) (av := [.ref mo, .int p0, .int p1]) (g := g) (WS := [(mo, .inr (11, [.ref mt, .ref mb, .ref mp, .int (nI qn), .ref mr, .int (nI rm), .int rs, .ref mk, .int (nI zt), .int (nI T), .int go, .int (nI th), .int (nI nh), .ref mw, .ref mc, .ref mn, .ref mx, .int (nI sm), .ref ms, .int se, .ref mv, .int kh, .int kg, .int (nI kt), .int (nI ks), .ref mq, .ref mu, .long hsh])), (mw, .inl (g.2.1 0, 36, .inl rf))]) (sz := sz) (mc := 0) (ms := 0) (cc := cX11_lawOf) (maxL := 7) (ret := (some .int)) (own := RX11) (fun A => va_Qi (fun r (_ : Unit) => r = kd_law rf T p0 p1) (fun u t => kd_post g A [(mo, .inr (11, [.ref mt, .ref mb, .ref mp, .int (nI qn), .ref mr, .int (nI rm), .int rs, .ref mk, .int (nI zt), .int (nI T), .int go, .int (nI th), .int (nI nh), .ref mw, .ref mc, .ref mn, .ref mx, .int (nI sm), .ref ms, .int se, .ref mv, .int kh, .int kg, .int (nI kt), .int (nI ks), .ref mq, .ref mu, .long hsh])), (mw, .inl (g.2.1 0, 36, .inl rf))] t) A) (by decide) rfl rfl (Nat.le_of_ble_eq_true rfl) ?_
  intro p e s m below meth c A ls hx hb hr hml hts hown hlocks hnm hA hP hK hD hS hE hl
  have hl : lv_has ls 7 [(0, .ref mo), (1, .int p0), (2, .int p1)] := hl
  have hiX11 : ∀ w ∈ u_ws RX11 TX11 28, w ∈ wsX11_lawOf := by decide +kernel
  refine lv_iconst (v := 0) hx hb dX11_lawOf_0 (by decide) ?_
  refine lv_istore_n (lv' := [(3, .int 0), (0, .ref mo), (1, .int p0), (2, .int p1)]) hx hb dX11_lawOf_1 rfl hl (by decide) rfl (fun ls hl => ?_)
  refine lv_iconst (v := 0) hx hb dX11_lawOf_2 (by decide) ?_
  refine lv_istore (lv' := [(4, .int 0), (3, .int 0), (0, .ref mo), (1, .int p0), (2, .int p1)]) hx hb dX11_lawOf_3 hl (by decide) rfl (fun ls hl => ?_)
  refine lv_iconst (v := 0) hx hb dX11_lawOf_5 (by decide) ?_
  refine lv_istore (lv' := [(5, .int 0), (4, .int 0), (3, .int 0), (0, .ref mo), (1, .int p0), (2, .int p1)]) hx hb dX11_lawOf_6 hl (by decide) rfl (fun ls hl => ?_)
  have loop_8 : ∀ (n_8 : Nat) (i : Nat) (a : Int32) (b : Int32), (i ≤ T) → (a = kd_lb rf p0 i) → (b = kd_lw rf p0 i) → (T - i) < n_8 → ∀ (H : Heap) (locs : List Loc), va_P g.1 vwCl [(mo, .inr (11, [.ref mt, .ref mb, .ref mp, .int (nI qn), .ref mr, .int (nI rm), .int rs, .ref mk, .int (nI zt), .int (nI T), .int go, .int (nI th), .int (nI nh), .ref mw, .ref mc, .ref mn, .ref mx, .int (nI sm), .ref ms, .int se, .ref mv, .int kh, .int kg, .int (nI kt), .int (nI ks), .ref mq, .ref mu, .long hsh])), (mw, .inl (g.2.1 0, 36, .inl rf))] H → va_D A [(mo, .inr (11, [.ref mt, .ref mb, .ref mp, .int (nI qn), .ref mr, .int (nI rm), .int rs, .ref mk, .int (nI zt), .int (nI T), .int go, .int (nI th), .int (nI nh), .ref mw, .ref mc, .ref mn, .ref mx, .int (nI sm), .ref ms, .int se, .ref mv, .int kh, .int kg, .int (nI kt), .int (nI ks), .ref mq, .ref mu, .long hsh])), (mw, .inl (g.2.1 0, 36, .inl rf))] → va_S A s.heap H locs → ∀ (ls : Array Slot), lv_has ls 7 [(0, .ref mo), (1, .int p0), (2, .int p1), (3, .int a), (4, .int b), (5, .int (nI i))] → W p l e ({ frames := 2, cells := 0, slots := 0, locals := 45 } : Room) s m ([.ref mo, .int p0, .int p1] : List Value).toArray below meth c H locs 0 0 (MQ below (va_Qi (fun r (_ : Unit) => r = kd_law rf T p0 p1) (fun u t => kd_post g A [(mo, .inr (11, [.ref mt, .ref mb, .ref mp, .int (nI qn), .ref mr, .int (nI rm), .int rs, .ref mk, .int (nI zt), .int (nI T), .int go, .int (nI th), .int (nI nh), .ref mw, .ref mc, .ref mn, .ref mx, .int (nI sm), .ref ms, .int se, .ref mv, .int kh, .int kg, .int (nI kt), .int (nI ks), .ref mq, .ref mu, .long hsh])), (mw, .inl (g.2.1 0, 36, .inl rf))] t) A) ([.ref mo, .int p0, .int p1] : List Value).toArray s 0 0 A) (F0 m 8 ls []) := by
    intro n_8
    induction n_8 with
    | zero => intro i a b _ _ _ hm_8; exact absurd hm_8 (Nat.not_lt_zero _)
    | succ n_8 ih_8 =>
      intro i a b hi ha hb_ hm_8 H locs hP hD hS ls hl
      refine lv_iload hx hb dX11_lawOf_8 (lv_at hl 5 rfl) ?_
      refine lv_aload_n hx hb dX11_lawOf_10 rfl (lv_at hl 0 rfl) ?_
      refine va_get (ci := 11) (v := .int (nI T)) (C := RX11) (T := TX11) (N := 28) hx hb hts hiX11 hown hK hP (0) rfl rfl 9 (by decide) (hts (.fieldLink RX11 102 "KingdomAtDiceModel" "things" "I") (by decide +kernel)) (fun _ h9 => h9) rfl dX11_lawOf_11 ?_
      refine lv_icmp_ge (tgt := 74) hx hb dX11_lawOf_14 (by decide) (fun c_14 => ?_) (fun c_14 => ?_)
      · have n_14 : T ≤ i := kd_ce (a := T) (b := i) (by omega) (by omega) c_14
        refine lv_iload_n hx hb dX11_lawOf_74 rfl (lv_at hl 2 rfl) ?_
        refine lv_if_ne (tgt := 82) hx hb dX11_lawOf_75 (by decide) (fun c_75 => ?_) (fun c_75 => ?_)
        · refine lv_iload hx hb dX11_lawOf_82 (lv_at hl 4 rfl) ?_
          exact kd_iret hx hb hr hlocks hK hS dX11_lawOf_84 (()) (by rw [kd_law, if_neg c_75, show T = i by omega]; assumption) hP hD
        · refine lv_iload_n hx hb dX11_lawOf_78 rfl (lv_at hl 3 rfl) ?_
          refine lv_goto (tgt := 84) hx hb dX11_lawOf_79 (by decide) ?_
          exact kd_iret hx hb hr hlocks hK hS dX11_lawOf_84 (()) (by rw [kd_law, if_pos c_75, show T = i by omega]; assumption) hP hD
      · have n_14 : i < T := kd_cne (a := T) (b := i) (by omega) (by omega) c_14
        refine lv_aload_n hx hb dX11_lawOf_17 rfl (lv_at hl 0 rfl) ?_
        refine lv_iload hx hb dX11_lawOf_18 (lv_at hl 5 rfl) ?_
        refine lv_iload_n hx hb dX11_lawOf_20 rfl (lv_at hl 1 rfl) ?_
        refine kd_callIK (g := g) (wc := [(mo, .inr (11, [.ref mt, .ref mb, .ref mp, .int (nI qn), .ref mr, .int (nI rm), .int rs, .ref mk, .int (nI zt), .int (nI T), .int go, .int (nI th), .int (nI nh), .ref mw, .ref mc, .ref mn, .ref mx, .int (nI sm), .ref ms, .int se, .ref mv, .int kh, .int kg, .int (nI kt), .int (nI ks), .ref mq, .ref mu, .long hsh])), (mw, .inl (g.2.1 0, 36, .inl rf))]) (va_runV (mc := 0) (ms := 0) (rm := { frames := 1, cells := 0, slots := 0, locals := 21 }) (As := [.int (nI i), .int p0]) (rest := []) ⟨hx, hb, hml, hown, hts⟩ (c_X11_isByLaw l g H.size mo mt mb mp qn mr rm rs mk zt T go th nh mw mc mn mx sm ms se mv kh kg kt ks mq mu hsh rf i p0 (by omega)) (cwV 2 hts gX11_lawOf_X11_isByLaw rfl rfl rfl (by decide +kernel) ⟨Nat.le_of_ble_eq_true rfl, Nat.le_of_ble_eq_true rfl⟩) (kd_preV (wc := [(mo, .inr (11, [.ref mt, .ref mb, .ref mp, .int (nI qn), .ref mr, .int (nI rm), .int rs, .ref mk, .int (nI zt), .int (nI T), .int go, .int (nI th), .int (nI nh), .ref mw, .ref mc, .ref mn, .ref mx, .int (nI sm), .ref ms, .int se, .ref mv, .int kh, .int kg, .int (nI kt), .int (nI ks), .ref mq, .ref mu, .long hsh])), (mw, .inl (g.2.1 0, 36, .inl rf))]) (va_recv hK hP (ci := 11) (q0 := 0) rfl rfl) hP hD hS hA hK hE [0, 1] rfl (by decide)) rfl rfl hl.1 rfl (lv_room (Nat.le_of_ble_eq_true rfl)) dX11_lawOf_21 ⟨Nat.le_of_ble_eq_true rfl, Nat.le_of_ble_eq_true rfl⟩) hP hD hS hA [0, 1] rfl (fun r_21 _ H locs hw hP hS => ?_)
        subst hw
        refine lv_istore (lv' := [(6, .int (sp_X11_isByLaw rf i p0)), (0, .ref mo), (1, .int p0), (2, .int p1), (3, .int a), (4, .int b), (5, .int (nI i))]) hx hb dX11_lawOf_24 hl (by decide) rfl (fun ls hl => ?_)
        refine lv_iload_n hx hb dX11_lawOf_26 rfl (lv_at hl 4 rfl) ?_
        refine lv_iload hx hb dX11_lawOf_27 (lv_at hl 0 rfl) ?_
        refine lv_if_eq (tgt := 39) hx hb dX11_lawOf_29 (by decide) (fun c_29 => ?_) (fun c_29 => ?_)
        · refine lv_iconst (v := 0) hx hb dX11_lawOf_39 (by decide) ?_
          refine lv_ior hx hb dX11_lawOf_40 ?_
          refine lv_istore_n (lv' := [(3, .int (a ||| 0)), (6, .int (sp_X11_isByLaw rf i p0)), (0, .ref mo), (1, .int p0), (2, .int p1), (4, .int b), (5, .int (nI i))]) hx hb dX11_lawOf_41 rfl hl (by decide) rfl (fun ls hl => ?_)
          refine lv_iload hx hb dX11_lawOf_42 (lv_at hl 5 rfl) ?_
          refine lv_iload hx hb dX11_lawOf_44 (lv_at hl 1 rfl) ?_
          refine lv_if_eq (tgt := 64) hx hb dX11_lawOf_46 (by decide) (fun _ => ?_) (fun z => absurd c_29 z)
          refine lv_iconst (v := 0) hx hb dX11_lawOf_64 (by decide) ?_
          refine lv_iadd hx hb dX11_lawOf_65 ?_
          refine lv_istore (lv' := [(4, .int (b + 0)), (3, .int (a ||| 0)), (6, .int (sp_X11_isByLaw rf i p0)), (0, .ref mo), (1, .int p0), (2, .int p1), (5, .int (nI i))]) hx hb dX11_lawOf_66 hl (by decide) rfl (fun ls hl => ?_)
          refine lv_iinc (v := nI (i + 1)) (lv' := [(5, .int (nI (i + 1))), (4, .int (b + 0)), (3, .int (a ||| 0)), (6, .int (sp_X11_isByLaw rf i p0)), (0, .ref mo), (1, .int p0), (2, .int p1)]) hx hb dX11_lawOf_68 hl (k := 6) rfl (nI_1 _) (by decide) rfl (fun ls hl => ?_)
          refine lv_goto (tgt := 8) hx hb dX11_lawOf_71 (by decide) ?_
          exact ih_8 (i + 1) (a ||| 0) (b + 0) (by omega) (by rw [kd_lb, ← ha, if_pos c_29]) (by rw [kd_lw, ← hb_, if_pos c_29]) (by omega) _ _ hP hD hS ls (lv_sub hl [4, 5, 6, 2, 1, 0] rfl)
        · refine lv_iconst (v := 1) hx hb dX11_lawOf_32 (by decide) ?_
          refine lv_iload hx hb dX11_lawOf_33 (lv_at hl 6 rfl) ?_
          refine lv_ishl hx hb dX11_lawOf_35 ?_
          refine lv_goto (tgt := 40) hx hb dX11_lawOf_36 (by decide) ?_
          refine lv_ior hx hb dX11_lawOf_40 ?_
          refine lv_istore_n (lv' := [(3, .int (a ||| (1 <<< ((nI i) &&& 31)))), (6, .int (sp_X11_isByLaw rf i p0)), (0, .ref mo), (1, .int p0), (2, .int p1), (4, .int b), (5, .int (nI i))]) hx hb dX11_lawOf_41 rfl hl (by decide) rfl (fun ls hl => ?_)
          refine lv_iload hx hb dX11_lawOf_42 (lv_at hl 5 rfl) ?_
          refine lv_iload hx hb dX11_lawOf_44 (lv_at hl 1 rfl) ?_
          refine lv_if_eq (tgt := 64) hx hb dX11_lawOf_46 (by decide) (fun z => absurd z c_29) (fun _ => ?_)
          refine lv_aload_n hx hb dX11_lawOf_49 rfl (lv_at hl 2 rfl) ?_
          refine va_get (ci := 11) (v := .ref mw) (C := RX11) (T := TX11) (N := 28) hx hb hts hiX11 hown hK hP (0) rfl rfl 13 (by decide) (hts (.fieldLink RX11 25 "KingdomAtDiceModel" "rows" "[I") (by decide +kernel)) (fun _ h9 => h9) rfl dX11_lawOf_50 ?_
          refine lv_bipush (v := 6) hx hb dX11_lawOf_53 (by decide) ?_
          refine lv_iload hx hb dX11_lawOf_55 (lv_at hl 6 rfl) ?_
          refine lv_imul hx hb dX11_lawOf_57 ?_
          refine kd_top (pk_mul 6 i) ?_
          refine lv_iconst (v := 1) hx hb dX11_lawOf_58 (by decide) ?_
          refine lv_iadd hx hb dX11_lawOf_59 ?_
          refine kd_top (nI_add (6 * i) 1) ?_
          refine kd_iald hx hb hK hP 1 (k := (6 * i) + 1) rfl (by omega) (by decide) dX11_lawOf_60 ?_
          refine lv_goto (tgt := 65) hx hb dX11_lawOf_61 (by decide) ?_
          refine lv_iadd hx hb dX11_lawOf_65 ?_
          refine lv_istore (lv' := [(4, .int (b + (rf ((6 * i) + 1)))), (3, .int (a ||| (1 <<< ((nI i) &&& 31)))), (6, .int (sp_X11_isByLaw rf i p0)), (0, .ref mo), (1, .int p0), (2, .int p1), (5, .int (nI i))]) hx hb dX11_lawOf_66 hl (by decide) rfl (fun ls hl => ?_)
          refine lv_iinc (v := nI (i + 1)) (lv' := [(5, .int (nI (i + 1))), (4, .int (b + (rf ((6 * i) + 1)))), (3, .int (a ||| (1 <<< ((nI i) &&& 31)))), (6, .int (sp_X11_isByLaw rf i p0)), (0, .ref mo), (1, .int p0), (2, .int p1)]) hx hb dX11_lawOf_68 hl (k := 6) rfl (nI_1 _) (by decide) rfl (fun ls hl => ?_)
          refine lv_goto (tgt := 8) hx hb dX11_lawOf_71 (by decide) ?_
          exact ih_8 (i + 1) (a ||| (1 <<< ((nI i) &&& 31))) (b + (rf ((6 * i) + 1))) (by omega) (by rw [kd_lb, ← ha, if_neg c_29]) (by rw [kd_lw, ← hb_, if_neg c_29]) (by omega) _ _ hP hD hS ls (lv_sub hl [4, 5, 6, 2, 1, 0] rfl)
  exact loop_8 ((T - 0) + 1) 0 0 0 (by omega) rfl rfl (Nat.lt_succ_self _) _ _ hP hD hS ls (lv_sub hl [3, 4, 5, 2, 1, 0] rfl)
/-- what KingdomAtDiceModel.laws answers and leaves, by its instructions -/
def sp_X11_laws (T : Nat) (rf : Nat → Int32) (p0 : Int32) (p1 : Int32) : Int32 :=
  if (sp_X11_in p0.toInt64 0 3) = 0 then
    (-102)
  else
    if (sp_X11_in p1.toInt64 0 1) = 0 then
      (-102)
    else
      if (sp_X11_lacks T) = 0 then
        kd_law rf T p0 p1
      else
        (-103)
set_option maxHeartbeats 4000000 in
set_option maxRecDepth 100000 in
theorem c_X11_laws (l : Launch) (g : kd_G) (sz : Nat) (mo : Nat) (mt : Nat) (mb : Nat) (mp : Nat) (qn : Nat) (mr : Nat) (rm : Nat) (rs : Int32) (mk : Nat) (zt : Nat) (T : Nat) (go : Int32) (th : Nat) (nh : Nat) (mw : Nat) (mc : Nat) (mn : Nat) (mx : Nat) (sm : Nat) (ms : Nat) (se : Int32) (mv : Nat) (kh : Int32) (kg : Int32) (kt : Nat) (ks : Nat) (mq : Nat) (mu : Nat) (hsh : Int64) (rf : Nat → Int32) (p0 : Int32) (p1 : Int32) (hT : T ≤ 6) : kd_MI l yX11_laws wsX11_laws ({ frames := 3, cells := 0, slots := 0, locals := 71 }) [.ref mo, .int p0, .int p1] g [(mo, .inr (11, [.ref mt, .ref mb, .ref mp, .int (nI qn), .ref mr, .int (nI rm), .int rs, .ref mk, .int (nI zt), .int (nI T), .int go, .int (nI th), .int (nI nh), .ref mw, .ref mc, .ref mn, .ref mx, .int (nI sm), .ref ms, .int se, .ref mv, .int kh, .int kg, .int (nI kt), .int (nI ks), .ref mq, .ref mu, .long hsh])), (mw, .inl (g.2.1 0, 36, .inl rf))] sz (fun r (_ : Unit) => r = sp_X11_laws T rf p0 p1) (fun _ => [(mo, .inr (11, [.ref mt, .ref mb, .ref mp, .int (nI qn), .ref mr, .int (nI rm), .int rs, .ref mk, .int (nI zt), .int (nI T), .int go, .int (nI th), .int (nI nh), .ref mw, .ref mc, .ref mn, .ref mx, .int (nI sm), .ref ms, .int se, .ref mv, .int kh, .int kg, .int (nI kt), .int (nI ks), .ref mq, .ref mu, .long hsh])), (mw, .inl (g.2.1 0, 36, .inl rf))]) 0 0 := by
  refine kd_met (l := l) (y := yX11_laws) (ws := wsX11_laws) (rm := { frames := 3, cells := 0, slots := 0, locals := 71 }) (av := [.ref mo, .int p0, .int p1]) (g := g) (WS := [(mo, .inr (11, [.ref mt, .ref mb, .ref mp, .int (nI qn), .ref mr, .int (nI rm), .int rs, .ref mk, .int (nI zt), .int (nI T), .int go, .int (nI th), .int (nI nh), .ref mw, .ref mc, .ref mn, .ref mx, .int (nI sm), .ref ms, .int se, .ref mv, .int kh, .int kg, .int (nI kt), .int (nI ks), .ref mq, .ref mu, .long hsh])), (mw, .inl (g.2.1 0, 36, .inl rf))]) (sz := sz) (mc := 0) (ms := 0) (cc := cX11_laws) (maxL := 3) (ret := (some .int)) (own := RX11) (fun A => va_Qi (fun r (_ : Unit) => r = sp_X11_laws T rf p0 p1) (fun u t => kd_post g A [(mo, .inr (11, [.ref mt, .ref mb, .ref mp, .int (nI qn), .ref mr, .int (nI rm), .int rs, .ref mk, .int (nI zt), .int (nI T), .int go, .int (nI th), .int (nI nh), .ref mw, .ref mc, .ref mn, .ref mx, .int (nI sm), .ref ms, .int se, .ref mv, .int kh, .int kg, .int (nI kt), .int (nI ks), .ref mq, .ref mu, .long hsh])), (mw, .inl (g.2.1 0, 36, .inl rf))] t) A) (by decide) rfl rfl (Nat.le_of_ble_eq_true rfl) ?_
  intro p e s m below meth c A ls hx hb hr hml hts hown hlocks hnm hA hP hK hD hS hE hl
  have hl : lv_has ls 3 [(0, .ref mo), (1, .int p0), (2, .int p1)] := hl
  refine lv_iload_n hx hb dX11_laws_0 rfl (lv_at hl 1 rfl) ?_
  refine lv_i2l hx hb dX11_laws_1 rfl ?_
  refine lv_lconst (v := 0) hx hb dX11_laws_2 (by decide) ?_
  refine lv_ldc2 (v := 3) hx hb hown (hts (.constantLong RX11 188 3) (by decide +kernel)) dX11_laws_3 ?_
  refine kd_callIK (g := g) (wc := []) (va_runS (mc := 0) (ms := 0) (rm := { frames := 0, cells := 0, slots := 0, locals := 0 }) (As := [.long p0.toInt64, .long 0, .long 3]) (rest := []) ⟨hx, hb, hml, hown, hts⟩ (c_X11_in l g s.heap.size p0.toInt64 0 3 ) (va_cwS 3 hts gX11_laws_X11_in rfl rfl rfl (by decide +kernel) ⟨Nat.le_of_ble_eq_true rfl, Nat.le_of_ble_eq_true rfl⟩) (kd_preS (wc := []) (av := [.long p0.toInt64, .long 0, .long 3]) hP hD hS hA hK hE [] rfl (by decide)) rfl rfl hl.1 rfl (lv_room (Nat.le_of_ble_eq_true rfl)) dX11_laws_6 ⟨Nat.le_of_ble_eq_true rfl, Nat.le_of_ble_eq_true rfl⟩) hP hD hS hA [] rfl (fun r_6 _ H locs hw hP hS => ?_)
  subst hw
  refine lv_if_eq (tgt := 22) hx hb dX11_laws_9 (by decide) (fun c_9 => ?_) (fun c_9 => ?_)
  · refine lv_bipush (v := (-102)) hx hb dX11_laws_22 (by decide) ?_
    exact kd_iret hx hb hr hlocks hK hS dX11_laws_24 (()) (by rw [sp_X11_laws, if_pos c_9]) hP hD
  · refine lv_iload_n hx hb dX11_laws_12 rfl (lv_at hl 2 rfl) ?_
    refine lv_i2l hx hb dX11_laws_13 rfl ?_
    refine lv_lconst (v := 0) hx hb dX11_laws_14 (by decide) ?_
    refine lv_lconst (v := 1) hx hb dX11_laws_15 (by decide) ?_
    refine kd_callIK (g := g) (wc := []) (va_runS (mc := 0) (ms := 0) (rm := { frames := 0, cells := 0, slots := 0, locals := 0 }) (As := [.long p1.toInt64, .long 0, .long 1]) (rest := []) ⟨hx, hb, hml, hown, hts⟩ (c_X11_in l g H.size p1.toInt64 0 1 ) (va_cwS 3 hts gX11_laws_X11_in rfl rfl rfl (by decide +kernel) ⟨Nat.le_of_ble_eq_true rfl, Nat.le_of_ble_eq_true rfl⟩) (kd_preS (wc := []) (av := [.long p1.toInt64, .long 0, .long 1]) hP hD hS hA hK hE [] rfl (by decide)) rfl rfl hl.1 rfl (lv_room (Nat.le_of_ble_eq_true rfl)) dX11_laws_16 ⟨Nat.le_of_ble_eq_true rfl, Nat.le_of_ble_eq_true rfl⟩) hP hD hS hA [] rfl (fun r_16 _ H locs hw hP hS => ?_)
    subst hw
    refine lv_if_ne (tgt := 25) hx hb dX11_laws_19 (by decide) (fun c_19 => ?_) (fun c_19 => ?_)
    · refine lv_aload_n hx hb dX11_laws_25 rfl (lv_at hl 0 rfl) ?_
      refine kd_callIK (g := g) (wc := [(mo, .inr (11, [.ref mt, .ref mb, .ref mp, .int (nI qn), .ref mr, .int (nI rm), .int rs, .ref mk, .int (nI zt), .int (nI T), .int go, .int (nI th), .int (nI nh), .ref mw, .ref mc, .ref mn, .ref mx, .int (nI sm), .ref ms, .int se, .ref mv, .int kh, .int kg, .int (nI kt), .int (nI ks), .ref mq, .ref mu, .long hsh]))]) (va_runV (mc := 0) (ms := 0) (rm := { frames := 0, cells := 0, slots := 0, locals := 0 }) (As := []) (rest := []) ⟨hx, hb, hml, hown, hts⟩ (c_X11_lacks l g H.size mo mt mb mp qn mr rm rs mk zt T go th nh mw mc mn mx sm ms se mv kh kg kt ks mq mu hsh hT) (cwV 0 hts gX11_laws_X11_lacks rfl rfl rfl (by decide +kernel) ⟨Nat.le_of_ble_eq_true rfl, Nat.le_of_ble_eq_true rfl⟩) (kd_preV (wc := [(mo, .inr (11, [.ref mt, .ref mb, .ref mp, .int (nI qn), .ref mr, .int (nI rm), .int rs, .ref mk, .int (nI zt), .int (nI T), .int go, .int (nI th), .int (nI nh), .ref mw, .ref mc, .ref mn, .ref mx, .int (nI sm), .ref ms, .int se, .ref mv, .int kh, .int kg, .int (nI kt), .int (nI ks), .ref mq, .ref mu, .long hsh]))]) (va_recv hK hP (ci := 11) (q0 := 0) rfl rfl) hP hD hS hA hK hE [0] rfl (by decide)) rfl rfl hl.1 rfl (lv_room (Nat.le_of_ble_eq_true rfl)) dX11_laws_26 ⟨Nat.le_of_ble_eq_true rfl, Nat.le_of_ble_eq_true rfl⟩) hP hD hS hA [0] rfl (fun r_26 _ H locs hw hP hS => ?_)
      subst hw
      refine lv_if_eq (tgt := 37) hx hb dX11_laws_29 (by decide) (fun c_29 => ?_) (fun c_29 => ?_)
      · refine lv_aload_n hx hb dX11_laws_37 rfl (lv_at hl 0 rfl) ?_
        refine lv_iload_n hx hb dX11_laws_38 rfl (lv_at hl 1 rfl) ?_
        refine lv_iload_n hx hb dX11_laws_39 rfl (lv_at hl 2 rfl) ?_
        refine kd_callIK (g := g) (wc := [(mo, .inr (11, [.ref mt, .ref mb, .ref mp, .int (nI qn), .ref mr, .int (nI rm), .int rs, .ref mk, .int (nI zt), .int (nI T), .int go, .int (nI th), .int (nI nh), .ref mw, .ref mc, .ref mn, .ref mx, .int (nI sm), .ref ms, .int se, .ref mv, .int kh, .int kg, .int (nI kt), .int (nI ks), .ref mq, .ref mu, .long hsh])), (mw, .inl (g.2.1 0, 36, .inl rf))]) (va_runV (mc := 0) (ms := 0) (rm := { frames := 2, cells := 0, slots := 0, locals := 45 }) (As := [.int p0, .int p1]) (rest := []) ⟨hx, hb, hml, hown, hts⟩ (c_X11_lawOf l g H.size mo mt mb mp qn mr rm rs mk zt T go th nh mw mc mn mx sm ms se mv kh kg kt ks mq mu hsh rf p0 p1 hT) (cwV 2 hts gX11_laws_X11_lawOf rfl rfl rfl (by decide +kernel) ⟨Nat.le_of_ble_eq_true rfl, Nat.le_of_ble_eq_true rfl⟩) (kd_preV (wc := [(mo, .inr (11, [.ref mt, .ref mb, .ref mp, .int (nI qn), .ref mr, .int (nI rm), .int rs, .ref mk, .int (nI zt), .int (nI T), .int go, .int (nI th), .int (nI nh), .ref mw, .ref mc, .ref mn, .ref mx, .int (nI sm), .ref ms, .int se, .ref mv, .int kh, .int kg, .int (nI kt), .int (nI ks), .ref mq, .ref mu, .long hsh])), (mw, .inl (g.2.1 0, 36, .inl rf))]) (va_recv hK hP (ci := 11) (q0 := 0) rfl rfl) hP hD hS hA hK hE [0, 1] rfl (by decide)) rfl rfl hl.1 rfl (lv_room (Nat.le_of_ble_eq_true rfl)) dX11_laws_40 ⟨Nat.le_of_ble_eq_true rfl, Nat.le_of_ble_eq_true rfl⟩) hP hD hS hA [0, 1] rfl (fun r_40 _ H locs hw hP hS => ?_)
        subst hw
        exact kd_iret hx hb hr hlocks hK hS dX11_laws_43 (()) (by rw [sp_X11_laws, if_neg c_9, if_neg c_19, if_pos c_29]) hP hD
      · refine lv_bipush (v := (-103)) hx hb dX11_laws_32 (by decide) ?_
        refine lv_goto (tgt := 43) hx hb dX11_laws_34 (by decide) ?_
        exact kd_iret hx hb hr hlocks hK hS dX11_laws_43 (()) (by rw [sp_X11_laws, if_neg c_9, if_neg c_19, if_neg c_29]) hP hD
    · refine lv_bipush (v := (-102)) hx hb dX11_laws_22 (by decide) ?_
      exact kd_iret hx hb hr hlocks hK hS dX11_laws_24 (()) (by rw [sp_X11_laws, if_neg c_9, if_pos c_19]) hP hD
/-- what KingdomAtDiceModel.see answers and leaves, by its instructions -/
def sp_X11_see (sm : Nat) (uf : Nat → Int32) (p0 : Int32) : Int32 × Nat × (Nat → Int32) :=
  if (sp_X11_in p0.toInt64 2 12) = 0 then
    ((-102), sm, uf)
  else
    if (nI sm) = 8 then
      ((-104), sm, uf)
    else
      (nI (sm + 1), sm + 1, upd uf sm p0)
set_option maxHeartbeats 4000000 in
set_option maxRecDepth 100000 in
theorem c_X11_see (l : Launch) (g : kd_G) (sz : Nat) (mo : Nat) (mt : Nat) (mb : Nat) (mp : Nat) (qn : Nat) (mr : Nat) (rm : Nat) (rs : Int32) (mk : Nat) (zt : Nat) (T : Nat) (go : Int32) (th : Nat) (nh : Nat) (mw : Nat) (mc : Nat) (mn : Nat) (mx : Nat) (sm : Nat) (ms : Nat) (se : Int32) (mv : Nat) (kh : Int32) (kg : Int32) (kt : Nat) (ks : Nat) (mq : Nat) (mu : Nat) (hsh : Int64) (uf : Nat → Int32) (p0 : Int32) (hsm : sm ≤ 8) : kd_MI l yX11_see wsX11_see ({ frames := 1, cells := 0, slots := 0, locals := 25 }) [.ref mo, .int p0] g [(mo, .inr (11, [.ref mt, .ref mb, .ref mp, .int (nI qn), .ref mr, .int (nI rm), .int rs, .ref mk, .int (nI zt), .int (nI T), .int go, .int (nI th), .int (nI nh), .ref mw, .ref mc, .ref mn, .ref mx, .int (nI sm), .ref ms, .int se, .ref mv, .int kh, .int kg, .int (nI kt), .int (nI ks), .ref mq, .ref mu, .long hsh])), (ms, .inl (g.2.1 0, 8, .inl uf))] sz (fun r (u : Nat × (Nat → Int32)) => (r, u) = sp_X11_see sm uf p0) (fun u => [(mo, .inr (11, [.ref mt, .ref mb, .ref mp, .int (nI qn), .ref mr, .int (nI rm), .int rs, .ref mk, .int (nI zt), .int (nI T), .int go, .int (nI th), .int (nI nh), .ref mw, .ref mc, .ref mn, .ref mx, .int (nI u.1), .ref ms, .int se, .ref mv, .int kh, .int kg, .int (nI kt), .int (nI ks), .ref mq, .ref mu, .long hsh])), (ms, .inl (g.2.1 0, 8, .inl u.2))]) 0 0 := by
  refine kd_met (l := l) (y := yX11_see) (ws := wsX11_see) (rm := { frames := 1, cells := 0, slots := 0, locals := 25 }) (av := [.ref mo, .int p0]) (g := g) (WS := [(mo, .inr (11, [.ref mt, .ref mb, .ref mp, .int (nI qn), .ref mr, .int (nI rm), .int rs, .ref mk, .int (nI zt), .int (nI T), .int go, .int (nI th), .int (nI nh), .ref mw, .ref mc, .ref mn, .ref mx, .int (nI sm), .ref ms, .int se, .ref mv, .int kh, .int kg, .int (nI kt), .int (nI ks), .ref mq, .ref mu, .long hsh])), (ms, .inl (g.2.1 0, 8, .inl uf))]) (sz := sz) (mc := 0) (ms := 0) (cc := cX11_see) (maxL := 2) (ret := (some .int)) (own := RX11) (fun A => va_Qi (fun r (u : Nat × (Nat → Int32)) => (r, u) = sp_X11_see sm uf p0) (fun u t => kd_post g A [(mo, .inr (11, [.ref mt, .ref mb, .ref mp, .int (nI qn), .ref mr, .int (nI rm), .int rs, .ref mk, .int (nI zt), .int (nI T), .int go, .int (nI th), .int (nI nh), .ref mw, .ref mc, .ref mn, .ref mx, .int (nI u.1), .ref ms, .int se, .ref mv, .int kh, .int kg, .int (nI kt), .int (nI ks), .ref mq, .ref mu, .long hsh])), (ms, .inl (g.2.1 0, 8, .inl u.2))] t) A) (by decide) rfl rfl (Nat.le_of_ble_eq_true rfl) ?_
  intro p e s m below meth c A ls hx hb hr hml hts hown hlocks hnm hA hP hK hD hS hE hl
  have hl : lv_has ls 2 [(0, .ref mo), (1, .int p0)] := hl
  have hiX11 : ∀ w ∈ u_ws RX11 TX11 28, w ∈ wsX11_see := by decide +kernel
  refine lv_iload_n hx hb dX11_see_0 rfl (lv_at hl 1 rfl) ?_
  refine lv_i2l hx hb dX11_see_1 rfl ?_
  refine lv_ldc2 (v := 2) hx hb hown (hts (.constantLong RX11 141 2) (by decide +kernel)) dX11_see_2 ?_
  refine lv_ldc2 (v := 12) hx hb hown (hts (.constantLong RX11 143 12) (by decide +kernel)) dX11_see_5 ?_
  refine kd_callIK (g := g) (wc := []) (va_runS (mc := 0) (ms := 0) (rm := { frames := 0, cells := 0, slots := 0, locals := 0 }) (As := [.long p0.toInt64, .long 2, .long 12]) (rest := []) ⟨hx, hb, hml, hown, hts⟩ (c_X11_in l g s.heap.size p0.toInt64 2 12 ) (va_cwS 3 hts gX11_see_X11_in rfl rfl rfl (by decide +kernel) ⟨Nat.le_of_ble_eq_true rfl, Nat.le_of_ble_eq_true rfl⟩) (kd_preS (wc := []) (av := [.long p0.toInt64, .long 2, .long 12]) hP hD hS hA hK hE [] rfl (by decide)) rfl rfl hl.1 rfl (lv_room (Nat.le_of_ble_eq_true rfl)) dX11_see_8 ⟨Nat.le_of_ble_eq_true rfl, Nat.le_of_ble_eq_true rfl⟩) hP hD hS hA [] rfl (fun r_8 _ H locs hw hP hS => ?_)
  subst hw
  refine lv_if_ne (tgt := 17) hx hb dX11_see_11 (by decide) (fun c_11 => ?_) (fun c_11 => ?_)
  · refine lv_aload_n hx hb dX11_see_17 rfl (lv_at hl 0 rfl) ?_
    refine va_get (ci := 11) (v := .int (nI sm)) (C := RX11) (T := TX11) (N := 28) hx hb hts hiX11 hown hK hP (0) rfl rfl 17 (by decide) (hts (.fieldLink RX11 115 "KingdomAtDiceModel" "seenMany" "I") (by decide +kernel)) (fun _ h9 => h9) rfl dX11_see_18 ?_
    refine lv_bipush (v := 8) hx hb dX11_see_21 (by decide) ?_
    refine lv_icmp_ne (tgt := 29) hx hb dX11_see_23 (by decide) (fun c_23 => ?_) (fun c_23 => ?_)
    · have n_23 : ¬ sm = 8 := kd_cnq (a := sm) (b := 8) (by omega) (by omega) c_23
      refine lv_aload_n hx hb dX11_see_29 rfl (lv_at hl 0 rfl) ?_
      refine va_get (ci := 11) (v := .ref ms) (C := RX11) (T := TX11) (N := 28) hx hb hts hiX11 hown hK hP (0) rfl rfl 18 (by decide) (hts (.fieldLink RX11 38 "KingdomAtDiceModel" "sums" "[I") (by decide +kernel)) (fun _ h9 => h9) rfl dX11_see_30 ?_
      refine lv_aload_n hx hb dX11_see_33 rfl (lv_at hl 0 rfl) ?_
      refine va_get (ci := 11) (v := .int (nI sm)) (C := RX11) (T := TX11) (N := 28) hx hb hts hiX11 hown hK hP (0) rfl rfl 17 (by decide) (hts (.fieldLink RX11 115 "KingdomAtDiceModel" "seenMany" "I") (by decide +kernel)) (fun _ h9 => h9) rfl dX11_see_34 ?_
      refine lv_iload_n hx hb dX11_see_37 rfl (lv_at hl 1 rfl) ?_
      refine kd_iast hx hb hK hP hD hS 1 (k := sm) rfl (by omega) (by decide) dX11_see_38 (fun H locs hP hD hS => ?_)
      have hP : va_P g.1 vwCl [(mo, .inr (11, [.ref mt, .ref mb, .ref mp, .int (nI qn), .ref mr, .int (nI rm), .int rs, .ref mk, .int (nI zt), .int (nI T), .int go, .int (nI th), .int (nI nh), .ref mw, .ref mc, .ref mn, .ref mx, .int (nI sm), .ref ms, .int se, .ref mv, .int kh, .int kg, .int (nI kt), .int (nI ks), .ref mq, .ref mu, .long hsh])), (ms, .inl (g.2.1 0, 8, .inl (upd uf sm p0)))] H := hP
      have hD : va_D A [(mo, .inr (11, [.ref mt, .ref mb, .ref mp, .int (nI qn), .ref mr, .int (nI rm), .int rs, .ref mk, .int (nI zt), .int (nI T), .int go, .int (nI th), .int (nI nh), .ref mw, .ref mc, .ref mn, .ref mx, .int (nI sm), .ref ms, .int se, .ref mv, .int kh, .int kg, .int (nI kt), .int (nI ks), .ref mq, .ref mu, .long hsh])), (ms, .inl (g.2.1 0, 8, .inl (upd uf sm p0)))] := hD
      refine lv_aload_n hx hb dX11_see_39 rfl (lv_at hl 0 rfl) ?_
      refine lv_dup hx hb dX11_see_40 rfl ?_
      refine va_get (ci := 11) (v := .int (nI sm)) (C := RX11) (T := TX11) (N := 28) hx hb hts hiX11 hown hK hP (0) rfl rfl 17 (by decide) (hts (.fieldLink RX11 115 "KingdomAtDiceModel" "seenMany" "I") (by decide +kernel)) (fun _ h9 => h9) rfl dX11_see_41 ?_
      refine lv_iconst (v := 1) hx hb dX11_see_44 (by decide) ?_
      refine lv_iadd hx hb dX11_see_45 ?_
      refine kd_top (nI_add sm 1) ?_
      refine va_put (ci := 11) (v := .int (nI (sm + 1))) (ty := .int) (C := RX11) (T := TX11) (N := 28) hx hb hts hiX11 tyX11 tyX11_ok nmX11 hown hK hP hD hS (0) rfl rfl 17 (by decide) (hts (.fieldLink RX11 115 "KingdomAtDiceModel" "seenMany" "I") (by decide +kernel)) (fun _ h9 => h9) rfl (by decide +kernel) rfl rfl (Nat.le_of_ble_eq_true rfl) dX11_see_46 (fun H locs hP hD hS => ?_)
      have hP : va_P g.1 vwCl [(mo, .inr (11, [.ref mt, .ref mb, .ref mp, .int (nI qn), .ref mr, .int (nI rm), .int rs, .ref mk, .int (nI zt), .int (nI T), .int go, .int (nI th), .int (nI nh), .ref mw, .ref mc, .ref mn, .ref mx, .int (nI (sm + 1)), .ref ms, .int se, .ref mv, .int kh, .int kg, .int (nI kt), .int (nI ks), .ref mq, .ref mu, .long hsh])), (ms, .inl (g.2.1 0, 8, .inl (upd uf sm p0)))] H := hP
      have hD : va_D A [(mo, .inr (11, [.ref mt, .ref mb, .ref mp, .int (nI qn), .ref mr, .int (nI rm), .int rs, .ref mk, .int (nI zt), .int (nI T), .int go, .int (nI th), .int (nI nh), .ref mw, .ref mc, .ref mn, .ref mx, .int (nI (sm + 1)), .ref ms, .int se, .ref mv, .int kh, .int kg, .int (nI kt), .int (nI ks), .ref mq, .ref mu, .long hsh])), (ms, .inl (g.2.1 0, 8, .inl (upd uf sm p0)))] := hD
      refine lv_aload_n hx hb dX11_see_49 rfl (lv_at hl 0 rfl) ?_
      refine va_get (ci := 11) (v := .int (nI (sm + 1))) (C := RX11) (T := TX11) (N := 28) hx hb hts hiX11 hown hK hP (0) rfl rfl 17 (by decide) (hts (.fieldLink RX11 115 "KingdomAtDiceModel" "seenMany" "I") (by decide +kernel)) (fun _ h9 => h9) rfl dX11_see_50 ?_
      exact kd_iret hx hb hr hlocks hK hS dX11_see_53 ((sm + 1, upd uf sm p0)) (by rw [sp_X11_see, if_neg c_11, if_neg c_23]) hP hD
    · have n_23 : sm = 8 := kd_cq (a := sm) (b := 8) (by omega) (by omega) c_23
      refine lv_bipush (v := (-104)) hx hb dX11_see_26 (by decide) ?_
      exact kd_iret hx hb hr hlocks hK hS dX11_see_28 ((sm, uf)) (by rw [sp_X11_see, if_neg c_11, if_pos c_23]) hP hD
  · refine lv_bipush (v := (-102)) hx hb dX11_see_14 (by decide) ?_
    exact kd_iret hx hb hr hlocks hK hS dX11_see_16 ((sm, uf)) (by rw [sp_X11_see, if_pos c_11]) hP hD
/-- what KingdomAtDiceModel.forget answers and leaves, by its instructions -/
def sp_X11_forget (sm : Nat) : Int32 × Nat :=
  (nI sm, 0)
set_option maxHeartbeats 4000000 in
set_option maxRecDepth 100000 in
theorem c_X11_forget (l : Launch) (g : kd_G) (sz : Nat) (mo : Nat) (mt : Nat) (mb : Nat) (mp : Nat) (qn : Nat) (mr : Nat) (rm : Nat) (rs : Int32) (mk : Nat) (zt : Nat) (T : Nat) (go : Int32) (th : Nat) (nh : Nat) (mw : Nat) (mc : Nat) (mn : Nat) (mx : Nat) (sm : Nat) (ms : Nat) (se : Int32) (mv : Nat) (kh : Int32) (kg : Int32) (kt : Nat) (ks : Nat) (mq : Nat) (mu : Nat) (hsh : Int64)  : kd_MI l yX11_forget wsX11_forget ({ frames := 0, cells := 0, slots := 0, locals := 0 }) [.ref mo] g [(mo, .inr (11, [.ref mt, .ref mb, .ref mp, .int (nI qn), .ref mr, .int (nI rm), .int rs, .ref mk, .int (nI zt), .int (nI T), .int go, .int (nI th), .int (nI nh), .ref mw, .ref mc, .ref mn, .ref mx, .int (nI sm), .ref ms, .int se, .ref mv, .int kh, .int kg, .int (nI kt), .int (nI ks), .ref mq, .ref mu, .long hsh]))] sz (fun r (u : Nat) => (r, u) = sp_X11_forget sm) (fun u => [(mo, .inr (11, [.ref mt, .ref mb, .ref mp, .int (nI qn), .ref mr, .int (nI rm), .int rs, .ref mk, .int (nI zt), .int (nI T), .int go, .int (nI th), .int (nI nh), .ref mw, .ref mc, .ref mn, .ref mx, .int (nI u), .ref ms, .int se, .ref mv, .int kh, .int kg, .int (nI kt), .int (nI ks), .ref mq, .ref mu, .long hsh]))]) 0 0 := by
  refine kd_met (l := l) (y := yX11_forget) (ws := wsX11_forget) (rm := { frames := 0, cells := 0, slots := 0, locals := 0 }) (av := [.ref mo]) (g := g) (WS := [(mo, .inr (11, [.ref mt, .ref mb, .ref mp, .int (nI qn), .ref mr, .int (nI rm), .int rs, .ref mk, .int (nI zt), .int (nI T), .int go, .int (nI th), .int (nI nh), .ref mw, .ref mc, .ref mn, .ref mx, .int (nI sm), .ref ms, .int se, .ref mv, .int kh, .int kg, .int (nI kt), .int (nI ks), .ref mq, .ref mu, .long hsh]))]) (sz := sz) (mc := 0) (ms := 0) (cc := cX11_forget) (maxL := 2) (ret := (some .int)) (own := RX11) (fun A => va_Qi (fun r (u : Nat) => (r, u) = sp_X11_forget sm) (fun u t => kd_post g A [(mo, .inr (11, [.ref mt, .ref mb, .ref mp, .int (nI qn), .ref mr, .int (nI rm), .int rs, .ref mk, .int (nI zt), .int (nI T), .int go, .int (nI th), .int (nI nh), .ref mw, .ref mc, .ref mn, .ref mx, .int (nI u), .ref ms, .int se, .ref mv, .int kh, .int kg, .int (nI kt), .int (nI ks), .ref mq, .ref mu, .long hsh]))] t) A) (by decide) rfl rfl (Nat.le_of_ble_eq_true rfl) ?_
  intro p e s m below meth c A ls hx hb hr hml hts hown hlocks hnm hA hP hK hD hS hE hl
  have hl : lv_has ls 2 [(0, .ref mo)] := hl
  have hiX11 : ∀ w ∈ u_ws RX11 TX11 28, w ∈ wsX11_forget := by decide +kernel
  refine lv_aload_n hx hb dX11_forget_0 rfl (lv_at hl 0 rfl) ?_
  refine va_get (ci := 11) (v := .int (nI sm)) (C := RX11) (T := TX11) (N := 28) hx hb hts hiX11 hown hK hP (0) rfl rfl 17 (by decide) (hts (.fieldLink RX11 115 "KingdomAtDiceModel" "seenMany" "I") (by decide +kernel)) (fun _ h9 => h9) rfl dX11_forget_1 ?_
  refine lv_istore_n (lv' := [(1, .int (nI sm)), (0, .ref mo)]) hx hb dX11_forget_4 rfl hl (by decide) rfl (fun ls hl => ?_)
  refine lv_aload_n hx hb dX11_forget_5 rfl (lv_at hl 1 rfl) ?_
  refine lv_iconst (v := 0) hx hb dX11_forget_6 (by decide) ?_
  refine va_put (ci := 11) (v := .int 0) (ty := .int) (C := RX11) (T := TX11) (N := 28) hx hb hts hiX11 tyX11 tyX11_ok nmX11 hown hK hP hD hS (0) rfl rfl 17 (by decide) (hts (.fieldLink RX11 115 "KingdomAtDiceModel" "seenMany" "I") (by decide +kernel)) (fun _ h9 => h9) rfl (by decide +kernel) rfl rfl (Nat.le_of_ble_eq_true rfl) dX11_forget_7 (fun H locs hP hD hS => ?_)
  have hP : va_P g.1 vwCl [(mo, .inr (11, [.ref mt, .ref mb, .ref mp, .int (nI qn), .ref mr, .int (nI rm), .int rs, .ref mk, .int (nI zt), .int (nI T), .int go, .int (nI th), .int (nI nh), .ref mw, .ref mc, .ref mn, .ref mx, .int 0, .ref ms, .int se, .ref mv, .int kh, .int kg, .int (nI kt), .int (nI ks), .ref mq, .ref mu, .long hsh]))] H := hP
  have hD : va_D A [(mo, .inr (11, [.ref mt, .ref mb, .ref mp, .int (nI qn), .ref mr, .int (nI rm), .int rs, .ref mk, .int (nI zt), .int (nI T), .int go, .int (nI th), .int (nI nh), .ref mw, .ref mc, .ref mn, .ref mx, .int 0, .ref ms, .int se, .ref mv, .int kh, .int kg, .int (nI kt), .int (nI ks), .ref mq, .ref mu, .long hsh]))] := hD
  refine lv_iload_n hx hb dX11_forget_10 rfl (lv_at hl 0 rfl) ?_
  exact kd_iret hx hb hr hlocks hK hS dX11_forget_11 (0) (rfl) hP hD
def kd_mp (tf bf : Nat → Int32) (uv : Nat → Nat) (k : Nat) : Nat → Int64
  | 0 => 1
  | i + 1 => kd_mp tf bf uv k i * (sp_X11_waysOf tf bf k (uv i)).toInt64
def kd_ma (tf bf : Nat → Int32) (k n : Nat) : Int64 := kd_pw (kd_aw tf bf k 11).toInt64 n
def kd_mh (tf bf : Nat → Int32) (uv : Nat → Nat) (n : Nat) : Nat → Int32
  | 0 => 0
  | i + 1 => if lg_cmp (kd_mp tf bf uv i n) 0 ≤ 0 then kd_mh tf bf uv n i ||| 0 else kd_mh tf bf uv n i ||| ((1 : Int32) <<< ((nI i) &&& 31))
def kd_ml (tf bf : Nat → Int32) (uv : Nat → Nat) (n : Nat) : Nat → Int32
  | 0 => -1
  | i + 1 => if lg_cmp (kd_mp tf bf uv i n) 0 ≤ 0 then kd_ml tf bf uv n i else if kd_ml tf bf uv n i = -1 then nI i
    else if lg_cmp (kd_mp tf bf uv i n * kd_ma tf bf (kd_ml tf bf uv n i).toNatClampNeg n) (kd_mp tf bf uv (kd_ml tf bf uv n i).toNatClampNeg n * kd_ma tf bf i n) ≤ 0 then kd_ml tf bf uv n i else nI i
theorem kd_hb5 {i : Nat} (h : i < 5) : nI i = -1 ∨ (nI i = nI (nI i).toNatClampNeg ∧ (nI i).toNatClampNeg < 5) := Or.inr (by rw [nI_clamp (by omega)]; exact ⟨rfl, h⟩)
set_option maxHeartbeats 4000000 in
set_option maxRecDepth 100000 in
theorem c_X11_productOf (l : Launch) (g : kd_G) (sz : Nat) (mo : Nat) (mt : Nat) (mb : Nat) (mp : Nat) (qn : Nat) (mr : Nat) (rm : Nat) (rs : Int32) (mk : Nat) (zt : Nat) (T : Nat) (go : Int32) (th : Nat) (nh : Nat) (mw : Nat) (mc : Nat) (mn : Nat) (mx : Nat) (sm : Nat) (ms : Nat) (se : Int32) (mv : Nat) (kh : Int32) (kg : Int32) (kt : Nat) (ks : Nat) (mq : Nat) (mu : Nat) (hsh : Int64) (tf : Nat → Int32) (bf : Nat → Int32) (uf : Nat → Int32) (k : Nat) (uv : Nat → Nat) (hsm : sm ≤ 8) (huf : ∀ i, i < sm → uf i = nI (uv i)) (huv : ∀ i, i < sm → uv i ≤ 12) (hk : k < 5) : kd_ML l yX11_productOf wsX11_productOf ({ frames := 1, cells := 0, slots := 0, locals := 22 }) [.ref mo, .int (nI k)] g [(mo, .inr (11, [.ref mt, .ref mb, .ref mp, .int (nI qn), .ref mr, .int (nI rm), .int rs, .ref mk, .int (nI zt), .int (nI T), .int go, .int (nI th), .int (nI nh), .ref mw, .ref mc, .ref mn, .ref mx, .int (nI sm), .ref ms, .int se, .ref mv, .int kh, .int kg, .int (nI kt), .int (nI ks), .ref mq, .ref mu, .long hsh])), (mt, .inl (g.2.1 0, 64, .inl tf)), (mb, .inl (g.2.1 0, 13, .inl bf)), (ms, .inl (g.2.1 0, 8, .inl uf))] sz (fun r (_ : Unit) => r = kd_mp tf bf uv k sm) (fun _ => [(mo, .inr (11, [.ref mt, .ref mb, .ref mp, .int (nI qn), .ref mr, .int (nI rm), .int rs, .ref mk, .int (nI zt), .int (nI T), .int go, .int (nI th), .int (nI nh), .ref mw, .ref mc, .ref mn, .ref mx, .int (nI sm), .ref ms, .int se, .ref mv, .int kh, .int kg, .int (nI kt), .int (nI ks), .ref mq, .ref mu, .long hsh])), (mt, .inl (g.2.1 0, 64, .inl tf)), (mb, .inl (g.2.1 0, 13, .inl bf)), (ms, .inl (g.2.1 0, 8, .inl uf))]) 0 0 := by
  refine kd_met (l := l) (y := yX11_productOf) (ws := wsX11_productOf) (rm := { frames := 1, cells := 0, slots := 0, locals := 22 }) (av := [.ref mo, .int (nI k)]) (g := g) (WS := [(mo, .inr (11, [.ref mt, .ref mb, .ref mp, .int (nI qn), .ref mr, .int (nI rm), .int rs, .ref mk, .int (nI zt), .int (nI T), .int go, .int (nI th), .int (nI nh), .ref mw, .ref mc, .ref mn, .ref mx, .int (nI sm), .ref ms, .int se, .ref mv, .int kh, .int kg, .int (nI kt), .int (nI ks), .ref mq, .ref mu, .long hsh])), (mt, .inl (g.2.1 0, 64, .inl tf)), (mb, .inl (g.2.1 0, 13, .inl bf)), (ms, .inl (g.2.1 0, 8, .inl uf))]) (sz := sz) (mc := 0) (ms := 0) (cc := cX11_productOf) (maxL := 5) (ret := (some .long)) (own := RX11) (fun A => va_Ql (fun r (_ : Unit) => r = kd_mp tf bf uv k sm) (fun u t => kd_post g A [(mo, .inr (11, [.ref mt, .ref mb, .ref mp, .int (nI qn), .ref mr, .int (nI rm), .int rs, .ref mk, .int (nI zt), .int (nI T), .int go, .int (nI th), .int (nI nh), .ref mw, .ref mc, .ref mn, .ref mx, .int (nI sm), .ref ms, .int se, .ref mv, .int kh, .int kg, .int (nI kt), .int (nI ks), .ref mq, .ref mu, .long hsh])), (mt, .inl (g.2.1 0, 64, .inl tf)), (mb, .inl (g.2.1 0, 13, .inl bf)), (ms, .inl (g.2.1 0, 8, .inl uf))] t) A) (by decide) rfl rfl (Nat.le_of_ble_eq_true rfl) ?_
  intro p e s m below meth c A ls hx hb hr hml hts hown hlocks hnm hA hP hK hD hS hE hl
  have hl : lv_has ls 5 [(0, .ref mo), (1, .int (nI k))] := hl
  have hiX11 : ∀ w ∈ u_ws RX11 TX11 28, w ∈ wsX11_productOf := by decide +kernel
  refine lv_lconst (v := 1) hx hb dX11_productOf_0 (by decide) ?_
  refine lv_lstore_n (lv' := [(2, .long 1), (0, .ref mo), (1, .int (nI k))]) hx hb dX11_productOf_1 rfl hl (by decide) rfl (fun ls hl => ?_)
  refine lv_iconst (v := 0) hx hb dX11_productOf_2 (by decide) ?_
  refine lv_istore (lv' := [(4, .int 0), (2, .long 1), (0, .ref mo), (1, .int (nI k))]) hx hb dX11_productOf_3 hl (by decide) rfl (fun ls hl => ?_)
  have loop_5 : ∀ (n_5 : Nat) (i : Nat) (a : Int64), (i ≤ sm) → (a = kd_mp tf bf uv k i) → (sm - i) < n_5 → ∀ (H : Heap) (locs : List Loc), va_P g.1 vwCl [(mo, .inr (11, [.ref mt, .ref mb, .ref mp, .int (nI qn), .ref mr, .int (nI rm), .int rs, .ref mk, .int (nI zt), .int (nI T), .int go, .int (nI th), .int (nI nh), .ref mw, .ref mc, .ref mn, .ref mx, .int (nI sm), .ref ms, .int se, .ref mv, .int kh, .int kg, .int (nI kt), .int (nI ks), .ref mq, .ref mu, .long hsh])), (mt, .inl (g.2.1 0, 64, .inl tf)), (mb, .inl (g.2.1 0, 13, .inl bf)), (ms, .inl (g.2.1 0, 8, .inl uf))] H → va_D A [(mo, .inr (11, [.ref mt, .ref mb, .ref mp, .int (nI qn), .ref mr, .int (nI rm), .int rs, .ref mk, .int (nI zt), .int (nI T), .int go, .int (nI th), .int (nI nh), .ref mw, .ref mc, .ref mn, .ref mx, .int (nI sm), .ref ms, .int se, .ref mv, .int kh, .int kg, .int (nI kt), .int (nI ks), .ref mq, .ref mu, .long hsh])), (mt, .inl (g.2.1 0, 64, .inl tf)), (mb, .inl (g.2.1 0, 13, .inl bf)), (ms, .inl (g.2.1 0, 8, .inl uf))] → va_S A s.heap H locs → ∀ (ls : Array Slot), lv_has ls 5 [(0, .ref mo), (1, .int (nI k)), (2, .long a), (4, .int (nI i))] → W p l e ({ frames := 1, cells := 0, slots := 0, locals := 22 } : Room) s m ([.ref mo, .int (nI k)] : List Value).toArray below meth c H locs 0 0 (MQ below (va_Ql (fun r (_ : Unit) => r = kd_mp tf bf uv k sm) (fun u t => kd_post g A [(mo, .inr (11, [.ref mt, .ref mb, .ref mp, .int (nI qn), .ref mr, .int (nI rm), .int rs, .ref mk, .int (nI zt), .int (nI T), .int go, .int (nI th), .int (nI nh), .ref mw, .ref mc, .ref mn, .ref mx, .int (nI sm), .ref ms, .int se, .ref mv, .int kh, .int kg, .int (nI kt), .int (nI ks), .ref mq, .ref mu, .long hsh])), (mt, .inl (g.2.1 0, 64, .inl tf)), (mb, .inl (g.2.1 0, 13, .inl bf)), (ms, .inl (g.2.1 0, 8, .inl uf))] t) A) ([.ref mo, .int (nI k)] : List Value).toArray s 0 0 A) (F0 m 5 ls []) := by
    intro n_5
    induction n_5 with
    | zero => intro i a _ _ hm_5; exact absurd hm_5 (Nat.not_lt_zero _)
    | succ n_5 ih_5 =>
      intro i a hi ha hm_5 H locs hP hD hS ls hl
      refine lv_iload hx hb dX11_productOf_5 (lv_at hl 3 rfl) ?_
      refine lv_aload_n hx hb dX11_productOf_7 rfl (lv_at hl 0 rfl) ?_
      refine va_get (ci := 11) (v := .int (nI sm)) (C := RX11) (T := TX11) (N := 28) hx hb hts hiX11 hown hK hP (0) rfl rfl 17 (by decide) (hts (.fieldLink RX11 115 "KingdomAtDiceModel" "seenMany" "I") (by decide +kernel)) (fun _ h9 => h9) rfl dX11_productOf_8 ?_
      refine lv_icmp_ge (tgt := 36) hx hb dX11_productOf_11 (by decide) (fun c_11 => ?_) (fun c_11 => ?_)
      · have n_11 : sm ≤ i := kd_ce (a := sm) (b := i) (by omega) (by omega) c_11
        refine lv_lload_n hx hb dX11_productOf_36 rfl (lv_at hl 2 rfl) ?_
        exact kd_lret hx hb hr hlocks hK hS dX11_productOf_37 (()) (by rw [ha, show i = sm by omega]) hP hD
      · have n_11 : i < sm := kd_cne (a := sm) (b := i) (by omega) (by omega) c_11
        refine lv_lload_n hx hb dX11_productOf_14 rfl (lv_at hl 2 rfl) ?_
        refine lv_aload_n hx hb dX11_productOf_15 rfl (lv_at hl 0 rfl) ?_
        refine lv_iload_n hx hb dX11_productOf_16 rfl (lv_at hl 1 rfl) ?_
        refine lv_aload_n hx hb dX11_productOf_17 rfl (lv_at hl 0 rfl) ?_
        refine va_get (ci := 11) (v := .ref ms) (C := RX11) (T := TX11) (N := 28) hx hb hts hiX11 hown hK hP (0) rfl rfl 18 (by decide) (hts (.fieldLink RX11 38 "KingdomAtDiceModel" "sums" "[I") (by decide +kernel)) (fun _ h9 => h9) rfl dX11_productOf_18 ?_
        refine lv_iload hx hb dX11_productOf_21 (lv_at hl 3 rfl) ?_
        refine kd_iald hx hb hK hP 3 (k := i) rfl (by omega) (by decide) dX11_productOf_23 ?_
        refine kd_top (y := nI (uv i)) (huf i (by omega)) ?_
        refine kd_callIK (g := g) (wc := [(mo, .inr (11, [.ref mt, .ref mb, .ref mp, .int (nI qn), .ref mr, .int (nI rm), .int rs, .ref mk, .int (nI zt), .int (nI T), .int go, .int (nI th), .int (nI nh), .ref mw, .ref mc, .ref mn, .ref mx, .int (nI sm), .ref ms, .int se, .ref mv, .int kh, .int kg, .int (nI kt), .int (nI ks), .ref mq, .ref mu, .long hsh])), (mt, .inl (g.2.1 0, 64, .inl tf)), (mb, .inl (g.2.1 0, 13, .inl bf))]) (va_runV (mc := 0) (ms := 0) (rm := { frames := 0, cells := 0, slots := 0, locals := 0 }) (As := [.int (nI k), .int (nI (uv i))]) (rest := [.long a]) ⟨hx, hb, hml, hown, hts⟩ (c_X11_waysOf l g H.size mo mt mb mp qn mr rm rs mk zt T go th nh mw mc mn mx sm ms se mv kh kg kt ks mq mu hsh tf bf k (uv i) hk (huv i (by omega))) (cwV 2 hts gX11_productOf_X11_waysOf rfl rfl rfl (by decide +kernel) ⟨Nat.le_of_ble_eq_true rfl, Nat.le_of_ble_eq_true rfl⟩) (kd_preV (wc := [(mo, .inr (11, [.ref mt, .ref mb, .ref mp, .int (nI qn), .ref mr, .int (nI rm), .int rs, .ref mk, .int (nI zt), .int (nI T), .int go, .int (nI th), .int (nI nh), .ref mw, .ref mc, .ref mn, .ref mx, .int (nI sm), .ref ms, .int se, .ref mv, .int kh, .int kg, .int (nI kt), .int (nI ks), .ref mq, .ref mu, .long hsh])), (mt, .inl (g.2.1 0, 64, .inl tf)), (mb, .inl (g.2.1 0, 13, .inl bf))]) (va_recv hK hP (ci := 11) (q0 := 0) rfl rfl) hP hD hS hA hK hE [0, 1, 2] rfl (by decide)) rfl rfl hl.1 rfl (lv_room (Nat.le_of_ble_eq_true rfl)) dX11_productOf_24 ⟨Nat.le_of_ble_eq_true rfl, Nat.le_of_ble_eq_true rfl⟩) hP hD hS hA [0, 1, 2] rfl (fun r_24 _ H locs hw hP hS => ?_)
        subst hw
        refine lv_i2l hx hb dX11_productOf_27 rfl ?_
        refine lv_lmul hx hb dX11_productOf_28 ?_
        refine lv_lstore_n (lv' := [(2, .long (a * ((sp_X11_waysOf tf bf k (uv i)).toInt64))), (0, .ref mo), (1, .int (nI k)), (4, .int (nI i))]) hx hb dX11_productOf_29 rfl hl (by decide) rfl (fun ls hl => ?_)
        refine lv_iinc (v := nI (i + 1)) (lv' := [(4, .int (nI (i + 1))), (2, .long (a * ((sp_X11_waysOf tf bf k (uv i)).toInt64))), (0, .ref mo), (1, .int (nI k))]) hx hb dX11_productOf_30 hl (k := 3) rfl (nI_1 _) (by decide) rfl (fun ls hl => ?_)
        refine lv_goto (tgt := 5) hx hb dX11_productOf_33 (by decide) ?_
        exact ih_5 (i + 1) (a * ((sp_X11_waysOf tf bf k (uv i)).toInt64)) (by omega) (by rw [kd_mp, ← ha]) (by omega) _ _ hP hD hS ls (lv_sub hl [2, 3, 1, 0] rfl)
  exact loop_5 ((sm - 0) + 1) 0 1 (by omega) rfl (Nat.lt_succ_self _) _ _ hP hD hS ls (lv_sub hl [2, 3, 1, 0] rfl)
set_option maxHeartbeats 4000000 in
set_option maxRecDepth 100000 in
theorem c_X11_allOf (l : Launch) (g : kd_G) (sz : Nat) (mo : Nat) (mt : Nat) (mb : Nat) (mp : Nat) (qn : Nat) (mr : Nat) (rm : Nat) (rs : Int32) (mk : Nat) (zt : Nat) (T : Nat) (go : Int32) (th : Nat) (nh : Nat) (mw : Nat) (mc : Nat) (mn : Nat) (mx : Nat) (sm : Nat) (ms : Nat) (se : Int32) (mv : Nat) (kh : Int32) (kg : Int32) (kt : Nat) (ks : Nat) (mq : Nat) (mu : Nat) (hsh : Int64) (tf : Nat → Int32) (bf : Nat → Int32) (k : Nat) (hsm : sm ≤ 8) (hk : k < 5) : kd_ML l yX11_allOf wsX11_allOf ({ frames := 2, cells := 0, slots := 0, locals := 45 }) [.ref mo, .int (nI k)] g [(mo, .inr (11, [.ref mt, .ref mb, .ref mp, .int (nI qn), .ref mr, .int (nI rm), .int rs, .ref mk, .int (nI zt), .int (nI T), .int go, .int (nI th), .int (nI nh), .ref mw, .ref mc, .ref mn, .ref mx, .int (nI sm), .ref ms, .int se, .ref mv, .int kh, .int kg, .int (nI kt), .int (nI ks), .ref mq, .ref mu, .long hsh])), (mt, .inl (g.2.1 0, 64, .inl tf)), (mb, .inl (g.2.1 0, 13, .inl bf))] sz (fun r (_ : Unit) => r = kd_ma tf bf k sm) (fun _ => [(mo, .inr (11, [.ref mt, .ref mb, .ref mp, .int (nI qn), .ref mr, .int (nI rm), .int rs, .ref mk, .int (nI zt), .int (nI T), .int go, .int (nI th), .int (nI nh), .ref mw, .ref mc, .ref mn, .ref mx, .int (nI sm), .ref ms, .int se, .ref mv, .int kh, .int kg, .int (nI kt), .int (nI ks), .ref mq, .ref mu, .long hsh])), (mt, .inl (g.2.1 0, 64, .inl tf)), (mb, .inl (g.2.1 0, 13, .inl bf))]) 0 0 := by
  refine kd_met (l := l) (y := yX11_allOf) (ws := wsX11_allOf) (rm := { frames := 2, cells := 0, slots := 0, locals := 45 }) (av := [.ref mo, .int (nI k)]) (g := g) (WS := [(mo, .inr (11, [.ref mt, .ref mb, .ref mp, .int (nI qn), .ref mr, .int (nI rm), .int rs, .ref mk, .int (nI zt), .int (nI T), .int go, .int (nI th), .int (nI nh), .ref mw, .ref mc, .ref mn, .ref mx, .int (nI sm), .ref ms, .int se, .ref mv, .int kh, .int kg, .int (nI kt), .int (nI ks), .ref mq, .ref mu, .long hsh])), (mt, .inl (g.2.1 0, 64, .inl tf)), (mb, .inl (g.2.1 0, 13, .inl bf))]) (sz := sz) (mc := 0) (ms := 0) (cc := cX11_allOf) (maxL := 5) (ret := (some .long)) (own := RX11) (fun A => va_Ql (fun r (_ : Unit) => r = kd_ma tf bf k sm) (fun u t => kd_post g A [(mo, .inr (11, [.ref mt, .ref mb, .ref mp, .int (nI qn), .ref mr, .int (nI rm), .int rs, .ref mk, .int (nI zt), .int (nI T), .int go, .int (nI th), .int (nI nh), .ref mw, .ref mc, .ref mn, .ref mx, .int (nI sm), .ref ms, .int se, .ref mv, .int kh, .int kg, .int (nI kt), .int (nI ks), .ref mq, .ref mu, .long hsh])), (mt, .inl (g.2.1 0, 64, .inl tf)), (mb, .inl (g.2.1 0, 13, .inl bf))] t) A) (by decide) rfl rfl (Nat.le_of_ble_eq_true rfl) ?_
  intro p e s m below meth c A ls hx hb hr hml hts hown hlocks hnm hA hP hK hD hS hE hl
  have hl : lv_has ls 5 [(0, .ref mo), (1, .int (nI k))] := hl
  have hiX11 : ∀ w ∈ u_ws RX11 TX11 28, w ∈ wsX11_allOf := by decide +kernel
  refine lv_lconst (v := 1) hx hb dX11_allOf_0 (by decide) ?_
  refine lv_lstore_n (lv' := [(2, .long 1), (0, .ref mo), (1, .int (nI k))]) hx hb dX11_allOf_1 rfl hl (by decide) rfl (fun ls hl => ?_)
  refine lv_iconst (v := 0) hx hb dX11_allOf_2 (by decide) ?_
  refine lv_istore (lv' := [(4, .int 0), (2, .long 1), (0, .ref mo), (1, .int (nI k))]) hx hb dX11_allOf_3 hl (by decide) rfl (fun ls hl => ?_)
  have loop_5 : ∀ (n_5 : Nat) (i : Nat) (a : Int64), (i ≤ sm) → (a = kd_pw (kd_aw tf bf k 11).toInt64 i) → (sm - i) < n_5 → ∀ (H : Heap) (locs : List Loc), va_P g.1 vwCl [(mo, .inr (11, [.ref mt, .ref mb, .ref mp, .int (nI qn), .ref mr, .int (nI rm), .int rs, .ref mk, .int (nI zt), .int (nI T), .int go, .int (nI th), .int (nI nh), .ref mw, .ref mc, .ref mn, .ref mx, .int (nI sm), .ref ms, .int se, .ref mv, .int kh, .int kg, .int (nI kt), .int (nI ks), .ref mq, .ref mu, .long hsh])), (mt, .inl (g.2.1 0, 64, .inl tf)), (mb, .inl (g.2.1 0, 13, .inl bf))] H → va_D A [(mo, .inr (11, [.ref mt, .ref mb, .ref mp, .int (nI qn), .ref mr, .int (nI rm), .int rs, .ref mk, .int (nI zt), .int (nI T), .int go, .int (nI th), .int (nI nh), .ref mw, .ref mc, .ref mn, .ref mx, .int (nI sm), .ref ms, .int se, .ref mv, .int kh, .int kg, .int (nI kt), .int (nI ks), .ref mq, .ref mu, .long hsh])), (mt, .inl (g.2.1 0, 64, .inl tf)), (mb, .inl (g.2.1 0, 13, .inl bf))] → va_S A s.heap H locs → ∀ (ls : Array Slot), lv_has ls 5 [(0, .ref mo), (1, .int (nI k)), (2, .long a), (4, .int (nI i))] → W p l e ({ frames := 2, cells := 0, slots := 0, locals := 45 } : Room) s m ([.ref mo, .int (nI k)] : List Value).toArray below meth c H locs 0 0 (MQ below (va_Ql (fun r (_ : Unit) => r = kd_ma tf bf k sm) (fun u t => kd_post g A [(mo, .inr (11, [.ref mt, .ref mb, .ref mp, .int (nI qn), .ref mr, .int (nI rm), .int rs, .ref mk, .int (nI zt), .int (nI T), .int go, .int (nI th), .int (nI nh), .ref mw, .ref mc, .ref mn, .ref mx, .int (nI sm), .ref ms, .int se, .ref mv, .int kh, .int kg, .int (nI kt), .int (nI ks), .ref mq, .ref mu, .long hsh])), (mt, .inl (g.2.1 0, 64, .inl tf)), (mb, .inl (g.2.1 0, 13, .inl bf))] t) A) ([.ref mo, .int (nI k)] : List Value).toArray s 0 0 A) (F0 m 5 ls []) := by
    intro n_5
    induction n_5 with
    | zero => intro i a _ _ hm_5; exact absurd hm_5 (Nat.not_lt_zero _)
    | succ n_5 ih_5 =>
      intro i a hi ha hm_5 H locs hP hD hS ls hl
      refine lv_iload hx hb dX11_allOf_5 (lv_at hl 3 rfl) ?_
      refine lv_aload_n hx hb dX11_allOf_7 rfl (lv_at hl 0 rfl) ?_
      refine va_get (ci := 11) (v := .int (nI sm)) (C := RX11) (T := TX11) (N := 28) hx hb hts hiX11 hown hK hP (0) rfl rfl 17 (by decide) (hts (.fieldLink RX11 115 "KingdomAtDiceModel" "seenMany" "I") (by decide +kernel)) (fun _ h9 => h9) rfl dX11_allOf_8 ?_
      refine lv_icmp_ge (tgt := 29) hx hb dX11_allOf_11 (by decide) (fun c_11 => ?_) (fun c_11 => ?_)
      · have n_11 : sm ≤ i := kd_ce (a := sm) (b := i) (by omega) (by omega) c_11
        refine lv_lload_n hx hb dX11_allOf_29 rfl (lv_at hl 2 rfl) ?_
        exact kd_lret hx hb hr hlocks hK hS dX11_allOf_30 (()) (by rw [kd_ma, ha, show i = sm by omega]) hP hD
      · have n_11 : i < sm := kd_cne (a := sm) (b := i) (by omega) (by omega) c_11
        refine lv_lload_n hx hb dX11_allOf_14 rfl (lv_at hl 2 rfl) ?_
        refine lv_aload_n hx hb dX11_allOf_15 rfl (lv_at hl 0 rfl) ?_
        refine lv_iload_n hx hb dX11_allOf_16 rfl (lv_at hl 1 rfl) ?_
        refine kd_callIK (g := g) (wc := [(mo, .inr (11, [.ref mt, .ref mb, .ref mp, .int (nI qn), .ref mr, .int (nI rm), .int rs, .ref mk, .int (nI zt), .int (nI T), .int go, .int (nI th), .int (nI nh), .ref mw, .ref mc, .ref mn, .ref mx, .int (nI sm), .ref ms, .int se, .ref mv, .int kh, .int kg, .int (nI kt), .int (nI ks), .ref mq, .ref mu, .long hsh])), (mt, .inl (g.2.1 0, 64, .inl tf)), (mb, .inl (g.2.1 0, 13, .inl bf))]) (va_runV (mc := 0) (ms := 0) (rm := { frames := 1, cells := 0, slots := 0, locals := 22 }) (As := [.int (nI k)]) (rest := [.long a]) ⟨hx, hb, hml, hown, hts⟩ (c_X11_allWays l g H.size mo mt mb mp qn mr rm rs mk zt T go th nh mw mc mn mx sm ms se mv kh kg kt ks mq mu hsh tf bf k hk) (cwV 1 hts gX11_allOf_X11_allWays rfl rfl rfl (by decide +kernel) ⟨Nat.le_of_ble_eq_true rfl, Nat.le_of_ble_eq_true rfl⟩) (kd_preV (wc := [(mo, .inr (11, [.ref mt, .ref mb, .ref mp, .int (nI qn), .ref mr, .int (nI rm), .int rs, .ref mk, .int (nI zt), .int (nI T), .int go, .int (nI th), .int (nI nh), .ref mw, .ref mc, .ref mn, .ref mx, .int (nI sm), .ref ms, .int se, .ref mv, .int kh, .int kg, .int (nI kt), .int (nI ks), .ref mq, .ref mu, .long hsh])), (mt, .inl (g.2.1 0, 64, .inl tf)), (mb, .inl (g.2.1 0, 13, .inl bf))]) (va_recv hK hP (ci := 11) (q0 := 0) rfl rfl) hP hD hS hA hK hE [0, 1, 2] rfl (by decide)) rfl rfl hl.1 rfl (lv_room (Nat.le_of_ble_eq_true rfl)) dX11_allOf_17 ⟨Nat.le_of_ble_eq_true rfl, Nat.le_of_ble_eq_true rfl⟩) hP hD hS hA [0, 1, 2] rfl (fun r_17 _ H locs hw hP hS => ?_)
        subst hw
        refine lv_i2l hx hb dX11_allOf_20 rfl ?_
        refine lv_lmul hx hb dX11_allOf_21 ?_
        refine lv_lstore_n (lv' := [(2, .long (a * ((kd_aw tf bf k 11).toInt64))), (0, .ref mo), (1, .int (nI k)), (4, .int (nI i))]) hx hb dX11_allOf_22 rfl hl (by decide) rfl (fun ls hl => ?_)
        refine lv_iinc (v := nI (i + 1)) (lv' := [(4, .int (nI (i + 1))), (2, .long (a * ((kd_aw tf bf k 11).toInt64))), (0, .ref mo), (1, .int (nI k))]) hx hb dX11_allOf_23 hl (k := 3) rfl (nI_1 _) (by decide) rfl (fun ls hl => ?_)
        refine lv_goto (tgt := 5) hx hb dX11_allOf_26 (by decide) ?_
        exact ih_5 (i + 1) (a * ((kd_aw tf bf k 11).toInt64)) (by omega) (by rw [kd_pw, ← ha]) (by omega) _ _ hP hD hS ls (lv_sub hl [2, 3, 1, 0] rfl)
  exact loop_5 ((sm - 0) + 1) 0 1 (by omega) rfl (Nat.lt_succ_self _) _ _ hP hD hS ls (lv_sub hl [2, 3, 1, 0] rfl)
set_option maxHeartbeats 4000000 in
set_option maxRecDepth 100000 in
theorem c_X11_whichOf (l : Launch) (g : kd_G) (sz : Nat) (mo : Nat) (mt : Nat) (mb : Nat) (mp : Nat) (qn : Nat) (mr : Nat) (rm : Nat) (rs : Int32) (mk : Nat) (zt : Nat) (T : Nat) (go : Int32) (th : Nat) (nh : Nat) (mw : Nat) (mc : Nat) (mn : Nat) (mx : Nat) (sm : Nat) (ms : Nat) (se : Int32) (mv : Nat) (kh : Int32) (kg : Int32) (kt : Nat) (ks : Nat) (mq : Nat) (mu : Nat) (hsh : Int64) (tf : Nat → Int32) (bf : Nat → Int32) (uf : Nat → Int32) (uv : Nat → Nat) (hsm : sm ≤ 8) (huf : ∀ i, i < sm → uf i = nI (uv i)) (huv : ∀ i, i < sm → uv i ≤ 12) : kd_MI l yX11_whichOf wsX11_whichOf ({ frames := 2, cells := 0, slots := 0, locals := 46 }) [.ref mo] g [(mo, .inr (11, [.ref mt, .ref mb, .ref mp, .int (nI qn), .ref mr, .int (nI rm), .int rs, .ref mk, .int (nI zt), .int (nI T), .int go, .int (nI th), .int (nI nh), .ref mw, .ref mc, .ref mn, .ref mx, .int (nI sm), .ref ms, .int se, .ref mv, .int kh, .int kg, .int (nI kt), .int (nI ks), .ref mq, .ref mu, .long hsh])), (mt, .inl (g.2.1 0, 64, .inl tf)), (mb, .inl (g.2.1 0, 13, .inl bf)), (ms, .inl (g.2.1 0, 8, .inl uf))] sz (fun r (_ : Unit) => r = kd_mh tf bf uv sm 5) (fun _ => [(mo, .inr (11, [.ref mt, .ref mb, .ref mp, .int (nI qn), .ref mr, .int (nI rm), .int rs, .ref mk, .int (nI zt), .int (nI T), .int go, .int (nI th), .int (nI nh), .ref mw, .ref mc, .ref mn, .ref mx, .int (nI sm), .ref ms, .int se, .ref mv, .int kh, .int kg, .int (nI kt), .int (nI ks), .ref mq, .ref mu, .long hsh])), (mt, .inl (g.2.1 0, 64, .inl tf)), (mb, .inl (g.2.1 0, 13, .inl bf)), (ms, .inl (g.2.1 0, 8, .inl uf))]) 0 0 := by
  refine kd_met (l := l) (y := yX11_whichOf) (ws := wsX11_whichOf) (rm := { frames := 2, cells := 0, slots := 0, locals := 46 }) (av := [.ref mo]) (g := g) (WS := [(mo, .inr (11, [.ref mt, .ref mb, .ref mp, .int (nI qn), .ref mr, .int (nI rm), .int rs, .ref mk, .int (nI zt), .int (nI T), .int go, .int (nI th), .int (nI nh), .ref mw, .ref mc, .ref mn, .ref mx, .int (nI sm), .ref ms, .int se, .ref mv, .int kh, .int kg, .int (nI kt), .int (nI ks), .ref mq, .ref mu, .long hsh])), (mt, .inl (g.2.1 0, 64, .inl tf)), (mb, .inl (g.2.1 0, 13, .inl bf)), (ms, .inl (g.2.1 0, 8, .inl uf))]) (sz := sz) (mc := 0) (ms := 0) (cc := cX11_whichOf) (maxL := 3) (ret := (some .int)) (own := RX11) (fun A => va_Qi (fun r (_ : Unit) => r = kd_mh tf bf uv sm 5) (fun u t => kd_post g A [(mo, .inr (11, [.ref mt, .ref mb, .ref mp, .int (nI qn), .ref mr, .int (nI rm), .int rs, .ref mk, .int (nI zt), .int (nI T), .int go, .int (nI th), .int (nI nh), .ref mw, .ref mc, .ref mn, .ref mx, .int (nI sm), .ref ms, .int se, .ref mv, .int kh, .int kg, .int (nI kt), .int (nI ks), .ref mq, .ref mu, .long hsh])), (mt, .inl (g.2.1 0, 64, .inl tf)), (mb, .inl (g.2.1 0, 13, .inl bf)), (ms, .inl (g.2.1 0, 8, .inl uf))] t) A) (by decide) rfl rfl (Nat.le_of_ble_eq_true rfl) ?_
  intro p e s m below meth c A ls hx hb hr hml hts hown hlocks hnm hA hP hK hD hS hE hl
  have hl : lv_has ls 3 [(0, .ref mo)] := hl
  refine lv_iconst (v := 0) hx hb dX11_whichOf_0 (by decide) ?_
  refine lv_istore_n (lv' := [(1, .int 0), (0, .ref mo)]) hx hb dX11_whichOf_1 rfl hl (by decide) rfl (fun ls hl => ?_)
  refine lv_iconst (v := 0) hx hb dX11_whichOf_2 (by decide) ?_
  refine lv_istore_n (lv' := [(2, .int 0), (1, .int 0), (0, .ref mo)]) hx hb dX11_whichOf_3 rfl hl (by decide) rfl (fun ls hl => ?_)
  have loop_4 : ∀ (n_4 : Nat) (i : Nat) (a : Int32), (i ≤ 5) → (a = kd_mh tf bf uv sm i) → (5 - i) < n_4 → ∀ (H : Heap) (locs : List Loc), va_P g.1 vwCl [(mo, .inr (11, [.ref mt, .ref mb, .ref mp, .int (nI qn), .ref mr, .int (nI rm), .int rs, .ref mk, .int (nI zt), .int (nI T), .int go, .int (nI th), .int (nI nh), .ref mw, .ref mc, .ref mn, .ref mx, .int (nI sm), .ref ms, .int se, .ref mv, .int kh, .int kg, .int (nI kt), .int (nI ks), .ref mq, .ref mu, .long hsh])), (mt, .inl (g.2.1 0, 64, .inl tf)), (mb, .inl (g.2.1 0, 13, .inl bf)), (ms, .inl (g.2.1 0, 8, .inl uf))] H → va_D A [(mo, .inr (11, [.ref mt, .ref mb, .ref mp, .int (nI qn), .ref mr, .int (nI rm), .int rs, .ref mk, .int (nI zt), .int (nI T), .int go, .int (nI th), .int (nI nh), .ref mw, .ref mc, .ref mn, .ref mx, .int (nI sm), .ref ms, .int se, .ref mv, .int kh, .int kg, .int (nI kt), .int (nI ks), .ref mq, .ref mu, .long hsh])), (mt, .inl (g.2.1 0, 64, .inl tf)), (mb, .inl (g.2.1 0, 13, .inl bf)), (ms, .inl (g.2.1 0, 8, .inl uf))] → va_S A s.heap H locs → ∀ (ls : Array Slot), lv_has ls 3 [(0, .ref mo), (1, .int a), (2, .int (nI i))] → W p l e ({ frames := 2, cells := 0, slots := 0, locals := 46 } : Room) s m ([.ref mo] : List Value).toArray below meth c H locs 0 0 (MQ below (va_Qi (fun r (_ : Unit) => r = kd_mh tf bf uv sm 5) (fun u t => kd_post g A [(mo, .inr (11, [.ref mt, .ref mb, .ref mp, .int (nI qn), .ref mr, .int (nI rm), .int rs, .ref mk, .int (nI zt), .int (nI T), .int go, .int (nI th), .int (nI nh), .ref mw, .ref mc, .ref mn, .ref mx, .int (nI sm), .ref ms, .int se, .ref mv, .int kh, .int kg, .int (nI kt), .int (nI ks), .ref mq, .ref mu, .long hsh])), (mt, .inl (g.2.1 0, 64, .inl tf)), (mb, .inl (g.2.1 0, 13, .inl bf)), (ms, .inl (g.2.1 0, 8, .inl uf))] t) A) ([.ref mo] : List Value).toArray s 0 0 A) (F0 m 4 ls []) := by
    intro n_4
    induction n_4 with
    | zero => intro i a _ _ hm_4; exact absurd hm_4 (Nat.not_lt_zero _)
    | succ n_4 ih_4 =>
      intro i a hi ha hm_4 H locs hP hD hS ls hl
      refine lv_iload_n hx hb dX11_whichOf_4 rfl (lv_at hl 2 rfl) ?_
      refine lv_iconst (v := 5) hx hb dX11_whichOf_5 (by decide) ?_
      refine lv_icmp_ge (tgt := 35) hx hb dX11_whichOf_6 (by decide) (fun c_6 => ?_) (fun c_6 => ?_)
      · have n_6 : 5 ≤ i := kd_ce (a := 5) (b := i) (by omega) (by omega) c_6
        refine lv_iload_n hx hb dX11_whichOf_35 rfl (lv_at hl 1 rfl) ?_
        exact kd_iret hx hb hr hlocks hK hS dX11_whichOf_36 (()) (by rw [ha, show i = 5 by omega]) hP hD
      · have n_6 : i < 5 := kd_cne (a := 5) (b := i) (by omega) (by omega) c_6
        refine lv_iload_n hx hb dX11_whichOf_9 rfl (lv_at hl 1 rfl) ?_
        refine lv_aload_n hx hb dX11_whichOf_10 rfl (lv_at hl 0 rfl) ?_
        refine lv_iload_n hx hb dX11_whichOf_11 rfl (lv_at hl 2 rfl) ?_
        refine kd_callLK (g := g) (wc := [(mo, .inr (11, [.ref mt, .ref mb, .ref mp, .int (nI qn), .ref mr, .int (nI rm), .int rs, .ref mk, .int (nI zt), .int (nI T), .int go, .int (nI th), .int (nI nh), .ref mw, .ref mc, .ref mn, .ref mx, .int (nI sm), .ref ms, .int se, .ref mv, .int kh, .int kg, .int (nI kt), .int (nI ks), .ref mq, .ref mu, .long hsh])), (mt, .inl (g.2.1 0, 64, .inl tf)), (mb, .inl (g.2.1 0, 13, .inl bf)), (ms, .inl (g.2.1 0, 8, .inl uf))]) (va_runV (mc := 0) (ms := 0) (rm := { frames := 1, cells := 0, slots := 0, locals := 22 }) (As := [.int (nI i)]) (rest := [.int a]) ⟨hx, hb, hml, hown, hts⟩ (c_X11_productOf l g H.size mo mt mb mp qn mr rm rs mk zt T go th nh mw mc mn mx sm ms se mv kh kg kt ks mq mu hsh tf bf uf i uv hsm huf huv (by omega)) (cwV 1 hts gX11_whichOf_X11_productOf rfl rfl rfl (by decide +kernel) ⟨Nat.le_of_ble_eq_true rfl, Nat.le_of_ble_eq_true rfl⟩) (kd_preV (wc := [(mo, .inr (11, [.ref mt, .ref mb, .ref mp, .int (nI qn), .ref mr, .int (nI rm), .int rs, .ref mk, .int (nI zt), .int (nI T), .int go, .int (nI th), .int (nI nh), .ref mw, .ref mc, .ref mn, .ref mx, .int (nI sm), .ref ms, .int se, .ref mv, .int kh, .int kg, .int (nI kt), .int (nI ks), .ref mq, .ref mu, .long hsh])), (mt, .inl (g.2.1 0, 64, .inl tf)), (mb, .inl (g.2.1 0, 13, .inl bf)), (ms, .inl (g.2.1 0, 8, .inl uf))]) (va_recv hK hP (ci := 11) (q0 := 0) rfl rfl) hP hD hS hA hK hE [0, 1, 2, 3] rfl (by decide)) rfl rfl hl.1 rfl (lv_room (Nat.le_of_ble_eq_true rfl)) dX11_whichOf_12 ⟨Nat.le_of_ble_eq_true rfl, Nat.le_of_ble_eq_true rfl⟩) hP hD hS hA [0, 1, 2, 3] rfl (fun r_12 _ H locs hw hP hS => ?_)
        subst hw
        refine lv_lconst (v := 0) hx hb dX11_whichOf_15 (by decide) ?_
        refine W.lcmp hx hb dX11_whichOf_16 ?_
        refine lv_if_le (tgt := 26) hx hb dX11_whichOf_17 (by decide) (fun c_17 => ?_) (fun c_17 => ?_)
        · refine lv_iconst (v := 0) hx hb dX11_whichOf_26 (by decide) ?_
          refine lv_ior hx hb dX11_whichOf_27 ?_
          refine lv_istore_n (lv' := [(1, .int (a ||| 0)), (0, .ref mo), (2, .int (nI i))]) hx hb dX11_whichOf_28 rfl hl (by decide) rfl (fun ls hl => ?_)
          refine lv_iinc (v := nI (i + 1)) (lv' := [(2, .int (nI (i + 1))), (1, .int (a ||| 0)), (0, .ref mo)]) hx hb dX11_whichOf_29 hl (k := 2) rfl (nI_1 _) (by decide) rfl (fun ls hl => ?_)
          refine lv_goto (tgt := 4) hx hb dX11_whichOf_32 (by decide) ?_
          exact ih_4 (i + 1) (a ||| 0) (by omega) (by rw [kd_mh, ← ha, if_pos c_17]) (by omega) _ _ hP hD hS ls (lv_sub hl [2, 1, 0] rfl)
        · refine lv_iconst (v := 1) hx hb dX11_whichOf_20 (by decide) ?_
          refine lv_iload_n hx hb dX11_whichOf_21 rfl (lv_at hl 2 rfl) ?_
          refine lv_ishl hx hb dX11_whichOf_22 ?_
          refine lv_goto (tgt := 27) hx hb dX11_whichOf_23 (by decide) ?_
          refine lv_ior hx hb dX11_whichOf_27 ?_
          refine lv_istore_n (lv' := [(1, .int (a ||| (1 <<< ((nI i) &&& 31)))), (0, .ref mo), (2, .int (nI i))]) hx hb dX11_whichOf_28 rfl hl (by decide) rfl (fun ls hl => ?_)
          refine lv_iinc (v := nI (i + 1)) (lv' := [(2, .int (nI (i + 1))), (1, .int (a ||| (1 <<< ((nI i) &&& 31)))), (0, .ref mo)]) hx hb dX11_whichOf_29 hl (k := 2) rfl (nI_1 _) (by decide) rfl (fun ls hl => ?_)
          refine lv_goto (tgt := 4) hx hb dX11_whichOf_32 (by decide) ?_
          exact ih_4 (i + 1) (a ||| (1 <<< ((nI i) &&& 31))) (by omega) (by rw [kd_mh, ← ha, if_neg c_17]) (by omega) _ _ hP hD hS ls (lv_sub hl [2, 1, 0] rfl)
  exact loop_4 ((5 - 0) + 1) 0 0 (by omega) rfl (Nat.lt_succ_self _) _ _ hP hD hS ls (lv_sub hl [2, 1, 0] rfl)
/-- what KingdomAtDiceModel.which answers and leaves, by its instructions -/
def sp_X11_which (sm : Nat) (tf : Nat → Int32) (bf : Nat → Int32) (uv : Nat → Nat) : Int32 :=
  kd_mh tf bf uv sm 5
set_option maxHeartbeats 4000000 in
set_option maxRecDepth 100000 in
theorem c_X11_which (l : Launch) (g : kd_G) (sz : Nat) (mo : Nat) (mt : Nat) (mb : Nat) (mp : Nat) (qn : Nat) (mr : Nat) (rm : Nat) (rs : Int32) (mk : Nat) (zt : Nat) (T : Nat) (go : Int32) (th : Nat) (nh : Nat) (mw : Nat) (mc : Nat) (mn : Nat) (mx : Nat) (sm : Nat) (ms : Nat) (se : Int32) (mv : Nat) (kh : Int32) (kg : Int32) (kt : Nat) (ks : Nat) (mq : Nat) (mu : Nat) (hsh : Int64) (tf : Nat → Int32) (bf : Nat → Int32) (uf : Nat → Int32) (uv : Nat → Nat) (hsm : sm ≤ 8) (huf : ∀ i, i < sm → uf i = nI (uv i)) (huv : ∀ i, i < sm → uv i ≤ 12) : kd_MI l yX11_which wsX11_which ({ frames := 3, cells := 0, slots := 0, locals := 68 }) [.ref mo] g [(mo, .inr (11, [.ref mt, .ref mb, .ref mp, .int (nI qn), .ref mr, .int (nI rm), .int rs, .ref mk, .int (nI zt), .int (nI T), .int go, .int (nI th), .int (nI nh), .ref mw, .ref mc, .ref mn, .ref mx, .int (nI sm), .ref ms, .int se, .ref mv, .int kh, .int kg, .int (nI kt), .int (nI ks), .ref mq, .ref mu, .long hsh])), (mt, .inl (g.2.1 0, 64, .inl tf)), (mb, .inl (g.2.1 0, 13, .inl bf)), (ms, .inl (g.2.1 0, 8, .inl uf))] sz (fun r (_ : Unit) => r = sp_X11_which sm tf bf uv) (fun _ => [(mo, .inr (11, [.ref mt, .ref mb, .ref mp, .int (nI qn), .ref mr, .int (nI rm), .int rs, .ref mk, .int (nI zt), .int (nI T), .int go, .int (nI th), .int (nI nh), .ref mw, .ref mc, .ref mn, .ref mx, .int (nI sm), .ref ms, .int se, .ref mv, .int kh, .int kg, .int (nI kt), .int (nI ks), .ref mq, .ref mu, .long hsh])), (mt, .inl (g.2.1 0, 64, .inl tf)), (mb, .inl (g.2.1 0, 13, .inl bf)), (ms, .inl (g.2.1 0, 8, .inl uf))]) 0 0 := by
  refine kd_met (l := l) (y := yX11_which) (ws := wsX11_which) (rm := { frames := 3, cells := 0, slots := 0, locals := 68 }) (av := [.ref mo]) (g := g) (WS := [(mo, .inr (11, [.ref mt, .ref mb, .ref mp, .int (nI qn), .ref mr, .int (nI rm), .int rs, .ref mk, .int (nI zt), .int (nI T), .int go, .int (nI th), .int (nI nh), .ref mw, .ref mc, .ref mn, .ref mx, .int (nI sm), .ref ms, .int se, .ref mv, .int kh, .int kg, .int (nI kt), .int (nI ks), .ref mq, .ref mu, .long hsh])), (mt, .inl (g.2.1 0, 64, .inl tf)), (mb, .inl (g.2.1 0, 13, .inl bf)), (ms, .inl (g.2.1 0, 8, .inl uf))]) (sz := sz) (mc := 0) (ms := 0) (cc := cX11_which) (maxL := 1) (ret := (some .int)) (own := RX11) (fun A => va_Qi (fun r (_ : Unit) => r = sp_X11_which sm tf bf uv) (fun u t => kd_post g A [(mo, .inr (11, [.ref mt, .ref mb, .ref mp, .int (nI qn), .ref mr, .int (nI rm), .int rs, .ref mk, .int (nI zt), .int (nI T), .int go, .int (nI th), .int (nI nh), .ref mw, .ref mc, .ref mn, .ref mx, .int (nI sm), .ref ms, .int se, .ref mv, .int kh, .int kg, .int (nI kt), .int (nI ks), .ref mq, .ref mu, .long hsh])), (mt, .inl (g.2.1 0, 64, .inl tf)), (mb, .inl (g.2.1 0, 13, .inl bf)), (ms, .inl (g.2.1 0, 8, .inl uf))] t) A) (by decide) rfl rfl (Nat.le_of_ble_eq_true rfl) ?_
  intro p e s m below meth c A ls hx hb hr hml hts hown hlocks hnm hA hP hK hD hS hE hl
  have hl : lv_has ls 1 [(0, .ref mo)] := hl
  refine lv_aload_n hx hb dX11_which_0 rfl (lv_at hl 0 rfl) ?_
  refine kd_callIK (g := g) (wc := [(mo, .inr (11, [.ref mt, .ref mb, .ref mp, .int (nI qn), .ref mr, .int (nI rm), .int rs, .ref mk, .int (nI zt), .int (nI T), .int go, .int (nI th), .int (nI nh), .ref mw, .ref mc, .ref mn, .ref mx, .int (nI sm), .ref ms, .int se, .ref mv, .int kh, .int kg, .int (nI kt), .int (nI ks), .ref mq, .ref mu, .long hsh])), (mt, .inl (g.2.1 0, 64, .inl tf)), (mb, .inl (g.2.1 0, 13, .inl bf)), (ms, .inl (g.2.1 0, 8, .inl uf))]) (va_runV (mc := 0) (ms := 0) (rm := { frames := 2, cells := 0, slots := 0, locals := 46 }) (As := []) (rest := []) ⟨hx, hb, hml, hown, hts⟩ (c_X11_whichOf l g s.heap.size mo mt mb mp qn mr rm rs mk zt T go th nh mw mc mn mx sm ms se mv kh kg kt ks mq mu hsh tf bf uf uv hsm huf huv) (cwV 0 hts gX11_which_X11_whichOf rfl rfl rfl (by decide +kernel) ⟨Nat.le_of_ble_eq_true rfl, Nat.le_of_ble_eq_true rfl⟩) (kd_preV (wc := [(mo, .inr (11, [.ref mt, .ref mb, .ref mp, .int (nI qn), .ref mr, .int (nI rm), .int rs, .ref mk, .int (nI zt), .int (nI T), .int go, .int (nI th), .int (nI nh), .ref mw, .ref mc, .ref mn, .ref mx, .int (nI sm), .ref ms, .int se, .ref mv, .int kh, .int kg, .int (nI kt), .int (nI ks), .ref mq, .ref mu, .long hsh])), (mt, .inl (g.2.1 0, 64, .inl tf)), (mb, .inl (g.2.1 0, 13, .inl bf)), (ms, .inl (g.2.1 0, 8, .inl uf))]) (va_recv hK hP (ci := 11) (q0 := 0) rfl rfl) hP hD hS hA hK hE [0, 1, 2, 3] rfl (by decide)) rfl rfl hl.1 rfl (lv_room (Nat.le_of_ble_eq_true rfl)) dX11_which_1 ⟨Nat.le_of_ble_eq_true rfl, Nat.le_of_ble_eq_true rfl⟩) hP hD hS hA [0, 1, 2, 3] rfl (fun r_1 _ H locs hw hP hS => ?_)
  subst hw
  exact kd_iret hx hb hr hlocks hK hS dX11_which_4 (()) (rfl) hP hD
set_option maxHeartbeats 4000000 in
set_option maxRecDepth 100000 in
theorem c_X11_likelyOf (l : Launch) (g : kd_G) (sz : Nat) (mo : Nat) (mt : Nat) (mb : Nat) (mp : Nat) (qn : Nat) (mr : Nat) (rm : Nat) (rs : Int32) (mk : Nat) (zt : Nat) (T : Nat) (go : Int32) (th : Nat) (nh : Nat) (mw : Nat) (mc : Nat) (mn : Nat) (mx : Nat) (sm : Nat) (ms : Nat) (se : Int32) (mv : Nat) (kh : Int32) (kg : Int32) (kt : Nat) (ks : Nat) (mq : Nat) (mu : Nat) (hsh : Int64) (tf : Nat → Int32) (bf : Nat → Int32) (uf : Nat → Int32) (uv : Nat → Nat) (hsm : sm ≤ 8) (huf : ∀ i, i < sm → uf i = nI (uv i)) (huv : ∀ i, i < sm → uv i ≤ 12) : kd_MI l yX11_likelyOf wsX11_likelyOf ({ frames := 3, cells := 0, slots := 0, locals := 69 }) [.ref mo] g [(mo, .inr (11, [.ref mt, .ref mb, .ref mp, .int (nI qn), .ref mr, .int (nI rm), .int rs, .ref mk, .int (nI zt), .int (nI T), .int go, .int (nI th), .int (nI nh), .ref mw, .ref mc, .ref mn, .ref mx, .int (nI sm), .ref ms, .int se, .ref mv, .int kh, .int kg, .int (nI kt), .int (nI ks), .ref mq, .ref mu, .long hsh])), (mt, .inl (g.2.1 0, 64, .inl tf)), (mb, .inl (g.2.1 0, 13, .inl bf)), (ms, .inl (g.2.1 0, 8, .inl uf))] sz (fun r (_ : Unit) => r = kd_ml tf bf uv sm 5) (fun _ => [(mo, .inr (11, [.ref mt, .ref mb, .ref mp, .int (nI qn), .ref mr, .int (nI rm), .int rs, .ref mk, .int (nI zt), .int (nI T), .int go, .int (nI th), .int (nI nh), .ref mw, .ref mc, .ref mn, .ref mx, .int (nI sm), .ref ms, .int se, .ref mv, .int kh, .int kg, .int (nI kt), .int (nI ks), .ref mq, .ref mu, .long hsh])), (mt, .inl (g.2.1 0, 64, .inl tf)), (mb, .inl (g.2.1 0, 13, .inl bf)), (ms, .inl (g.2.1 0, 8, .inl uf))]) 0 0 := by
  refine kd_met (l := l) (y := yX11_likelyOf) (ws := wsX11_likelyOf) (rm := { frames := 3, cells := 0, slots := 0, locals := 69 }) (av := [.ref mo]) (g := g) (WS := [(mo, .inr (11, [.ref mt, .ref mb, .ref mp, .int (nI qn), .ref mr, .int (nI rm), .int rs, .ref mk, .int (nI zt), .int (nI T), .int go, .int (nI th), .int (nI nh), .ref mw, .ref mc, .ref mn, .ref mx, .int (nI sm), .ref ms, .int se, .ref mv, .int kh, .int kg, .int (nI kt), .int (nI ks), .ref mq, .ref mu, .long hsh])), (mt, .inl (g.2.1 0, 64, .inl tf)), (mb, .inl (g.2.1 0, 13, .inl bf)), (ms, .inl (g.2.1 0, 8, .inl uf))]) (sz := sz) (mc := 0) (ms := 0) (cc := cX11_likelyOf) (maxL := 4) (ret := (some .int)) (own := RX11) (fun A => va_Qi (fun r (_ : Unit) => r = kd_ml tf bf uv sm 5) (fun u t => kd_post g A [(mo, .inr (11, [.ref mt, .ref mb, .ref mp, .int (nI qn), .ref mr, .int (nI rm), .int rs, .ref mk, .int (nI zt), .int (nI T), .int go, .int (nI th), .int (nI nh), .ref mw, .ref mc, .ref mn, .ref mx, .int (nI sm), .ref ms, .int se, .ref mv, .int kh, .int kg, .int (nI kt), .int (nI ks), .ref mq, .ref mu, .long hsh])), (mt, .inl (g.2.1 0, 64, .inl tf)), (mb, .inl (g.2.1 0, 13, .inl bf)), (ms, .inl (g.2.1 0, 8, .inl uf))] t) A) (by decide) rfl rfl (Nat.le_of_ble_eq_true rfl) ?_
  intro p e s m below meth c A ls hx hb hr hml hts hown hlocks hnm hA hP hK hD hS hE hl
  have hl : lv_has ls 4 [(0, .ref mo)] := hl
  refine lv_iconst (v := (-1)) hx hb dX11_likelyOf_0 (by decide) ?_
  refine lv_istore_n (lv' := [(1, .int (-1)), (0, .ref mo)]) hx hb dX11_likelyOf_1 rfl hl (by decide) rfl (fun ls hl => ?_)
  refine lv_iconst (v := 0) hx hb dX11_likelyOf_2 (by decide) ?_
  refine lv_istore_n (lv' := [(2, .int 0), (1, .int (-1)), (0, .ref mo)]) hx hb dX11_likelyOf_3 rfl hl (by decide) rfl (fun ls hl => ?_)
  have loop_4 : ∀ (n_4 : Nat) (i : Nat) (a : Int32), (i ≤ 5) → (a = kd_ml tf bf uv sm i) → (a = -1 ∨ (a = nI a.toNatClampNeg ∧ a.toNatClampNeg < 5)) → (5 - i) < n_4 → ∀ (H : Heap) (locs : List Loc), va_P g.1 vwCl [(mo, .inr (11, [.ref mt, .ref mb, .ref mp, .int (nI qn), .ref mr, .int (nI rm), .int rs, .ref mk, .int (nI zt), .int (nI T), .int go, .int (nI th), .int (nI nh), .ref mw, .ref mc, .ref mn, .ref mx, .int (nI sm), .ref ms, .int se, .ref mv, .int kh, .int kg, .int (nI kt), .int (nI ks), .ref mq, .ref mu, .long hsh])), (mt, .inl (g.2.1 0, 64, .inl tf)), (mb, .inl (g.2.1 0, 13, .inl bf)), (ms, .inl (g.2.1 0, 8, .inl uf))] H → va_D A [(mo, .inr (11, [.ref mt, .ref mb, .ref mp, .int (nI qn), .ref mr, .int (nI rm), .int rs, .ref mk, .int (nI zt), .int (nI T), .int go, .int (nI th), .int (nI nh), .ref mw, .ref mc, .ref mn, .ref mx, .int (nI sm), .ref ms, .int se, .ref mv, .int kh, .int kg, .int (nI kt), .int (nI ks), .ref mq, .ref mu, .long hsh])), (mt, .inl (g.2.1 0, 64, .inl tf)), (mb, .inl (g.2.1 0, 13, .inl bf)), (ms, .inl (g.2.1 0, 8, .inl uf))] → va_S A s.heap H locs → ∀ (ls : Array Slot), lv_has ls 4 [(0, .ref mo), (1, .int a), (2, .int (nI i))] → W p l e ({ frames := 3, cells := 0, slots := 0, locals := 69 } : Room) s m ([.ref mo] : List Value).toArray below meth c H locs 0 0 (MQ below (va_Qi (fun r (_ : Unit) => r = kd_ml tf bf uv sm 5) (fun u t => kd_post g A [(mo, .inr (11, [.ref mt, .ref mb, .ref mp, .int (nI qn), .ref mr, .int (nI rm), .int rs, .ref mk, .int (nI zt), .int (nI T), .int go, .int (nI th), .int (nI nh), .ref mw, .ref mc, .ref mn, .ref mx, .int (nI sm), .ref ms, .int se, .ref mv, .int kh, .int kg, .int (nI kt), .int (nI ks), .ref mq, .ref mu, .long hsh])), (mt, .inl (g.2.1 0, 64, .inl tf)), (mb, .inl (g.2.1 0, 13, .inl bf)), (ms, .inl (g.2.1 0, 8, .inl uf))] t) A) ([.ref mo] : List Value).toArray s 0 0 A) (F0 m 4 ls []) := by
    intro n_4
    induction n_4 with
    | zero => intro i a _ _ _ hm_4; exact absurd hm_4 (Nat.not_lt_zero _)
    | succ n_4 ih_4 =>
      intro i a hi ha hb_ hm_4 H locs hP hD hS ls hl
      refine lv_iload_n hx hb dX11_likelyOf_4 rfl (lv_at hl 2 rfl) ?_
      refine lv_iconst (v := 5) hx hb dX11_likelyOf_5 (by decide) ?_
      refine lv_icmp_ge (tgt := 72) hx hb dX11_likelyOf_6 (by decide) (fun c_6 => ?_) (fun c_6 => ?_)
      · have n_6 : 5 ≤ i := kd_ce (a := 5) (b := i) (by omega) (by omega) c_6
        refine lv_iload_n hx hb dX11_likelyOf_72 rfl (lv_at hl 1 rfl) ?_
        exact kd_iret hx hb hr hlocks hK hS dX11_likelyOf_73 (()) (by rw [ha, show i = 5 by omega]) hP hD
      · have n_6 : i < 5 := kd_cne (a := 5) (b := i) (by omega) (by omega) c_6
        refine lv_aload_n hx hb dX11_likelyOf_9 rfl (lv_at hl 0 rfl) ?_
        refine lv_iload_n hx hb dX11_likelyOf_10 rfl (lv_at hl 2 rfl) ?_
        refine kd_callLK (g := g) (wc := [(mo, .inr (11, [.ref mt, .ref mb, .ref mp, .int (nI qn), .ref mr, .int (nI rm), .int rs, .ref mk, .int (nI zt), .int (nI T), .int go, .int (nI th), .int (nI nh), .ref mw, .ref mc, .ref mn, .ref mx, .int (nI sm), .ref ms, .int se, .ref mv, .int kh, .int kg, .int (nI kt), .int (nI ks), .ref mq, .ref mu, .long hsh])), (mt, .inl (g.2.1 0, 64, .inl tf)), (mb, .inl (g.2.1 0, 13, .inl bf)), (ms, .inl (g.2.1 0, 8, .inl uf))]) (va_runV (mc := 0) (ms := 0) (rm := { frames := 1, cells := 0, slots := 0, locals := 22 }) (As := [.int (nI i)]) (rest := []) ⟨hx, hb, hml, hown, hts⟩ (c_X11_productOf l g H.size mo mt mb mp qn mr rm rs mk zt T go th nh mw mc mn mx sm ms se mv kh kg kt ks mq mu hsh tf bf uf i uv hsm huf huv (by omega)) (cwV 1 hts gX11_likelyOf_X11_productOf rfl rfl rfl (by decide +kernel) ⟨Nat.le_of_ble_eq_true rfl, Nat.le_of_ble_eq_true rfl⟩) (kd_preV (wc := [(mo, .inr (11, [.ref mt, .ref mb, .ref mp, .int (nI qn), .ref mr, .int (nI rm), .int rs, .ref mk, .int (nI zt), .int (nI T), .int go, .int (nI th), .int (nI nh), .ref mw, .ref mc, .ref mn, .ref mx, .int (nI sm), .ref ms, .int se, .ref mv, .int kh, .int kg, .int (nI kt), .int (nI ks), .ref mq, .ref mu, .long hsh])), (mt, .inl (g.2.1 0, 64, .inl tf)), (mb, .inl (g.2.1 0, 13, .inl bf)), (ms, .inl (g.2.1 0, 8, .inl uf))]) (va_recv hK hP (ci := 11) (q0 := 0) rfl rfl) hP hD hS hA hK hE [0, 1, 2, 3] rfl (by decide)) rfl rfl hl.1 rfl (lv_room (Nat.le_of_ble_eq_true rfl)) dX11_likelyOf_11 ⟨Nat.le_of_ble_eq_true rfl, Nat.le_of_ble_eq_true rfl⟩) hP hD hS hA [0, 1, 2, 3] rfl (fun r_11 _ H locs hw hP hS => ?_)
        subst hw
        refine lv_lconst (v := 0) hx hb dX11_likelyOf_14 (by decide) ?_
        refine W.lcmp hx hb dX11_likelyOf_15 ?_
        refine lv_if_le (tgt := 23) hx hb dX11_likelyOf_16 (by decide) (fun c_16 => ?_) (fun c_16 => ?_)
        · refine lv_iconst (v := 0) hx hb dX11_likelyOf_23 (by decide) ?_
          refine lv_istore_n (lv' := [(3, .int 0), (0, .ref mo), (1, .int a), (2, .int (nI i))]) hx hb dX11_likelyOf_24 rfl hl (by decide) rfl (fun ls hl => ?_)
          refine lv_iload_n hx hb dX11_likelyOf_25 rfl (lv_at hl 0 rfl) ?_
          refine lv_if_eq (tgt := 64) hx hb dX11_likelyOf_26 (by decide) (fun _ => ?_) (fun z => absurd (by decide) z)
          refine lv_iload_n hx hb dX11_likelyOf_64 rfl (lv_at hl 2 rfl) ?_
          refine lv_istore_n (lv' := [(1, .int a), (3, .int 0), (0, .ref mo), (2, .int (nI i))]) hx hb dX11_likelyOf_65 rfl hl (by decide) rfl (fun ls hl => ?_)
          refine lv_iinc (v := nI (i + 1)) (lv' := [(2, .int (nI (i + 1))), (1, .int a), (3, .int 0), (0, .ref mo)]) hx hb dX11_likelyOf_66 hl (k := 3) rfl (nI_1 _) (by decide) rfl (fun ls hl => ?_)
          refine lv_goto (tgt := 4) hx hb dX11_likelyOf_69 (by decide) ?_
          exact ih_4 (i + 1) a (by omega) (by rw [kd_ml, ← ha, if_pos c_16]) hb_ (by omega) _ _ hP hD hS ls (lv_sub hl [3, 1, 0] rfl)
        · refine lv_iconst (v := 1) hx hb dX11_likelyOf_19 (by decide) ?_
          refine lv_goto (tgt := 24) hx hb dX11_likelyOf_20 (by decide) ?_
          refine lv_istore_n (lv' := [(3, .int 1), (0, .ref mo), (1, .int a), (2, .int (nI i))]) hx hb dX11_likelyOf_24 rfl hl (by decide) rfl (fun ls hl => ?_)
          refine lv_iload_n hx hb dX11_likelyOf_25 rfl (lv_at hl 0 rfl) ?_
          refine lv_if_eq (tgt := 64) hx hb dX11_likelyOf_26 (by decide) (fun z => absurd z (by decide)) (fun _ => ?_)
          refine lv_iload_n hx hb dX11_likelyOf_29 rfl (lv_at hl 2 rfl) ?_
          refine lv_iconst (v := (-1)) hx hb dX11_likelyOf_30 (by decide) ?_
          refine lv_icmp_eq (tgt := 60) hx hb dX11_likelyOf_31 (by decide) (fun c_31 => ?_) (fun c_31 => ?_)
          · refine lv_iload_n hx hb dX11_likelyOf_60 rfl (lv_at hl 3 rfl) ?_
            refine lv_goto (tgt := 65) hx hb dX11_likelyOf_61 (by decide) ?_
            refine lv_istore_n (lv' := [(1, .int (nI i)), (3, .int 1), (0, .ref mo), (2, .int (nI i))]) hx hb dX11_likelyOf_65 rfl hl (by decide) rfl (fun ls hl => ?_)
            refine lv_iinc (v := nI (i + 1)) (lv' := [(2, .int (nI (i + 1))), (1, .int (nI i)), (3, .int 1), (0, .ref mo)]) hx hb dX11_likelyOf_66 hl (k := 3) rfl (nI_1 _) (by decide) rfl (fun ls hl => ?_)
            refine lv_goto (tgt := 4) hx hb dX11_likelyOf_69 (by decide) ?_
            exact ih_4 (i + 1) (nI i) (by omega) (by rw [kd_ml, ← ha, if_neg c_16, if_pos c_31]) (kd_hb5 (by omega)) (by omega) _ _ hP hD hS ls (lv_sub hl [3, 1, 0] rfl)
          · have hb2 := hb_.resolve_left c_31
            refine lv_aload_n hx hb dX11_likelyOf_34 rfl (lv_at hl 1 rfl) ?_
            refine lv_iload_n hx hb dX11_likelyOf_35 rfl (lv_at hl 3 rfl) ?_
            refine kd_callLK (g := g) (wc := [(mo, .inr (11, [.ref mt, .ref mb, .ref mp, .int (nI qn), .ref mr, .int (nI rm), .int rs, .ref mk, .int (nI zt), .int (nI T), .int go, .int (nI th), .int (nI nh), .ref mw, .ref mc, .ref mn, .ref mx, .int (nI sm), .ref ms, .int se, .ref mv, .int kh, .int kg, .int (nI kt), .int (nI ks), .ref mq, .ref mu, .long hsh])), (mt, .inl (g.2.1 0, 64, .inl tf)), (mb, .inl (g.2.1 0, 13, .inl bf)), (ms, .inl (g.2.1 0, 8, .inl uf))]) (va_runV (mc := 0) (ms := 0) (rm := { frames := 1, cells := 0, slots := 0, locals := 22 }) (As := [.int (nI i)]) (rest := []) ⟨hx, hb, hml, hown, hts⟩ (c_X11_productOf l g H.size mo mt mb mp qn mr rm rs mk zt T go th nh mw mc mn mx sm ms se mv kh kg kt ks mq mu hsh tf bf uf i uv hsm huf huv (by omega)) (cwV 1 hts gX11_likelyOf_X11_productOf rfl rfl rfl (by decide +kernel) ⟨Nat.le_of_ble_eq_true rfl, Nat.le_of_ble_eq_true rfl⟩) (kd_preV (wc := [(mo, .inr (11, [.ref mt, .ref mb, .ref mp, .int (nI qn), .ref mr, .int (nI rm), .int rs, .ref mk, .int (nI zt), .int (nI T), .int go, .int (nI th), .int (nI nh), .ref mw, .ref mc, .ref mn, .ref mx, .int (nI sm), .ref ms, .int se, .ref mv, .int kh, .int kg, .int (nI kt), .int (nI ks), .ref mq, .ref mu, .long hsh])), (mt, .inl (g.2.1 0, 64, .inl tf)), (mb, .inl (g.2.1 0, 13, .inl bf)), (ms, .inl (g.2.1 0, 8, .inl uf))]) (va_recv hK hP (ci := 11) (q0 := 0) rfl rfl) hP hD hS hA hK hE [0, 1, 2, 3] rfl (by decide)) rfl rfl hl.1 rfl (lv_room (Nat.le_of_ble_eq_true rfl)) dX11_likelyOf_36 ⟨Nat.le_of_ble_eq_true rfl, Nat.le_of_ble_eq_true rfl⟩) hP hD hS hA [0, 1, 2, 3] rfl (fun r_36 _ H locs hw hP hS => ?_)
            subst hw
            refine lv_aload_n hx hb dX11_likelyOf_39 rfl (lv_at hl 1 rfl) ?_
            refine lv_iload_n hx hb dX11_likelyOf_40 rfl (lv_at hl 2 rfl) ?_
            refine kd_top (y := nI a.toNatClampNeg) (hb2.1) ?_
            refine kd_callLK (g := g) (wc := [(mo, .inr (11, [.ref mt, .ref mb, .ref mp, .int (nI qn), .ref mr, .int (nI rm), .int rs, .ref mk, .int (nI zt), .int (nI T), .int go, .int (nI th), .int (nI nh), .ref mw, .ref mc, .ref mn, .ref mx, .int (nI sm), .ref ms, .int se, .ref mv, .int kh, .int kg, .int (nI kt), .int (nI ks), .ref mq, .ref mu, .long hsh])), (mt, .inl (g.2.1 0, 64, .inl tf)), (mb, .inl (g.2.1 0, 13, .inl bf))]) (va_runV (mc := 0) (ms := 0) (rm := { frames := 2, cells := 0, slots := 0, locals := 45 }) (As := [.int (nI a.toNatClampNeg)]) (rest := [.long (kd_mp tf bf uv i sm)]) ⟨hx, hb, hml, hown, hts⟩ (c_X11_allOf l g H.size mo mt mb mp qn mr rm rs mk zt T go th nh mw mc mn mx sm ms se mv kh kg kt ks mq mu hsh tf bf a.toNatClampNeg hsm (hb2.2)) (cwV 1 hts gX11_likelyOf_X11_allOf rfl rfl rfl (by decide +kernel) ⟨Nat.le_of_ble_eq_true rfl, Nat.le_of_ble_eq_true rfl⟩) (kd_preV (wc := [(mo, .inr (11, [.ref mt, .ref mb, .ref mp, .int (nI qn), .ref mr, .int (nI rm), .int rs, .ref mk, .int (nI zt), .int (nI T), .int go, .int (nI th), .int (nI nh), .ref mw, .ref mc, .ref mn, .ref mx, .int (nI sm), .ref ms, .int se, .ref mv, .int kh, .int kg, .int (nI kt), .int (nI ks), .ref mq, .ref mu, .long hsh])), (mt, .inl (g.2.1 0, 64, .inl tf)), (mb, .inl (g.2.1 0, 13, .inl bf))]) (va_recv hK hP (ci := 11) (q0 := 0) rfl rfl) hP hD hS hA hK hE [0, 1, 2] rfl (by decide)) rfl rfl hl.1 rfl (lv_room (Nat.le_of_ble_eq_true rfl)) dX11_likelyOf_41 ⟨Nat.le_of_ble_eq_true rfl, Nat.le_of_ble_eq_true rfl⟩) hP hD hS hA [0, 1, 2] rfl (fun r_41 _ H locs hw hP hS => ?_)
            subst hw
            refine lv_lmul hx hb dX11_likelyOf_44 ?_
            refine lv_aload_n hx hb dX11_likelyOf_45 rfl (lv_at hl 1 rfl) ?_
            refine lv_iload_n hx hb dX11_likelyOf_46 rfl (lv_at hl 2 rfl) ?_
            refine kd_top (y := nI a.toNatClampNeg) (hb2.1) ?_
            refine kd_callLK (g := g) (wc := [(mo, .inr (11, [.ref mt, .ref mb, .ref mp, .int (nI qn), .ref mr, .int (nI rm), .int rs, .ref mk, .int (nI zt), .int (nI T), .int go, .int (nI th), .int (nI nh), .ref mw, .ref mc, .ref mn, .ref mx, .int (nI sm), .ref ms, .int se, .ref mv, .int kh, .int kg, .int (nI kt), .int (nI ks), .ref mq, .ref mu, .long hsh])), (mt, .inl (g.2.1 0, 64, .inl tf)), (mb, .inl (g.2.1 0, 13, .inl bf)), (ms, .inl (g.2.1 0, 8, .inl uf))]) (va_runV (mc := 0) (ms := 0) (rm := { frames := 1, cells := 0, slots := 0, locals := 22 }) (As := [.int (nI a.toNatClampNeg)]) (rest := [.long ((kd_mp tf bf uv i sm) * (kd_ma tf bf a.toNatClampNeg sm))]) ⟨hx, hb, hml, hown, hts⟩ (c_X11_productOf l g H.size mo mt mb mp qn mr rm rs mk zt T go th nh mw mc mn mx sm ms se mv kh kg kt ks mq mu hsh tf bf uf a.toNatClampNeg uv hsm huf huv (hb2.2)) (cwV 1 hts gX11_likelyOf_X11_productOf rfl rfl rfl (by decide +kernel) ⟨Nat.le_of_ble_eq_true rfl, Nat.le_of_ble_eq_true rfl⟩) (kd_preV (wc := [(mo, .inr (11, [.ref mt, .ref mb, .ref mp, .int (nI qn), .ref mr, .int (nI rm), .int rs, .ref mk, .int (nI zt), .int (nI T), .int go, .int (nI th), .int (nI nh), .ref mw, .ref mc, .ref mn, .ref mx, .int (nI sm), .ref ms, .int se, .ref mv, .int kh, .int kg, .int (nI kt), .int (nI ks), .ref mq, .ref mu, .long hsh])), (mt, .inl (g.2.1 0, 64, .inl tf)), (mb, .inl (g.2.1 0, 13, .inl bf)), (ms, .inl (g.2.1 0, 8, .inl uf))]) (va_recv hK hP (ci := 11) (q0 := 0) rfl rfl) hP hD hS hA hK hE [0, 1, 2, 3] rfl (by decide)) rfl rfl hl.1 rfl (lv_room (Nat.le_of_ble_eq_true rfl)) dX11_likelyOf_47 ⟨Nat.le_of_ble_eq_true rfl, Nat.le_of_ble_eq_true rfl⟩) hP hD hS hA [0, 1, 2, 3] rfl (fun r_47 _ H locs hw hP hS => ?_)
            subst hw
            refine lv_aload_n hx hb dX11_likelyOf_50 rfl (lv_at hl 1 rfl) ?_
            refine lv_iload_n hx hb dX11_likelyOf_51 rfl (lv_at hl 3 rfl) ?_
            refine kd_callLK (g := g) (wc := [(mo, .inr (11, [.ref mt, .ref mb, .ref mp, .int (nI qn), .ref mr, .int (nI rm), .int rs, .ref mk, .int (nI zt), .int (nI T), .int go, .int (nI th), .int (nI nh), .ref mw, .ref mc, .ref mn, .ref mx, .int (nI sm), .ref ms, .int se, .ref mv, .int kh, .int kg, .int (nI kt), .int (nI ks), .ref mq, .ref mu, .long hsh])), (mt, .inl (g.2.1 0, 64, .inl tf)), (mb, .inl (g.2.1 0, 13, .inl bf))]) (va_runV (mc := 0) (ms := 0) (rm := { frames := 2, cells := 0, slots := 0, locals := 45 }) (As := [.int (nI i)]) (rest := [.long (kd_mp tf bf uv a.toNatClampNeg sm), .long ((kd_mp tf bf uv i sm) * (kd_ma tf bf a.toNatClampNeg sm))]) ⟨hx, hb, hml, hown, hts⟩ (c_X11_allOf l g H.size mo mt mb mp qn mr rm rs mk zt T go th nh mw mc mn mx sm ms se mv kh kg kt ks mq mu hsh tf bf i hsm (by omega)) (cwV 1 hts gX11_likelyOf_X11_allOf rfl rfl rfl (by decide +kernel) ⟨Nat.le_of_ble_eq_true rfl, Nat.le_of_ble_eq_true rfl⟩) (kd_preV (wc := [(mo, .inr (11, [.ref mt, .ref mb, .ref mp, .int (nI qn), .ref mr, .int (nI rm), .int rs, .ref mk, .int (nI zt), .int (nI T), .int go, .int (nI th), .int (nI nh), .ref mw, .ref mc, .ref mn, .ref mx, .int (nI sm), .ref ms, .int se, .ref mv, .int kh, .int kg, .int (nI kt), .int (nI ks), .ref mq, .ref mu, .long hsh])), (mt, .inl (g.2.1 0, 64, .inl tf)), (mb, .inl (g.2.1 0, 13, .inl bf))]) (va_recv hK hP (ci := 11) (q0 := 0) rfl rfl) hP hD hS hA hK hE [0, 1, 2] rfl (by decide)) rfl rfl hl.1 rfl (lv_room (Nat.le_of_ble_eq_true rfl)) dX11_likelyOf_52 ⟨Nat.le_of_ble_eq_true rfl, Nat.le_of_ble_eq_true rfl⟩) hP hD hS hA [0, 1, 2] rfl (fun r_52 _ H locs hw hP hS => ?_)
            subst hw
            refine lv_lmul hx hb dX11_likelyOf_55 ?_
            refine W.lcmp hx hb dX11_likelyOf_56 ?_
            refine lv_if_le (tgt := 64) hx hb dX11_likelyOf_57 (by decide) (fun c_57 => ?_) (fun c_57 => ?_)
            · refine lv_iload_n hx hb dX11_likelyOf_64 rfl (lv_at hl 2 rfl) ?_
              refine lv_istore_n (lv' := [(1, .int a), (3, .int 1), (0, .ref mo), (2, .int (nI i))]) hx hb dX11_likelyOf_65 rfl hl (by decide) rfl (fun ls hl => ?_)
              refine lv_iinc (v := nI (i + 1)) (lv' := [(2, .int (nI (i + 1))), (1, .int a), (3, .int 1), (0, .ref mo)]) hx hb dX11_likelyOf_66 hl (k := 3) rfl (nI_1 _) (by decide) rfl (fun ls hl => ?_)
              refine lv_goto (tgt := 4) hx hb dX11_likelyOf_69 (by decide) ?_
              exact ih_4 (i + 1) a (by omega) (by rw [kd_ml, ← ha, if_neg c_16, if_neg c_31, if_pos c_57]) hb_ (by omega) _ _ hP hD hS ls (lv_sub hl [3, 1, 0] rfl)
            · refine lv_iload_n hx hb dX11_likelyOf_60 rfl (lv_at hl 3 rfl) ?_
              refine lv_goto (tgt := 65) hx hb dX11_likelyOf_61 (by decide) ?_
              refine lv_istore_n (lv' := [(1, .int (nI i)), (3, .int 1), (0, .ref mo), (2, .int (nI i))]) hx hb dX11_likelyOf_65 rfl hl (by decide) rfl (fun ls hl => ?_)
              refine lv_iinc (v := nI (i + 1)) (lv' := [(2, .int (nI (i + 1))), (1, .int (nI i)), (3, .int 1), (0, .ref mo)]) hx hb dX11_likelyOf_66 hl (k := 3) rfl (nI_1 _) (by decide) rfl (fun ls hl => ?_)
              refine lv_goto (tgt := 4) hx hb dX11_likelyOf_69 (by decide) ?_
              exact ih_4 (i + 1) (nI i) (by omega) (by rw [kd_ml, ← ha, if_neg c_16, if_neg c_31, if_neg c_57]) (kd_hb5 (by omega)) (by omega) _ _ hP hD hS ls (lv_sub hl [3, 1, 0] rfl)
  exact loop_4 ((5 - 0) + 1) 0 (-1) (by omega) rfl (Or.inl rfl) (Nat.lt_succ_self _) _ _ hP hD hS ls (lv_sub hl [2, 1, 0] rfl)
/-- what KingdomAtDiceModel.likely answers and leaves, by its instructions -/
def sp_X11_likely (sm : Nat) (tf : Nat → Int32) (bf : Nat → Int32) (uv : Nat → Nat) : Int32 :=
  kd_ml tf bf uv sm 5
set_option maxHeartbeats 4000000 in
set_option maxRecDepth 100000 in
theorem c_X11_likely (l : Launch) (g : kd_G) (sz : Nat) (mo : Nat) (mt : Nat) (mb : Nat) (mp : Nat) (qn : Nat) (mr : Nat) (rm : Nat) (rs : Int32) (mk : Nat) (zt : Nat) (T : Nat) (go : Int32) (th : Nat) (nh : Nat) (mw : Nat) (mc : Nat) (mn : Nat) (mx : Nat) (sm : Nat) (ms : Nat) (se : Int32) (mv : Nat) (kh : Int32) (kg : Int32) (kt : Nat) (ks : Nat) (mq : Nat) (mu : Nat) (hsh : Int64) (tf : Nat → Int32) (bf : Nat → Int32) (uf : Nat → Int32) (uv : Nat → Nat) (hsm : sm ≤ 8) (huf : ∀ i, i < sm → uf i = nI (uv i)) (huv : ∀ i, i < sm → uv i ≤ 12) : kd_MI l yX11_likely wsX11_likely ({ frames := 4, cells := 0, slots := 0, locals := 92 }) [.ref mo] g [(mo, .inr (11, [.ref mt, .ref mb, .ref mp, .int (nI qn), .ref mr, .int (nI rm), .int rs, .ref mk, .int (nI zt), .int (nI T), .int go, .int (nI th), .int (nI nh), .ref mw, .ref mc, .ref mn, .ref mx, .int (nI sm), .ref ms, .int se, .ref mv, .int kh, .int kg, .int (nI kt), .int (nI ks), .ref mq, .ref mu, .long hsh])), (mt, .inl (g.2.1 0, 64, .inl tf)), (mb, .inl (g.2.1 0, 13, .inl bf)), (ms, .inl (g.2.1 0, 8, .inl uf))] sz (fun r (_ : Unit) => r = sp_X11_likely sm tf bf uv) (fun _ => [(mo, .inr (11, [.ref mt, .ref mb, .ref mp, .int (nI qn), .ref mr, .int (nI rm), .int rs, .ref mk, .int (nI zt), .int (nI T), .int go, .int (nI th), .int (nI nh), .ref mw, .ref mc, .ref mn, .ref mx, .int (nI sm), .ref ms, .int se, .ref mv, .int kh, .int kg, .int (nI kt), .int (nI ks), .ref mq, .ref mu, .long hsh])), (mt, .inl (g.2.1 0, 64, .inl tf)), (mb, .inl (g.2.1 0, 13, .inl bf)), (ms, .inl (g.2.1 0, 8, .inl uf))]) 0 0 := by
  refine kd_met (l := l) (y := yX11_likely) (ws := wsX11_likely) (rm := { frames := 4, cells := 0, slots := 0, locals := 92 }) (av := [.ref mo]) (g := g) (WS := [(mo, .inr (11, [.ref mt, .ref mb, .ref mp, .int (nI qn), .ref mr, .int (nI rm), .int rs, .ref mk, .int (nI zt), .int (nI T), .int go, .int (nI th), .int (nI nh), .ref mw, .ref mc, .ref mn, .ref mx, .int (nI sm), .ref ms, .int se, .ref mv, .int kh, .int kg, .int (nI kt), .int (nI ks), .ref mq, .ref mu, .long hsh])), (mt, .inl (g.2.1 0, 64, .inl tf)), (mb, .inl (g.2.1 0, 13, .inl bf)), (ms, .inl (g.2.1 0, 8, .inl uf))]) (sz := sz) (mc := 0) (ms := 0) (cc := cX11_likely) (maxL := 1) (ret := (some .int)) (own := RX11) (fun A => va_Qi (fun r (_ : Unit) => r = sp_X11_likely sm tf bf uv) (fun u t => kd_post g A [(mo, .inr (11, [.ref mt, .ref mb, .ref mp, .int (nI qn), .ref mr, .int (nI rm), .int rs, .ref mk, .int (nI zt), .int (nI T), .int go, .int (nI th), .int (nI nh), .ref mw, .ref mc, .ref mn, .ref mx, .int (nI sm), .ref ms, .int se, .ref mv, .int kh, .int kg, .int (nI kt), .int (nI ks), .ref mq, .ref mu, .long hsh])), (mt, .inl (g.2.1 0, 64, .inl tf)), (mb, .inl (g.2.1 0, 13, .inl bf)), (ms, .inl (g.2.1 0, 8, .inl uf))] t) A) (by decide) rfl rfl (Nat.le_of_ble_eq_true rfl) ?_
  intro p e s m below meth c A ls hx hb hr hml hts hown hlocks hnm hA hP hK hD hS hE hl
  have hl : lv_has ls 1 [(0, .ref mo)] := hl
  refine lv_aload_n hx hb dX11_likely_0 rfl (lv_at hl 0 rfl) ?_
  refine kd_callIK (g := g) (wc := [(mo, .inr (11, [.ref mt, .ref mb, .ref mp, .int (nI qn), .ref mr, .int (nI rm), .int rs, .ref mk, .int (nI zt), .int (nI T), .int go, .int (nI th), .int (nI nh), .ref mw, .ref mc, .ref mn, .ref mx, .int (nI sm), .ref ms, .int se, .ref mv, .int kh, .int kg, .int (nI kt), .int (nI ks), .ref mq, .ref mu, .long hsh])), (mt, .inl (g.2.1 0, 64, .inl tf)), (mb, .inl (g.2.1 0, 13, .inl bf)), (ms, .inl (g.2.1 0, 8, .inl uf))]) (va_runV (mc := 0) (ms := 0) (rm := { frames := 3, cells := 0, slots := 0, locals := 69 }) (As := []) (rest := []) ⟨hx, hb, hml, hown, hts⟩ (c_X11_likelyOf l g s.heap.size mo mt mb mp qn mr rm rs mk zt T go th nh mw mc mn mx sm ms se mv kh kg kt ks mq mu hsh tf bf uf uv hsm huf huv) (cwV 0 hts gX11_likely_X11_likelyOf rfl rfl rfl (by decide +kernel) ⟨Nat.le_of_ble_eq_true rfl, Nat.le_of_ble_eq_true rfl⟩) (kd_preV (wc := [(mo, .inr (11, [.ref mt, .ref mb, .ref mp, .int (nI qn), .ref mr, .int (nI rm), .int rs, .ref mk, .int (nI zt), .int (nI T), .int go, .int (nI th), .int (nI nh), .ref mw, .ref mc, .ref mn, .ref mx, .int (nI sm), .ref ms, .int se, .ref mv, .int kh, .int kg, .int (nI kt), .int (nI ks), .ref mq, .ref mu, .long hsh])), (mt, .inl (g.2.1 0, 64, .inl tf)), (mb, .inl (g.2.1 0, 13, .inl bf)), (ms, .inl (g.2.1 0, 8, .inl uf))]) (va_recv hK hP (ci := 11) (q0 := 0) rfl rfl) hP hD hS hA hK hE [0, 1, 2, 3] rfl (by decide)) rfl rfl hl.1 rfl (lv_room (Nat.le_of_ble_eq_true rfl)) dX11_likely_1 ⟨Nat.le_of_ble_eq_true rfl, Nat.le_of_ble_eq_true rfl⟩) hP hD hS hA [0, 1, 2, 3] rfl (fun r_1 _ H locs hw hP hS => ?_)
  subst hw
  exact kd_iret hx hb hr hlocks hK hS dX11_likely_4 (()) (rfl) hP hD
/-- what KingdomAtDiceModel.draw answers and leaves, by its instructions -/
def sp_X11_draw (se : Int32) (p0 : Int32) : Int32 × Int32 :=
  ((((((1103515245 * se.toInt64) + 12345) &&& 2147483647).toInt32) / 65536) - (((((1103515245 * se.toInt64) + 12345) &&& 2147483647).toInt32) / 65536) / p0 * p0, (((1103515245 * se.toInt64) + 12345) &&& 2147483647).toInt32)
set_option maxHeartbeats 4000000 in
set_option maxRecDepth 100000 in
theorem c_X11_draw (l : Launch) (g : kd_G) (sz : Nat) (mo : Nat) (mt : Nat) (mb : Nat) (mp : Nat) (qn : Nat) (mr : Nat) (rm : Nat) (rs : Int32) (mk : Nat) (zt : Nat) (T : Nat) (go : Int32) (th : Nat) (nh : Nat) (mw : Nat) (mc : Nat) (mn : Nat) (mx : Nat) (sm : Nat) (ms : Nat) (se : Int32) (mv : Nat) (kh : Int32) (kg : Int32) (kt : Nat) (ks : Nat) (mq : Nat) (mu : Nat) (hsh : Int64) (p0 : Int32) (h0 : ¬ p0 = 0) : kd_MI l yX11_draw wsX11_draw ({ frames := 0, cells := 0, slots := 0, locals := 0 }) [.ref mo, .int p0] g [(mo, .inr (11, [.ref mt, .ref mb, .ref mp, .int (nI qn), .ref mr, .int (nI rm), .int rs, .ref mk, .int (nI zt), .int (nI T), .int go, .int (nI th), .int (nI nh), .ref mw, .ref mc, .ref mn, .ref mx, .int (nI sm), .ref ms, .int se, .ref mv, .int kh, .int kg, .int (nI kt), .int (nI ks), .ref mq, .ref mu, .long hsh]))] sz (fun r (u : Int32) => (r, u) = sp_X11_draw se p0) (fun u => [(mo, .inr (11, [.ref mt, .ref mb, .ref mp, .int (nI qn), .ref mr, .int (nI rm), .int rs, .ref mk, .int (nI zt), .int (nI T), .int go, .int (nI th), .int (nI nh), .ref mw, .ref mc, .ref mn, .ref mx, .int (nI sm), .ref ms, .int u, .ref mv, .int kh, .int kg, .int (nI kt), .int (nI ks), .ref mq, .ref mu, .long hsh]))]) 0 0 := by
  refine kd_met (l := l) (y := yX11_draw) (ws := wsX11_draw) (rm := { frames := 0, cells := 0, slots := 0, locals := 0 }) (av := [.ref mo, .int p0]) (g := g) (WS := [(mo, .inr (11, [.ref mt, .ref mb, .ref mp, .int (nI qn), .ref mr, .int (nI rm), .int rs, .ref mk, .int (nI zt), .int (nI T), .int go, .int (nI th), .int (nI nh), .ref mw, .ref mc, .ref mn, .ref mx, .int (nI sm), .ref ms, .int se, .ref mv, .int kh, .int kg, .int (nI kt), .int (nI ks), .ref mq, .ref mu, .long hsh]))]) (sz := sz) (mc := 0) (ms := 0) (cc := cX11_draw) (maxL := 2) (ret := (some .int)) (own := RX11) (fun A => va_Qi (fun r (u : Int32) => (r, u) = sp_X11_draw se p0) (fun u t => kd_post g A [(mo, .inr (11, [.ref mt, .ref mb, .ref mp, .int (nI qn), .ref mr, .int (nI rm), .int rs, .ref mk, .int (nI zt), .int (nI T), .int go, .int (nI th), .int (nI nh), .ref mw, .ref mc, .ref mn, .ref mx, .int (nI sm), .ref ms, .int u, .ref mv, .int kh, .int kg, .int (nI kt), .int (nI ks), .ref mq, .ref mu, .long hsh]))] t) A) (by decide) rfl rfl (Nat.le_of_ble_eq_true rfl) ?_
  intro p e s m below meth c A ls hx hb hr hml hts hown hlocks hnm hA hP hK hD hS hE hl
  have hl : lv_has ls 2 [(0, .ref mo), (1, .int p0)] := hl
  have hiX11 : ∀ w ∈ u_ws RX11 TX11 28, w ∈ wsX11_draw := by decide +kernel
  refine lv_aload_n hx hb dX11_draw_0 rfl (lv_at hl 0 rfl) ?_
  refine lv_ldc2 (v := 1103515245) hx hb hown (hts (.constantLong RX11 205 1103515245) (by decide +kernel)) dX11_draw_1 ?_
  refine lv_aload_n hx hb dX11_draw_4 rfl (lv_at hl 0 rfl) ?_
  refine va_get (ci := 11) (v := .int se) (C := RX11) (T := TX11) (N := 28) hx hb hts hiX11 hown hK hP (0) rfl rfl 19 (by decide) (hts (.fieldLink RX11 207 "KingdomAtDiceModel" "seedNow" "I") (by decide +kernel)) (fun _ h9 => h9) rfl dX11_draw_5 ?_
  refine lv_i2l hx hb dX11_draw_8 rfl ?_
  refine lv_lmul hx hb dX11_draw_9 ?_
  refine lv_ldc2 (v := 12345) hx hb hown (hts (.constantLong RX11 210 12345) (by decide +kernel)) dX11_draw_10 ?_
  refine lv_ladd hx hb dX11_draw_13 ?_
  refine lv_ldc2 (v := 2147483647) hx hb hown (hts (.constantLong RX11 212 2147483647) (by decide +kernel)) dX11_draw_14 ?_
  refine lv_land hx hb dX11_draw_17 ?_
  refine lv_l2i hx hb dX11_draw_18 rfl ?_
  refine va_put (ci := 11) (v := .int ((((1103515245 * se.toInt64) + 12345) &&& 2147483647).toInt32)) (ty := .int) (C := RX11) (T := TX11) (N := 28) hx hb hts hiX11 tyX11 tyX11_ok nmX11 hown hK hP hD hS (0) rfl rfl 19 (by decide) (hts (.fieldLink RX11 207 "KingdomAtDiceModel" "seedNow" "I") (by decide +kernel)) (fun _ h9 => h9) rfl (by decide +kernel) rfl rfl (Nat.le_of_ble_eq_true rfl) dX11_draw_19 (fun H locs hP hD hS => ?_)
  have hP : va_P g.1 vwCl [(mo, .inr (11, [.ref mt, .ref mb, .ref mp, .int (nI qn), .ref mr, .int (nI rm), .int rs, .ref mk, .int (nI zt), .int (nI T), .int go, .int (nI th), .int (nI nh), .ref mw, .ref mc, .ref mn, .ref mx, .int (nI sm), .ref ms, .int ((((1103515245 * se.toInt64) + 12345) &&& 2147483647).toInt32), .ref mv, .int kh, .int kg, .int (nI kt), .int (nI ks), .ref mq, .ref mu, .long hsh]))] H := hP
  have hD : va_D A [(mo, .inr (11, [.ref mt, .ref mb, .ref mp, .int (nI qn), .ref mr, .int (nI rm), .int rs, .ref mk, .int (nI zt), .int (nI T), .int go, .int (nI th), .int (nI nh), .ref mw, .ref mc, .ref mn, .ref mx, .int (nI sm), .ref ms, .int ((((1103515245 * se.toInt64) + 12345) &&& 2147483647).toInt32), .ref mv, .int kh, .int kg, .int (nI kt), .int (nI ks), .ref mq, .ref mu, .long hsh]))] := hD
  refine lv_aload_n hx hb dX11_draw_22 rfl (lv_at hl 0 rfl) ?_
  refine va_get (ci := 11) (v := .int ((((1103515245 * se.toInt64) + 12345) &&& 2147483647).toInt32)) (C := RX11) (T := TX11) (N := 28) hx hb hts hiX11 hown hK hP (0) rfl rfl 19 (by decide) (hts (.fieldLink RX11 207 "KingdomAtDiceModel" "seedNow" "I") (by decide +kernel)) (fun _ h9 => h9) rfl dX11_draw_23 ?_
  refine lv_ldc (v := 65536) hx hb hown (hts (.constant RX11 214 65536) (by decide +kernel)) dX11_draw_26 ?_
  refine lv_idiv hx hb dX11_draw_28 (by decide) ?_
  refine lv_iload_n hx hb dX11_draw_29 rfl (lv_at hl 1 rfl) ?_
  refine lv_irem hx hb dX11_draw_30 (h0) ?_
  exact kd_iret hx hb hr hlocks hK hS dX11_draw_31 ((((1103515245 * se.toInt64) + 12345) &&& 2147483647).toInt32) (rfl) hP hD
theorem kd_many {k : Nat} (h : k < 5) : ¬ (sp_X11_mostOf (nI k) - sp_X11_leastOf (nI k)) + 1 = 0 := by
  rcases (show k = 0 ∨ k = 1 ∨ k = 2 ∨ k = 3 ∨ k = 4 by omega) with rfl | rfl | rfl | rfl | rfl <;> decide
/-- what KingdomAtDiceModel.falls answers and leaves, by its instructions -/
def sp_X11_falls (se : Int32) (k : Nat) : Int32 × Int32 :=
  if (nI k) = 2 then
    (2 * ((sp_X11_leastOf (nI k)) + ((sp_X11_draw se (((sp_X11_mostOf (nI k)) - (sp_X11_leastOf (nI k))) + 1)).1)), ((sp_X11_draw se (((sp_X11_mostOf (nI k)) - (sp_X11_leastOf (nI k))) + 1)).2))
  else
    ((((sp_X11_leastOf (nI k)) + ((sp_X11_draw se (((sp_X11_mostOf (nI k)) - (sp_X11_leastOf (nI k))) + 1)).1)) + (sp_X11_leastOf (nI k))) + ((sp_X11_draw ((sp_X11_draw se (((sp_X11_mostOf (nI k)) - (sp_X11_leastOf (nI k))) + 1)).2) (((sp_X11_mostOf (nI k)) - (sp_X11_leastOf (nI k))) + 1)).1), ((sp_X11_draw ((sp_X11_draw se (((sp_X11_mostOf (nI k)) - (sp_X11_leastOf (nI k))) + 1)).2) (((sp_X11_mostOf (nI k)) - (sp_X11_leastOf (nI k))) + 1)).2))
set_option maxHeartbeats 4000000 in
set_option maxRecDepth 100000 in
theorem c_X11_falls (l : Launch) (g : kd_G) (sz : Nat) (mo : Nat) (mt : Nat) (mb : Nat) (mp : Nat) (qn : Nat) (mr : Nat) (rm : Nat) (rs : Int32) (mk : Nat) (zt : Nat) (T : Nat) (go : Int32) (th : Nat) (nh : Nat) (mw : Nat) (mc : Nat) (mn : Nat) (mx : Nat) (sm : Nat) (ms : Nat) (se : Int32) (mv : Nat) (kh : Int32) (kg : Int32) (kt : Nat) (ks : Nat) (mq : Nat) (mu : Nat) (hsh : Int64) (k : Nat) (hk : k < 5) : kd_MI l yX11_falls wsX11_falls ({ frames := 1, cells := 0, slots := 0, locals := 21 }) [.ref mo, .int (nI k)] g [(mo, .inr (11, [.ref mt, .ref mb, .ref mp, .int (nI qn), .ref mr, .int (nI rm), .int rs, .ref mk, .int (nI zt), .int (nI T), .int go, .int (nI th), .int (nI nh), .ref mw, .ref mc, .ref mn, .ref mx, .int (nI sm), .ref ms, .int se, .ref mv, .int kh, .int kg, .int (nI kt), .int (nI ks), .ref mq, .ref mu, .long hsh]))] sz (fun r (u : Int32) => (r, u) = sp_X11_falls se k) (fun u => [(mo, .inr (11, [.ref mt, .ref mb, .ref mp, .int (nI qn), .ref mr, .int (nI rm), .int rs, .ref mk, .int (nI zt), .int (nI T), .int go, .int (nI th), .int (nI nh), .ref mw, .ref mc, .ref mn, .ref mx, .int (nI sm), .ref ms, .int u, .ref mv, .int kh, .int kg, .int (nI kt), .int (nI ks), .ref mq, .ref mu, .long hsh]))]) 0 0 := by
  refine kd_met (l := l) (y := yX11_falls) (ws := wsX11_falls) (rm := { frames := 1, cells := 0, slots := 0, locals := 21 }) (av := [.ref mo, .int (nI k)]) (g := g) (WS := [(mo, .inr (11, [.ref mt, .ref mb, .ref mp, .int (nI qn), .ref mr, .int (nI rm), .int rs, .ref mk, .int (nI zt), .int (nI T), .int go, .int (nI th), .int (nI nh), .ref mw, .ref mc, .ref mn, .ref mx, .int (nI sm), .ref ms, .int se, .ref mv, .int kh, .int kg, .int (nI kt), .int (nI ks), .ref mq, .ref mu, .long hsh]))]) (sz := sz) (mc := 0) (ms := 0) (cc := cX11_falls) (maxL := 4) (ret := (some .int)) (own := RX11) (fun A => va_Qi (fun r (u : Int32) => (r, u) = sp_X11_falls se k) (fun u t => kd_post g A [(mo, .inr (11, [.ref mt, .ref mb, .ref mp, .int (nI qn), .ref mr, .int (nI rm), .int rs, .ref mk, .int (nI zt), .int (nI T), .int go, .int (nI th), .int (nI nh), .ref mw, .ref mc, .ref mn, .ref mx, .int (nI sm), .ref ms, .int u, .ref mv, .int kh, .int kg, .int (nI kt), .int (nI ks), .ref mq, .ref mu, .long hsh]))] t) A) (by decide) rfl rfl (Nat.le_of_ble_eq_true rfl) ?_
  intro p e s m below meth c A ls hx hb hr hml hts hown hlocks hnm hA hP hK hD hS hE hl
  have hl : lv_has ls 4 [(0, .ref mo), (1, .int (nI k))] := hl
  refine lv_iload_n hx hb dX11_falls_0 rfl (lv_at hl 1 rfl) ?_
  refine kd_callIK (g := g) (wc := []) (va_runS (mc := 0) (ms := 0) (rm := { frames := 0, cells := 0, slots := 0, locals := 0 }) (As := [.int (nI k)]) (rest := []) ⟨hx, hb, hml, hown, hts⟩ (c_X11_mostOf l g s.heap.size (nI k) ) (va_cwS 1 hts gX11_falls_X11_mostOf rfl rfl rfl (by decide +kernel) ⟨Nat.le_of_ble_eq_true rfl, Nat.le_of_ble_eq_true rfl⟩) (kd_preS (wc := []) (av := [.int (nI k)]) hP hD hS hA hK hE [] rfl (by decide)) rfl rfl hl.1 rfl (lv_room (Nat.le_of_ble_eq_true rfl)) dX11_falls_1 ⟨Nat.le_of_ble_eq_true rfl, Nat.le_of_ble_eq_true rfl⟩) hP hD hS hA [] rfl (fun r_1 _ H locs hw hP hS => ?_)
  subst hw
  refine lv_iload_n hx hb dX11_falls_4 rfl (lv_at hl 1 rfl) ?_
  refine kd_callIK (g := g) (wc := []) (va_runS (mc := 0) (ms := 0) (rm := { frames := 0, cells := 0, slots := 0, locals := 0 }) (As := [.int (nI k)]) (rest := [.int (sp_X11_mostOf (nI k))]) ⟨hx, hb, hml, hown, hts⟩ (c_X11_leastOf l g H.size (nI k) ) (va_cwS 1 hts gX11_falls_X11_leastOf rfl rfl rfl (by decide +kernel) ⟨Nat.le_of_ble_eq_true rfl, Nat.le_of_ble_eq_true rfl⟩) (kd_preS (wc := []) (av := [.int (nI k)]) hP hD hS hA hK hE [] rfl (by decide)) rfl rfl hl.1 rfl (lv_room (Nat.le_of_ble_eq_true rfl)) dX11_falls_5 ⟨Nat.le_of_ble_eq_true rfl, Nat.le_of_ble_eq_true rfl⟩) hP hD hS hA [] rfl (fun r_5 _ H locs hw hP hS => ?_)
  subst hw
  refine lv_isub hx hb dX11_falls_8 ?_
  refine lv_iconst (v := 1) hx hb dX11_falls_9 (by decide) ?_
  refine lv_iadd hx hb dX11_falls_10 ?_
  refine lv_istore_n (lv' := [(2, .int (((sp_X11_mostOf (nI k)) - (sp_X11_leastOf (nI k))) + 1)), (0, .ref mo), (1, .int (nI k))]) hx hb dX11_falls_11 rfl hl (by decide) rfl (fun ls hl => ?_)
  refine lv_iload_n hx hb dX11_falls_12 rfl (lv_at hl 2 rfl) ?_
  refine kd_callIK (g := g) (wc := []) (va_runS (mc := 0) (ms := 0) (rm := { frames := 0, cells := 0, slots := 0, locals := 0 }) (As := [.int (nI k)]) (rest := []) ⟨hx, hb, hml, hown, hts⟩ (c_X11_leastOf l g H.size (nI k) ) (va_cwS 1 hts gX11_falls_X11_leastOf rfl rfl rfl (by decide +kernel) ⟨Nat.le_of_ble_eq_true rfl, Nat.le_of_ble_eq_true rfl⟩) (kd_preS (wc := []) (av := [.int (nI k)]) hP hD hS hA hK hE [] rfl (by decide)) rfl rfl hl.1 rfl (lv_room (Nat.le_of_ble_eq_true rfl)) dX11_falls_13 ⟨Nat.le_of_ble_eq_true rfl, Nat.le_of_ble_eq_true rfl⟩) hP hD hS hA [] rfl (fun r_13 _ H locs hw hP hS => ?_)
  subst hw
  refine lv_aload_n hx hb dX11_falls_16 rfl (lv_at hl 1 rfl) ?_
  refine lv_iload_n hx hb dX11_falls_17 rfl (lv_at hl 0 rfl) ?_
  refine kd_callIJ (Wf := fun (u : Int32) => [(mo, .inr (11, [.ref mt, .ref mb, .ref mp, .int (nI qn), .ref mr, .int (nI rm), .int rs, .ref mk, .int (nI zt), .int (nI T), .int go, .int (nI th), .int (nI nh), .ref mw, .ref mc, .ref mn, .ref mx, .int (nI sm), .ref ms, .int u, .ref mv, .int kh, .int kg, .int (nI kt), .int (nI ks), .ref mq, .ref mu, .long hsh]))]) (g := g) (wc := [(mo, .inr (11, [.ref mt, .ref mb, .ref mp, .int (nI qn), .ref mr, .int (nI rm), .int rs, .ref mk, .int (nI zt), .int (nI T), .int go, .int (nI th), .int (nI nh), .ref mw, .ref mc, .ref mn, .ref mx, .int (nI sm), .ref ms, .int se, .ref mv, .int kh, .int kg, .int (nI kt), .int (nI ks), .ref mq, .ref mu, .long hsh]))]) (wr := []) (va_runV (mc := 0) (ms := 0) (rm := { frames := 0, cells := 0, slots := 0, locals := 0 }) (As := [.int (((sp_X11_mostOf (nI k)) - (sp_X11_leastOf (nI k))) + 1)]) (rest := [.int (sp_X11_leastOf (nI k))]) ⟨hx, hb, hml, hown, hts⟩ (c_X11_draw l g H.size mo mt mb mp qn mr rm rs mk zt T go th nh mw mc mn mx sm ms se mv kh kg kt ks mq mu hsh (((sp_X11_mostOf (nI k)) - (sp_X11_leastOf (nI k))) + 1) (kd_many hk)) (cwV 1 hts gX11_falls_X11_draw rfl rfl rfl (by decide +kernel) ⟨Nat.le_of_ble_eq_true rfl, Nat.le_of_ble_eq_true rfl⟩) (kd_preV (wc := [(mo, .inr (11, [.ref mt, .ref mb, .ref mp, .int (nI qn), .ref mr, .int (nI rm), .int rs, .ref mk, .int (nI zt), .int (nI T), .int go, .int (nI th), .int (nI nh), .ref mw, .ref mc, .ref mn, .ref mx, .int (nI sm), .ref ms, .int se, .ref mv, .int kh, .int kg, .int (nI kt), .int (nI ks), .ref mq, .ref mu, .long hsh]))]) (va_recv hK hP (ci := 11) (q0 := 0) rfl rfl) hP hD hS hA hK hE [0] rfl (by decide)) rfl rfl hl.1 rfl (lv_room (Nat.le_of_ble_eq_true rfl)) dX11_falls_18 ⟨Nat.le_of_ble_eq_true rfl, Nat.le_of_ble_eq_true rfl⟩) hP hD hS hA [0] [] rfl rfl (by decide) (by decide) (fun r_18 u_18 H locs hw_18 hP hD hS => ?_)
  obtain ⟨se_18, rfl⟩ : ∃ z, z = u_18 := ⟨_, rfl⟩
  have hP : va_P g.1 vwCl ([] ++ [(mo, .inr (11, [.ref mt, .ref mb, .ref mp, .int (nI qn), .ref mr, .int (nI rm), .int rs, .ref mk, .int (nI zt), .int (nI T), .int go, .int (nI th), .int (nI nh), .ref mw, .ref mc, .ref mn, .ref mx, .int (nI sm), .ref ms, .int se_18, .ref mv, .int kh, .int kg, .int (nI kt), .int (nI ks), .ref mq, .ref mu, .long hsh]))]) H := hP
  have hD : va_D A ([] ++ [(mo, .inr (11, [.ref mt, .ref mb, .ref mp, .int (nI qn), .ref mr, .int (nI rm), .int rs, .ref mk, .int (nI zt), .int (nI T), .int go, .int (nI th), .int (nI nh), .ref mw, .ref mc, .ref mn, .ref mx, .int (nI sm), .ref ms, .int se_18, .ref mv, .int kh, .int kg, .int (nI kt), .int (nI ks), .ref mq, .ref mu, .long hsh]))]) := hD
  refine lv_iadd hx hb dX11_falls_21 ?_
  refine lv_istore_n (lv' := [(3, .int ((sp_X11_leastOf (nI k)) + r_18)), (2, .int (((sp_X11_mostOf (nI k)) - (sp_X11_leastOf (nI k))) + 1)), (0, .ref mo), (1, .int (nI k))]) hx hb dX11_falls_22 rfl hl (by decide) rfl (fun ls hl => ?_)
  refine lv_iload_n hx hb dX11_falls_23 rfl (lv_at hl 3 rfl) ?_
  refine lv_iconst (v := 2) hx hb dX11_falls_24 (by decide) ?_
  refine lv_icmp_ne (tgt := 34) hx hb dX11_falls_25 (by decide) (fun c_25 => ?_) (fun c_25 => ?_)
  · have n_25 : ¬ k = 2 := kd_cnq (a := k) (b := 2) (by omega) (by omega) c_25
    refine lv_iload_n hx hb dX11_falls_34 rfl (lv_at hl 0 rfl) ?_
    refine lv_iload_n hx hb dX11_falls_35 rfl (lv_at hl 3 rfl) ?_
    refine kd_callIK (g := g) (wc := []) (va_runS (mc := 0) (ms := 0) (rm := { frames := 0, cells := 0, slots := 0, locals := 0 }) (As := [.int (nI k)]) (rest := [.int ((sp_X11_leastOf (nI k)) + r_18)]) ⟨hx, hb, hml, hown, hts⟩ (c_X11_leastOf l g H.size (nI k) ) (va_cwS 1 hts gX11_falls_X11_leastOf rfl rfl rfl (by decide +kernel) ⟨Nat.le_of_ble_eq_true rfl, Nat.le_of_ble_eq_true rfl⟩) (kd_preS (wc := []) (av := [.int (nI k)]) hP hD hS hA hK hE [] rfl (by decide)) rfl rfl hl.1 rfl (lv_room (Nat.le_of_ble_eq_true rfl)) dX11_falls_36 ⟨Nat.le_of_ble_eq_true rfl, Nat.le_of_ble_eq_true rfl⟩) hP hD hS hA [] rfl (fun r_36 _ H locs hw hP hS => ?_)
    subst hw
    refine lv_iadd hx hb dX11_falls_39 ?_
    refine lv_aload_n hx hb dX11_falls_40 rfl (lv_at hl 2 rfl) ?_
    refine lv_iload_n hx hb dX11_falls_41 rfl (lv_at hl 1 rfl) ?_
    refine kd_callIJ (Wf := fun (u : Int32) => [(mo, .inr (11, [.ref mt, .ref mb, .ref mp, .int (nI qn), .ref mr, .int (nI rm), .int rs, .ref mk, .int (nI zt), .int (nI T), .int go, .int (nI th), .int (nI nh), .ref mw, .ref mc, .ref mn, .ref mx, .int (nI sm), .ref ms, .int u, .ref mv, .int kh, .int kg, .int (nI kt), .int (nI ks), .ref mq, .ref mu, .long hsh]))]) (g := g) (wc := [(mo, .inr (11, [.ref mt, .ref mb, .ref mp, .int (nI qn), .ref mr, .int (nI rm), .int rs, .ref mk, .int (nI zt), .int (nI T), .int go, .int (nI th), .int (nI nh), .ref mw, .ref mc, .ref mn, .ref mx, .int (nI sm), .ref ms, .int se_18, .ref mv, .int kh, .int kg, .int (nI kt), .int (nI ks), .ref mq, .ref mu, .long hsh]))]) (wr := []) (va_runV (mc := 0) (ms := 0) (rm := { frames := 0, cells := 0, slots := 0, locals := 0 }) (As := [.int (((sp_X11_mostOf (nI k)) - (sp_X11_leastOf (nI k))) + 1)]) (rest := [.int (((sp_X11_leastOf (nI k)) + r_18) + (sp_X11_leastOf (nI k)))]) ⟨hx, hb, hml, hown, hts⟩ (c_X11_draw l g H.size mo mt mb mp qn mr rm rs mk zt T go th nh mw mc mn mx sm ms se_18 mv kh kg kt ks mq mu hsh (((sp_X11_mostOf (nI k)) - (sp_X11_leastOf (nI k))) + 1) (kd_many hk)) (cwV 1 hts gX11_falls_X11_draw rfl rfl rfl (by decide +kernel) ⟨Nat.le_of_ble_eq_true rfl, Nat.le_of_ble_eq_true rfl⟩) (kd_preV (wc := [(mo, .inr (11, [.ref mt, .ref mb, .ref mp, .int (nI qn), .ref mr, .int (nI rm), .int rs, .ref mk, .int (nI zt), .int (nI T), .int go, .int (nI th), .int (nI nh), .ref mw, .ref mc, .ref mn, .ref mx, .int (nI sm), .ref ms, .int se_18, .ref mv, .int kh, .int kg, .int (nI kt), .int (nI ks), .ref mq, .ref mu, .long hsh]))]) (va_recv hK hP (ci := 11) (q0 := 0) rfl rfl) hP hD hS hA hK hE [0] rfl (by decide)) rfl rfl hl.1 rfl (lv_room (Nat.le_of_ble_eq_true rfl)) dX11_falls_42 ⟨Nat.le_of_ble_eq_true rfl, Nat.le_of_ble_eq_true rfl⟩) hP hD hS hA [0] [] rfl rfl (by decide) (by decide) (fun r_42 u_42 H locs hw_42 hP hD hS => ?_)
    obtain ⟨se_42, rfl⟩ : ∃ z, z = u_42 := ⟨_, rfl⟩
    have hP : va_P g.1 vwCl ([] ++ [(mo, .inr (11, [.ref mt, .ref mb, .ref mp, .int (nI qn), .ref mr, .int (nI rm), .int rs, .ref mk, .int (nI zt), .int (nI T), .int go, .int (nI th), .int (nI nh), .ref mw, .ref mc, .ref mn, .ref mx, .int (nI sm), .ref ms, .int se_42, .ref mv, .int kh, .int kg, .int (nI kt), .int (nI ks), .ref mq, .ref mu, .long hsh]))]) H := hP
    have hD : va_D A ([] ++ [(mo, .inr (11, [.ref mt, .ref mb, .ref mp, .int (nI qn), .ref mr, .int (nI rm), .int rs, .ref mk, .int (nI zt), .int (nI T), .int go, .int (nI th), .int (nI nh), .ref mw, .ref mc, .ref mn, .ref mx, .int (nI sm), .ref ms, .int se_42, .ref mv, .int kh, .int kg, .int (nI kt), .int (nI ks), .ref mq, .ref mu, .long hsh]))]) := hD
    refine lv_iadd hx hb dX11_falls_45 ?_
    have hP9 := hP.sub (ws' := [(mo, .inr (11, [.ref mt, .ref mb, .ref mp, .int (nI qn), .ref mr, .int (nI rm), .int rs, .ref mk, .int (nI zt), .int (nI T), .int go, .int (nI th), .int (nI nh), .ref mw, .ref mc, .ref mn, .ref mx, .int (nI sm), .ref ms, .int se_42, .ref mv, .int kh, .int kg, .int (nI kt), .int (nI ks), .ref mq, .ref mu, .long hsh]))]) [0] rfl
    have hD9 := hD.sub (ws' := [(mo, .inr (11, [.ref mt, .ref mb, .ref mp, .int (nI qn), .ref mr, .int (nI rm), .int rs, .ref mk, .int (nI zt), .int (nI T), .int go, .int (nI th), .int (nI nh), .ref mw, .ref mc, .ref mn, .ref mx, .int (nI sm), .ref ms, .int se_42, .ref mv, .int kh, .int kg, .int (nI kt), .int (nI ks), .ref mq, .ref mu, .long hsh]))]) [0] (by decide) rfl
    exact kd_iret hx hb hr hlocks hK hS dX11_falls_46 (se_42) (by obtain ⟨e0_0, e0_1⟩ := kd_eq2 hw_18; obtain ⟨e1_0, e1_1⟩ := kd_eq2 hw_42; (try rewrite [e1_0]); (try rewrite [e1_1]); (try rewrite [e0_0]); (try rewrite [e0_1]); rw [sp_X11_falls, if_neg c_25]) hP9 hD9
  · have n_25 : k = 2 := kd_cq (a := k) (b := 2) (by omega) (by omega) c_25
    refine lv_iconst (v := 2) hx hb dX11_falls_28 (by decide) ?_
    refine lv_iload_n hx hb dX11_falls_29 rfl (lv_at hl 0 rfl) ?_
    refine lv_imul hx hb dX11_falls_30 ?_
    refine lv_goto (tgt := 46) hx hb dX11_falls_31 (by decide) ?_
    have hP9 := hP.sub (ws' := [(mo, .inr (11, [.ref mt, .ref mb, .ref mp, .int (nI qn), .ref mr, .int (nI rm), .int rs, .ref mk, .int (nI zt), .int (nI T), .int go, .int (nI th), .int (nI nh), .ref mw, .ref mc, .ref mn, .ref mx, .int (nI sm), .ref ms, .int se_18, .ref mv, .int kh, .int kg, .int (nI kt), .int (nI ks), .ref mq, .ref mu, .long hsh]))]) [0] rfl
    have hD9 := hD.sub (ws' := [(mo, .inr (11, [.ref mt, .ref mb, .ref mp, .int (nI qn), .ref mr, .int (nI rm), .int rs, .ref mk, .int (nI zt), .int (nI T), .int go, .int (nI th), .int (nI nh), .ref mw, .ref mc, .ref mn, .ref mx, .int (nI sm), .ref ms, .int se_18, .ref mv, .int kh, .int kg, .int (nI kt), .int (nI ks), .ref mq, .ref mu, .long hsh]))]) [0] (by decide) rfl
    exact kd_iret hx hb hr hlocks hK hS dX11_falls_46 (se_18) (by obtain ⟨e0_0, e0_1⟩ := kd_eq2 hw_18; (try rewrite [e0_0]); (try rewrite [e0_1]); rw [sp_X11_falls, if_pos c_25]) hP9 hD9
/-- the least of the first t that is the KING's, else a -/
def kd_lg (rf : Nat → Int32) : Nat → Int32 → Int32
  | 0, a => a
  | t + 1, a => kd_lg rf t (if sp_X11_isKings rf t = 0 then a else nI t)
def kd_km (rf : Nat → Int32) : Nat → Nat
  | 0 => 0
  | i + 1 => if sp_X11_isKings rf i = 0 then kd_km rf i else kd_km rf i + 1
def kd_mw (rf : Nat → Int32) : Nat → Nat
  | 0 => 0
  | i + 1 => if sp_X11_isKings rf i = 0 then (if rf (6 * i + 4) = 0 then kd_mw rf i + 1 else kd_mw rf i) else kd_mw rf i
theorem kd_lg_in {rf : Nat → Int32} : ∀ (t N : Nat) (a : Int32), t ≤ N → (a = nI a.toNatClampNeg ∧ a.toNatClampNeg < N) → N < 2 ^ 31 → (kd_lg rf t a = nI (kd_lg rf t a).toNatClampNeg ∧ (kd_lg rf t a).toNatClampNeg < N)
  | 0, N, a, _, h, _ => h
  | t + 1, N, a, ht, h, hN => by
    rw [kd_lg]
    refine kd_lg_in t N _ (by omega) ?_ hN
    split
    · exact h
    · rw [nI_clamp (by omega)]; exact ⟨rfl, by omega⟩
theorem kd_lg_ok {rf : Nat → Int32} : ∀ (T N : Nat) (a : Int32), T ≤ N → N < 2 ^ 31 → ¬ nI (kd_km rf T) ≤ 0 → (kd_lg rf T a = nI (kd_lg rf T a).toNatClampNeg ∧ (kd_lg rf T a).toNatClampNeg < N)
  | 0, N, a, _, _, h => absurd (show nI 0 ≤ 0 by decide) h
  | T + 1, N, a, ht, hN, h => by
    rw [kd_lg]
    rw [kd_km] at h
    split
    · rename_i q
      rw [if_pos q] at h
      exact kd_lg_ok T N a (by omega) hN h
    · exact kd_lg_in T N _ (by omega) (by rw [nI_clamp (by omega)]; exact ⟨rfl, by omega⟩) hN
theorem kd_dec {t : Nat} (h : 1 ≤ t) : nI t - 1 + Int32.ofInt (-1) = nI (t - 1) - 1 := by
  rw [show nI t - 1 = nI (t - 1) from pk_sub (a := t) (b := 1) h]
  exact (Int32.sub_eq_add_neg (nI (t - 1)) 1).symm
theorem kd_neg1 {t : Nat} (h : t < 2 ^ 31) (hc : (nI t - 1) < 0) : t = 0 := by
  rcases Nat.eq_zero_or_pos t with e | e
  · exact e
  · rw [show nI t - 1 = nI (t - 1) from pk_sub (a := t) (b := 1) e] at hc
    exact absurd (kd_cl (a := t - 1) (b := 0) (by omega) (by decide) hc) (by omega)
theorem kd_neg2 {t : Nat} (hc : ¬ (nI t - 1) < 0) : 1 ≤ t := by
  rcases Nat.eq_zero_or_pos t with rfl | e
  · exact absurd (by decide) hc
  · exact e
set_option maxHeartbeats 4000000 in
set_option maxRecDepth 100000 in
theorem c_X11_leastKings (l : Launch) (g : kd_G) (sz : Nat) (mo : Nat) (mt : Nat) (mb : Nat) (mp : Nat) (qn : Nat) (mr : Nat) (rm : Nat) (rs : Int32) (mk : Nat) (zt : Nat) (T : Nat) (go : Int32) (th : Nat) (nh : Nat) (mw : Nat) (mc : Nat) (mn : Nat) (mx : Nat) (sm : Nat) (ms : Nat) (se : Int32) (mv : Nat) (kh : Int32) (kg : Int32) (kt : Nat) (ks : Nat) (mq : Nat) (mu : Nat) (hsh : Int64) (rf : Nat → Int32) (hT : T ≤ 6) : kd_MI l yX11_leastKings wsX11_leastKings ({ frames := 1, cells := 0, slots := 0, locals := 21 }) [.ref mo] g [(mo, .inr (11, [.ref mt, .ref mb, .ref mp, .int (nI qn), .ref mr, .int (nI rm), .int rs, .ref mk, .int (nI zt), .int (nI T), .int go, .int (nI th), .int (nI nh), .ref mw, .ref mc, .ref mn, .ref mx, .int (nI sm), .ref ms, .int se, .ref mv, .int kh, .int kg, .int (nI kt), .int (nI ks), .ref mq, .ref mu, .long hsh])), (mw, .inl (g.2.1 0, 36, .inl rf))] sz (fun r (_ : Unit) => r = kd_lg rf T (-1)) (fun _ => [(mo, .inr (11, [.ref mt, .ref mb, .ref mp, .int (nI qn), .ref mr, .int (nI rm), .int rs, .ref mk, .int (nI zt), .int (nI T), .int go, .int (nI th), .int (nI nh), .ref mw, .ref mc, .ref mn, .ref mx, .int (nI sm), .ref ms, .int se, .ref mv, .int kh, .int kg, .int (nI kt), .int (nI ks), .ref mq, .ref mu, .long hsh])), (mw, .inl (g.2.1 0, 36, .inl rf))]) 0 0 := by
  refine kd_met (l := l) (y := yX11_leastKings) (ws := wsX11_leastKings) (rm := { frames := 1, cells := 0, slots := 0, locals := 21 }) (av := [.ref mo]) (g := g) (WS := [(mo, .inr (11, [.ref mt, .ref mb, .ref mp, .int (nI qn), .ref mr, .int (nI rm), .int rs, .ref mk, .int (nI zt), .int (nI T), .int go, .int (nI th), .int (nI nh), .ref mw, .ref mc, .ref mn, .ref mx, .int (nI sm), .ref ms, .int se, .ref mv, .int kh, .int kg, .int (nI kt), .int (nI ks), .ref mq, .ref mu, .long hsh])), (mw, .inl (g.2.1 0, 36, .inl rf))]) (sz := sz) (mc := 0) (ms := 0) (cc := cX11_leastKings) (maxL := 3) (ret := (some .int)) (own := RX11) (fun A => va_Qi (fun r (_ : Unit) => r = kd_lg rf T (-1)) (fun u t => kd_post g A [(mo, .inr (11, [.ref mt, .ref mb, .ref mp, .int (nI qn), .ref mr, .int (nI rm), .int rs, .ref mk, .int (nI zt), .int (nI T), .int go, .int (nI th), .int (nI nh), .ref mw, .ref mc, .ref mn, .ref mx, .int (nI sm), .ref ms, .int se, .ref mv, .int kh, .int kg, .int (nI kt), .int (nI ks), .ref mq, .ref mu, .long hsh])), (mw, .inl (g.2.1 0, 36, .inl rf))] t) A) (by decide) rfl rfl (Nat.le_of_ble_eq_true rfl) ?_
  intro p e s m below meth c A ls hx hb hr hml hts hown hlocks hnm hA hP hK hD hS hE hl
  have hl : lv_has ls 3 [(0, .ref mo)] := hl
  have hiX11 : ∀ w ∈ u_ws RX11 TX11 28, w ∈ wsX11_leastKings := by decide +kernel
  refine lv_iconst (v := (-1)) hx hb dX11_leastKings_0 (by decide) ?_
  refine lv_istore_n (lv' := [(1, .int (-1)), (0, .ref mo)]) hx hb dX11_leastKings_1 rfl hl (by decide) rfl (fun ls hl => ?_)
  refine lv_aload_n hx hb dX11_leastKings_2 rfl (lv_at hl 1 rfl) ?_
  refine va_get (ci := 11) (v := .int (nI T)) (C := RX11) (T := TX11) (N := 28) hx hb hts hiX11 hown hK hP (0) rfl rfl 9 (by decide) (hts (.fieldLink RX11 102 "KingdomAtDiceModel" "things" "I") (by decide +kernel)) (fun _ h9 => h9) rfl dX11_leastKings_3 ?_
  refine lv_iconst (v := 1) hx hb dX11_leastKings_6 (by decide) ?_
  refine lv_isub hx hb dX11_leastKings_7 ?_
  refine lv_istore_n (lv' := [(2, .int ((nI T) - 1)), (1, .int (-1)), (0, .ref mo)]) hx hb dX11_leastKings_8 rfl hl (by decide) rfl (fun ls hl => ?_)
  have loop_9 : ∀ (n_9 : Nat) (t : Nat) (a : Int32), (t ≤ T) → (kd_lg rf T (-1) = kd_lg rf t a) → (t) < n_9 → ∀ (H : Heap) (locs : List Loc), va_P g.1 vwCl [(mo, .inr (11, [.ref mt, .ref mb, .ref mp, .int (nI qn), .ref mr, .int (nI rm), .int rs, .ref mk, .int (nI zt), .int (nI T), .int go, .int (nI th), .int (nI nh), .ref mw, .ref mc, .ref mn, .ref mx, .int (nI sm), .ref ms, .int se, .ref mv, .int kh, .int kg, .int (nI kt), .int (nI ks), .ref mq, .ref mu, .long hsh])), (mw, .inl (g.2.1 0, 36, .inl rf))] H → va_D A [(mo, .inr (11, [.ref mt, .ref mb, .ref mp, .int (nI qn), .ref mr, .int (nI rm), .int rs, .ref mk, .int (nI zt), .int (nI T), .int go, .int (nI th), .int (nI nh), .ref mw, .ref mc, .ref mn, .ref mx, .int (nI sm), .ref ms, .int se, .ref mv, .int kh, .int kg, .int (nI kt), .int (nI ks), .ref mq, .ref mu, .long hsh])), (mw, .inl (g.2.1 0, 36, .inl rf))] → va_S A s.heap H locs → ∀ (ls : Array Slot), lv_has ls 3 [(0, .ref mo), (1, .int a), (2, .int (nI t - 1))] → W p l e ({ frames := 1, cells := 0, slots := 0, locals := 21 } : Room) s m ([.ref mo] : List Value).toArray below meth c H locs 0 0 (MQ below (va_Qi (fun r (_ : Unit) => r = kd_lg rf T (-1)) (fun u t => kd_post g A [(mo, .inr (11, [.ref mt, .ref mb, .ref mp, .int (nI qn), .ref mr, .int (nI rm), .int rs, .ref mk, .int (nI zt), .int (nI T), .int go, .int (nI th), .int (nI nh), .ref mw, .ref mc, .ref mn, .ref mx, .int (nI sm), .ref ms, .int se, .ref mv, .int kh, .int kg, .int (nI kt), .int (nI ks), .ref mq, .ref mu, .long hsh])), (mw, .inl (g.2.1 0, 36, .inl rf))] t) A) ([.ref mo] : List Value).toArray s 0 0 A) (F0 m 9 ls []) := by
    intro n_9
    induction n_9 with
    | zero => intro t a _ _ hm_9; exact absurd hm_9 (Nat.not_lt_zero _)
    | succ n_9 ih_9 =>
      intro t a ht hq hm_9 H locs hP hD hS ls hl
      refine lv_iload_n hx hb dX11_leastKings_9 rfl (lv_at hl 2 rfl) ?_
      refine lv_if_lt (tgt := 33) hx hb dX11_leastKings_10 (by decide) (fun c_10 => ?_) (fun c_10 => ?_)
      · refine lv_iload_n hx hb dX11_leastKings_33 rfl (lv_at hl 1 rfl) ?_
        exact kd_iret hx hb hr hlocks hK hS dX11_leastKings_34 (()) (by rw [hq, kd_neg1 (by omega) c_10]; rfl) hP hD
      · have ht1 := kd_neg2 c_10
        refine lv_aload_n hx hb dX11_leastKings_13 rfl (lv_at hl 0 rfl) ?_
        refine lv_iload_n hx hb dX11_leastKings_14 rfl (lv_at hl 2 rfl) ?_
        refine kd_top (y := nI (t - 1)) (pk_sub (a := t) (b := 1) ht1) ?_
        refine kd_callIK (g := g) (wc := [(mo, .inr (11, [.ref mt, .ref mb, .ref mp, .int (nI qn), .ref mr, .int (nI rm), .int rs, .ref mk, .int (nI zt), .int (nI T), .int go, .int (nI th), .int (nI nh), .ref mw, .ref mc, .ref mn, .ref mx, .int (nI sm), .ref ms, .int se, .ref mv, .int kh, .int kg, .int (nI kt), .int (nI ks), .ref mq, .ref mu, .long hsh])), (mw, .inl (g.2.1 0, 36, .inl rf))]) (va_runV (mc := 0) (ms := 0) (rm := { frames := 0, cells := 0, slots := 0, locals := 0 }) (As := [.int (nI (t - 1))]) (rest := []) ⟨hx, hb, hml, hown, hts⟩ (c_X11_isKings l g H.size mo mt mb mp qn mr rm rs mk zt T go th nh mw mc mn mx sm ms se mv kh kg kt ks mq mu hsh rf (t - 1) (by omega)) (cwV 1 hts gX11_leastKings_X11_isKings rfl rfl rfl (by decide +kernel) ⟨Nat.le_of_ble_eq_true rfl, Nat.le_of_ble_eq_true rfl⟩) (kd_preV (wc := [(mo, .inr (11, [.ref mt, .ref mb, .ref mp, .int (nI qn), .ref mr, .int (nI rm), .int rs, .ref mk, .int (nI zt), .int (nI T), .int go, .int (nI th), .int (nI nh), .ref mw, .ref mc, .ref mn, .ref mx, .int (nI sm), .ref ms, .int se, .ref mv, .int kh, .int kg, .int (nI kt), .int (nI ks), .ref mq, .ref mu, .long hsh])), (mw, .inl (g.2.1 0, 36, .inl rf))]) (va_recv hK hP (ci := 11) (q0 := 0) rfl rfl) hP hD hS hA hK hE [0, 1] rfl (by decide)) rfl rfl hl.1 rfl (lv_room (Nat.le_of_ble_eq_true rfl)) dX11_leastKings_15 ⟨Nat.le_of_ble_eq_true rfl, Nat.le_of_ble_eq_true rfl⟩) hP hD hS hA [0, 1] rfl (fun r_15 _ H locs hw hP hS => ?_)
        subst hw
        refine lv_if_eq (tgt := 25) hx hb dX11_leastKings_18 (by decide) (fun c_18 => ?_) (fun c_18 => ?_)
        · refine lv_iload_n hx hb dX11_leastKings_25 rfl (lv_at hl 1 rfl) ?_
          refine lv_istore_n (lv' := [(1, .int a), (0, .ref mo), (2, .int (nI t - 1))]) hx hb dX11_leastKings_26 rfl hl (by decide) rfl (fun ls hl => ?_)
          refine lv_iinc (v := nI (t - 1) - 1) (lv' := [(2, .int (nI (t - 1) - 1)), (1, .int a), (0, .ref mo)]) hx hb dX11_leastKings_27 hl (k := 2) rfl (kd_dec ht1) (by decide) rfl (fun ls hl => ?_)
          refine lv_goto (tgt := 9) hx hb dX11_leastKings_30 (by decide) ?_
          exact ih_9 (t - 1) a (by omega) (by obtain ⟨t, rfl⟩ : ∃ z, t = z + 1 := ⟨t - 1, by omega⟩; rw [hq, kd_lg, if_pos (show sp_X11_isKings rf t = 0 from c_18)]; rfl) (by omega) _ _ hP hD hS ls (lv_sub hl [2, 1, 0] rfl)
        · refine lv_iload_n hx hb dX11_leastKings_21 rfl (lv_at hl 2 rfl) ?_
          refine kd_top (y := nI (t - 1)) (pk_sub (a := t) (b := 1) ht1) ?_
          refine lv_goto (tgt := 26) hx hb dX11_leastKings_22 (by decide) ?_
          refine lv_istore_n (lv' := [(1, .int (nI (t - 1))), (0, .ref mo), (2, .int (nI t - 1))]) hx hb dX11_leastKings_26 rfl hl (by decide) rfl (fun ls hl => ?_)
          refine lv_iinc (v := nI (t - 1) - 1) (lv' := [(2, .int (nI (t - 1) - 1)), (1, .int (nI (t - 1))), (0, .ref mo)]) hx hb dX11_leastKings_27 hl (k := 2) rfl (kd_dec ht1) (by decide) rfl (fun ls hl => ?_)
          refine lv_goto (tgt := 9) hx hb dX11_leastKings_30 (by decide) ?_
          exact ih_9 (t - 1) (nI (t - 1)) (by omega) (by obtain ⟨t, rfl⟩ : ∃ z, t = z + 1 := ⟨t - 1, by omega⟩; rw [hq, kd_lg, if_neg (show ¬ sp_X11_isKings rf t = 0 from c_18)]; rfl) (by omega) _ _ hP hD hS ls (lv_sub hl [2, 1, 0] rfl)
  exact loop_9 (T + 1) T (-1) (Nat.le_refl _) rfl (Nat.lt_succ_self _) _ _ hP hD hS ls (lv_sub hl [2, 1, 0] rfl)
set_option maxHeartbeats 4000000 in
set_option maxRecDepth 100000 in
theorem c_X11_kingsMany (l : Launch) (g : kd_G) (sz : Nat) (mo : Nat) (mt : Nat) (mb : Nat) (mp : Nat) (qn : Nat) (mr : Nat) (rm : Nat) (rs : Int32) (mk : Nat) (zt : Nat) (T : Nat) (go : Int32) (th : Nat) (nh : Nat) (mw : Nat) (mc : Nat) (mn : Nat) (mx : Nat) (sm : Nat) (ms : Nat) (se : Int32) (mv : Nat) (kh : Int32) (kg : Int32) (kt : Nat) (ks : Nat) (mq : Nat) (mu : Nat) (hsh : Int64) (rf : Nat → Int32) (hT : T ≤ 6) : kd_MI l yX11_kingsMany wsX11_kingsMany ({ frames := 1, cells := 0, slots := 0, locals := 21 }) [.ref mo] g [(mo, .inr (11, [.ref mt, .ref mb, .ref mp, .int (nI qn), .ref mr, .int (nI rm), .int rs, .ref mk, .int (nI zt), .int (nI T), .int go, .int (nI th), .int (nI nh), .ref mw, .ref mc, .ref mn, .ref mx, .int (nI sm), .ref ms, .int se, .ref mv, .int kh, .int kg, .int (nI kt), .int (nI ks), .ref mq, .ref mu, .long hsh])), (mw, .inl (g.2.1 0, 36, .inl rf))] sz (fun r (_ : Unit) => r = nI (kd_km rf T)) (fun _ => [(mo, .inr (11, [.ref mt, .ref mb, .ref mp, .int (nI qn), .ref mr, .int (nI rm), .int rs, .ref mk, .int (nI zt), .int (nI T), .int go, .int (nI th), .int (nI nh), .ref mw, .ref mc, .ref mn, .ref mx, .int (nI sm), .ref ms, .int se, .ref mv, .int kh, .int kg, .int (nI kt), .int (nI ks), .ref mq, .ref mu, .long hsh])), (mw, .inl (g.2.1 0, 36, .inl rf))]) 0 0 := by
  refine kd_met (l := l) (y := yX11_kingsMany) (ws := wsX11_kingsMany) (rm := { frames := 1, cells := 0, slots := 0, locals := 21 }) (av := [.ref mo]) (g := g) (WS := [(mo, .inr (11, [.ref mt, .ref mb, .ref mp, .int (nI qn), .ref mr, .int (nI rm), .int rs, .ref mk, .int (nI zt), .int (nI T), .int go, .int (nI th), .int (nI nh), .ref mw, .ref mc, .ref mn, .ref mx, .int (nI sm), .ref ms, .int se, .ref mv, .int kh, .int kg, .int (nI kt), .int (nI ks), .ref mq, .ref mu, .long hsh])), (mw, .inl (g.2.1 0, 36, .inl rf))]) (sz := sz) (mc := 0) (ms := 0) (cc := cX11_kingsMany) (maxL := 3) (ret := (some .int)) (own := RX11) (fun A => va_Qi (fun r (_ : Unit) => r = nI (kd_km rf T)) (fun u t => kd_post g A [(mo, .inr (11, [.ref mt, .ref mb, .ref mp, .int (nI qn), .ref mr, .int (nI rm), .int rs, .ref mk, .int (nI zt), .int (nI T), .int go, .int (nI th), .int (nI nh), .ref mw, .ref mc, .ref mn, .ref mx, .int (nI sm), .ref ms, .int se, .ref mv, .int kh, .int kg, .int (nI kt), .int (nI ks), .ref mq, .ref mu, .long hsh])), (mw, .inl (g.2.1 0, 36, .inl rf))] t) A) (by decide) rfl rfl (Nat.le_of_ble_eq_true rfl) ?_
  intro p e s m below meth c A ls hx hb hr hml hts hown hlocks hnm hA hP hK hD hS hE hl
  have hl : lv_has ls 3 [(0, .ref mo)] := hl
  have hiX11 : ∀ w ∈ u_ws RX11 TX11 28, w ∈ wsX11_kingsMany := by decide +kernel
  refine lv_iconst (v := 0) hx hb dX11_kingsMany_0 (by decide) ?_
  refine lv_istore_n (lv' := [(1, .int 0), (0, .ref mo)]) hx hb dX11_kingsMany_1 rfl hl (by decide) rfl (fun ls hl => ?_)
  refine lv_iconst (v := 0) hx hb dX11_kingsMany_2 (by decide) ?_
  refine lv_istore_n (lv' := [(2, .int 0), (1, .int 0), (0, .ref mo)]) hx hb dX11_kingsMany_3 rfl hl (by decide) rfl (fun ls hl => ?_)
  have loop_4 : ∀ (n_4 : Nat) (i : Nat) (a : Nat), (i ≤ T) → (a = kd_km rf i) → (T - i) < n_4 → ∀ (H : Heap) (locs : List Loc), va_P g.1 vwCl [(mo, .inr (11, [.ref mt, .ref mb, .ref mp, .int (nI qn), .ref mr, .int (nI rm), .int rs, .ref mk, .int (nI zt), .int (nI T), .int go, .int (nI th), .int (nI nh), .ref mw, .ref mc, .ref mn, .ref mx, .int (nI sm), .ref ms, .int se, .ref mv, .int kh, .int kg, .int (nI kt), .int (nI ks), .ref mq, .ref mu, .long hsh])), (mw, .inl (g.2.1 0, 36, .inl rf))] H → va_D A [(mo, .inr (11, [.ref mt, .ref mb, .ref mp, .int (nI qn), .ref mr, .int (nI rm), .int rs, .ref mk, .int (nI zt), .int (nI T), .int go, .int (nI th), .int (nI nh), .ref mw, .ref mc, .ref mn, .ref mx, .int (nI sm), .ref ms, .int se, .ref mv, .int kh, .int kg, .int (nI kt), .int (nI ks), .ref mq, .ref mu, .long hsh])), (mw, .inl (g.2.1 0, 36, .inl rf))] → va_S A s.heap H locs → ∀ (ls : Array Slot), lv_has ls 3 [(0, .ref mo), (1, .int (nI a)), (2, .int (nI i))] → W p l e ({ frames := 1, cells := 0, slots := 0, locals := 21 } : Room) s m ([.ref mo] : List Value).toArray below meth c H locs 0 0 (MQ below (va_Qi (fun r (_ : Unit) => r = nI (kd_km rf T)) (fun u t => kd_post g A [(mo, .inr (11, [.ref mt, .ref mb, .ref mp, .int (nI qn), .ref mr, .int (nI rm), .int rs, .ref mk, .int (nI zt), .int (nI T), .int go, .int (nI th), .int (nI nh), .ref mw, .ref mc, .ref mn, .ref mx, .int (nI sm), .ref ms, .int se, .ref mv, .int kh, .int kg, .int (nI kt), .int (nI ks), .ref mq, .ref mu, .long hsh])), (mw, .inl (g.2.1 0, 36, .inl rf))] t) A) ([.ref mo] : List Value).toArray s 0 0 A) (F0 m 4 ls []) := by
    intro n_4
    induction n_4 with
    | zero => intro i a _ _ hm_4; exact absurd hm_4 (Nat.not_lt_zero _)
    | succ n_4 ih_4 =>
      intro i a hi ha hm_4 H locs hP hD hS ls hl
      refine lv_iload_n hx hb dX11_kingsMany_4 rfl (lv_at hl 2 rfl) ?_
      refine lv_aload_n hx hb dX11_kingsMany_5 rfl (lv_at hl 0 rfl) ?_
      refine va_get (ci := 11) (v := .int (nI T)) (C := RX11) (T := TX11) (N := 28) hx hb hts hiX11 hown hK hP (0) rfl rfl 9 (by decide) (hts (.fieldLink RX11 102 "KingdomAtDiceModel" "things" "I") (by decide +kernel)) (fun _ h9 => h9) rfl dX11_kingsMany_6 ?_
      refine lv_icmp_ge (tgt := 34) hx hb dX11_kingsMany_9 (by decide) (fun c_9 => ?_) (fun c_9 => ?_)
      · have n_9 : T ≤ i := kd_ce (a := T) (b := i) (by omega) (by omega) c_9
        refine lv_iload_n hx hb dX11_kingsMany_34 rfl (lv_at hl 1 rfl) ?_
        exact kd_iret hx hb hr hlocks hK hS dX11_kingsMany_35 (()) (by rw [ha, show i = T by omega]) hP hD
      · have n_9 : i < T := kd_cne (a := T) (b := i) (by omega) (by omega) c_9
        refine lv_iload_n hx hb dX11_kingsMany_12 rfl (lv_at hl 1 rfl) ?_
        refine lv_aload_n hx hb dX11_kingsMany_13 rfl (lv_at hl 0 rfl) ?_
        refine lv_iload_n hx hb dX11_kingsMany_14 rfl (lv_at hl 2 rfl) ?_
        refine kd_callIK (g := g) (wc := [(mo, .inr (11, [.ref mt, .ref mb, .ref mp, .int (nI qn), .ref mr, .int (nI rm), .int rs, .ref mk, .int (nI zt), .int (nI T), .int go, .int (nI th), .int (nI nh), .ref mw, .ref mc, .ref mn, .ref mx, .int (nI sm), .ref ms, .int se, .ref mv, .int kh, .int kg, .int (nI kt), .int (nI ks), .ref mq, .ref mu, .long hsh])), (mw, .inl (g.2.1 0, 36, .inl rf))]) (va_runV (mc := 0) (ms := 0) (rm := { frames := 0, cells := 0, slots := 0, locals := 0 }) (As := [.int (nI i)]) (rest := [.int (nI a)]) ⟨hx, hb, hml, hown, hts⟩ (c_X11_isKings l g H.size mo mt mb mp qn mr rm rs mk zt T go th nh mw mc mn mx sm ms se mv kh kg kt ks mq mu hsh rf i (by omega)) (cwV 1 hts gX11_kingsMany_X11_isKings rfl rfl rfl (by decide +kernel) ⟨Nat.le_of_ble_eq_true rfl, Nat.le_of_ble_eq_true rfl⟩) (kd_preV (wc := [(mo, .inr (11, [.ref mt, .ref mb, .ref mp, .int (nI qn), .ref mr, .int (nI rm), .int rs, .ref mk, .int (nI zt), .int (nI T), .int go, .int (nI th), .int (nI nh), .ref mw, .ref mc, .ref mn, .ref mx, .int (nI sm), .ref ms, .int se, .ref mv, .int kh, .int kg, .int (nI kt), .int (nI ks), .ref mq, .ref mu, .long hsh])), (mw, .inl (g.2.1 0, 36, .inl rf))]) (va_recv hK hP (ci := 11) (q0 := 0) rfl rfl) hP hD hS hA hK hE [0, 1] rfl (by decide)) rfl rfl hl.1 rfl (lv_room (Nat.le_of_ble_eq_true rfl)) dX11_kingsMany_15 ⟨Nat.le_of_ble_eq_true rfl, Nat.le_of_ble_eq_true rfl⟩) hP hD hS hA [0, 1] rfl (fun r_15 _ H locs hw hP hS => ?_)
        subst hw
        refine lv_if_eq (tgt := 25) hx hb dX11_kingsMany_18 (by decide) (fun c_18 => ?_) (fun c_18 => ?_)
        · refine lv_iconst (v := 0) hx hb dX11_kingsMany_25 (by decide) ?_
          refine lv_iadd hx hb dX11_kingsMany_26 ?_
          refine kd_top (nI_add a 0) ?_
          refine lv_istore_n (lv' := [(1, .int (nI (a + 0))), (0, .ref mo), (2, .int (nI i))]) hx hb dX11_kingsMany_27 rfl hl (by decide) rfl (fun ls hl => ?_)
          refine lv_iinc (v := nI (i + 1)) (lv' := [(2, .int (nI (i + 1))), (1, .int (nI (a + 0))), (0, .ref mo)]) hx hb dX11_kingsMany_28 hl (k := 2) rfl (nI_1 _) (by decide) rfl (fun ls hl => ?_)
          refine lv_goto (tgt := 4) hx hb dX11_kingsMany_31 (by decide) ?_
          exact ih_4 (i + 1) (a + 0) (by omega) (by rw [kd_km, ← ha, if_pos c_18] <;> rfl) (by omega) _ _ hP hD hS ls (lv_sub hl [2, 1, 0] rfl)
        · refine lv_iconst (v := 1) hx hb dX11_kingsMany_21 (by decide) ?_
          refine lv_goto (tgt := 26) hx hb dX11_kingsMany_22 (by decide) ?_
          refine lv_iadd hx hb dX11_kingsMany_26 ?_
          refine kd_top (nI_add a 1) ?_
          refine lv_istore_n (lv' := [(1, .int (nI (a + 1))), (0, .ref mo), (2, .int (nI i))]) hx hb dX11_kingsMany_27 rfl hl (by decide) rfl (fun ls hl => ?_)
          refine lv_iinc (v := nI (i + 1)) (lv' := [(2, .int (nI (i + 1))), (1, .int (nI (a + 1))), (0, .ref mo)]) hx hb dX11_kingsMany_28 hl (k := 2) rfl (nI_1 _) (by decide) rfl (fun ls hl => ?_)
          refine lv_goto (tgt := 4) hx hb dX11_kingsMany_31 (by decide) ?_
          exact ih_4 (i + 1) (a + 1) (by omega) (by rw [kd_km, ← ha, if_neg c_18] <;> rfl) (by omega) _ _ hP hD hS ls (lv_sub hl [2, 1, 0] rfl)
  exact loop_4 ((T - 0) + 1) 0 0 (by omega) rfl (Nat.lt_succ_self _) _ _ hP hD hS ls (lv_sub hl [2, 1, 0] rfl)
set_option maxHeartbeats 4000000 in
set_option maxRecDepth 100000 in
theorem c_X11_wrongMany (l : Launch) (g : kd_G) (sz : Nat) (mo : Nat) (mt : Nat) (mb : Nat) (mp : Nat) (qn : Nat) (mr : Nat) (rm : Nat) (rs : Int32) (mk : Nat) (zt : Nat) (T : Nat) (go : Int32) (th : Nat) (nh : Nat) (mw : Nat) (mc : Nat) (mn : Nat) (mx : Nat) (sm : Nat) (ms : Nat) (se : Int32) (mv : Nat) (kh : Int32) (kg : Int32) (kt : Nat) (ks : Nat) (mq : Nat) (mu : Nat) (hsh : Int64) (rf : Nat → Int32) (hT : T ≤ 6) : kd_MI l yX11_wrongMany wsX11_wrongMany ({ frames := 1, cells := 0, slots := 0, locals := 21 }) [.ref mo] g [(mo, .inr (11, [.ref mt, .ref mb, .ref mp, .int (nI qn), .ref mr, .int (nI rm), .int rs, .ref mk, .int (nI zt), .int (nI T), .int go, .int (nI th), .int (nI nh), .ref mw, .ref mc, .ref mn, .ref mx, .int (nI sm), .ref ms, .int se, .ref mv, .int kh, .int kg, .int (nI kt), .int (nI ks), .ref mq, .ref mu, .long hsh])), (mw, .inl (g.2.1 0, 36, .inl rf))] sz (fun r (_ : Unit) => r = nI (kd_mw rf T)) (fun _ => [(mo, .inr (11, [.ref mt, .ref mb, .ref mp, .int (nI qn), .ref mr, .int (nI rm), .int rs, .ref mk, .int (nI zt), .int (nI T), .int go, .int (nI th), .int (nI nh), .ref mw, .ref mc, .ref mn, .ref mx, .int (nI sm), .ref ms, .int se, .ref mv, .int kh, .int kg, .int (nI kt), .int (nI ks), .ref mq, .ref mu, .long hsh])), (mw, .inl (g.2.1 0, 36, .inl rf))]) 0 0 := by
  refine kd_met (l := l) (y := yX11_wrongMany) (ws := wsX11_wrongMany) (rm := { frames := 1, cells := 0, slots := 0, locals := 21 }) (av := [.ref mo]) (g := g) (WS := [(mo, .inr (11, [.ref mt, .ref mb, .ref mp, .int (nI qn), .ref mr, .int (nI rm), .int rs, .ref mk, .int (nI zt), .int (nI T), .int go, .int (nI th), .int (nI nh), .ref mw, .ref mc, .ref mn, .ref mx, .int (nI sm), .ref ms, .int se, .ref mv, .int kh, .int kg, .int (nI kt), .int (nI ks), .ref mq, .ref mu, .long hsh])), (mw, .inl (g.2.1 0, 36, .inl rf))]) (sz := sz) (mc := 0) (ms := 0) (cc := cX11_wrongMany) (maxL := 3) (ret := (some .int)) (own := RX11) (fun A => va_Qi (fun r (_ : Unit) => r = nI (kd_mw rf T)) (fun u t => kd_post g A [(mo, .inr (11, [.ref mt, .ref mb, .ref mp, .int (nI qn), .ref mr, .int (nI rm), .int rs, .ref mk, .int (nI zt), .int (nI T), .int go, .int (nI th), .int (nI nh), .ref mw, .ref mc, .ref mn, .ref mx, .int (nI sm), .ref ms, .int se, .ref mv, .int kh, .int kg, .int (nI kt), .int (nI ks), .ref mq, .ref mu, .long hsh])), (mw, .inl (g.2.1 0, 36, .inl rf))] t) A) (by decide) rfl rfl (Nat.le_of_ble_eq_true rfl) ?_
  intro p e s m below meth c A ls hx hb hr hml hts hown hlocks hnm hA hP hK hD hS hE hl
  have hl : lv_has ls 3 [(0, .ref mo)] := hl
  have hiX11 : ∀ w ∈ u_ws RX11 TX11 28, w ∈ wsX11_wrongMany := by decide +kernel
  refine lv_iconst (v := 0) hx hb dX11_wrongMany_0 (by decide) ?_
  refine lv_istore_n (lv' := [(1, .int 0), (0, .ref mo)]) hx hb dX11_wrongMany_1 rfl hl (by decide) rfl (fun ls hl => ?_)
  refine lv_iconst (v := 0) hx hb dX11_wrongMany_2 (by decide) ?_
  refine lv_istore_n (lv' := [(2, .int 0), (1, .int 0), (0, .ref mo)]) hx hb dX11_wrongMany_3 rfl hl (by decide) rfl (fun ls hl => ?_)
  have loop_4 : ∀ (n_4 : Nat) (i : Nat) (a : Nat), (i ≤ T) → (a = kd_mw rf i) → (T - i) < n_4 → ∀ (H : Heap) (locs : List Loc), va_P g.1 vwCl [(mo, .inr (11, [.ref mt, .ref mb, .ref mp, .int (nI qn), .ref mr, .int (nI rm), .int rs, .ref mk, .int (nI zt), .int (nI T), .int go, .int (nI th), .int (nI nh), .ref mw, .ref mc, .ref mn, .ref mx, .int (nI sm), .ref ms, .int se, .ref mv, .int kh, .int kg, .int (nI kt), .int (nI ks), .ref mq, .ref mu, .long hsh])), (mw, .inl (g.2.1 0, 36, .inl rf))] H → va_D A [(mo, .inr (11, [.ref mt, .ref mb, .ref mp, .int (nI qn), .ref mr, .int (nI rm), .int rs, .ref mk, .int (nI zt), .int (nI T), .int go, .int (nI th), .int (nI nh), .ref mw, .ref mc, .ref mn, .ref mx, .int (nI sm), .ref ms, .int se, .ref mv, .int kh, .int kg, .int (nI kt), .int (nI ks), .ref mq, .ref mu, .long hsh])), (mw, .inl (g.2.1 0, 36, .inl rf))] → va_S A s.heap H locs → ∀ (ls : Array Slot), lv_has ls 3 [(0, .ref mo), (1, .int (nI a)), (2, .int (nI i))] → W p l e ({ frames := 1, cells := 0, slots := 0, locals := 21 } : Room) s m ([.ref mo] : List Value).toArray below meth c H locs 0 0 (MQ below (va_Qi (fun r (_ : Unit) => r = nI (kd_mw rf T)) (fun u t => kd_post g A [(mo, .inr (11, [.ref mt, .ref mb, .ref mp, .int (nI qn), .ref mr, .int (nI rm), .int rs, .ref mk, .int (nI zt), .int (nI T), .int go, .int (nI th), .int (nI nh), .ref mw, .ref mc, .ref mn, .ref mx, .int (nI sm), .ref ms, .int se, .ref mv, .int kh, .int kg, .int (nI kt), .int (nI ks), .ref mq, .ref mu, .long hsh])), (mw, .inl (g.2.1 0, 36, .inl rf))] t) A) ([.ref mo] : List Value).toArray s 0 0 A) (F0 m 4 ls []) := by
    intro n_4
    induction n_4 with
    | zero => intro i a _ _ hm_4; exact absurd hm_4 (Nat.not_lt_zero _)
    | succ n_4 ih_4 =>
      intro i a hi ha hm_4 H locs hP hD hS ls hl
      refine lv_iload_n hx hb dX11_wrongMany_4 rfl (lv_at hl 2 rfl) ?_
      refine lv_aload_n hx hb dX11_wrongMany_5 rfl (lv_at hl 0 rfl) ?_
      refine va_get (ci := 11) (v := .int (nI T)) (C := RX11) (T := TX11) (N := 28) hx hb hts hiX11 hown hK hP (0) rfl rfl 9 (by decide) (hts (.fieldLink RX11 102 "KingdomAtDiceModel" "things" "I") (by decide +kernel)) (fun _ h9 => h9) rfl dX11_wrongMany_6 ?_
      refine lv_icmp_ge (tgt := 48) hx hb dX11_wrongMany_9 (by decide) (fun c_9 => ?_) (fun c_9 => ?_)
      · have n_9 : T ≤ i := kd_ce (a := T) (b := i) (by omega) (by omega) c_9
        refine lv_iload_n hx hb dX11_wrongMany_48 rfl (lv_at hl 1 rfl) ?_
        exact kd_iret hx hb hr hlocks hK hS dX11_wrongMany_49 (()) (by rw [ha, show i = T by omega]) hP hD
      · have n_9 : i < T := kd_cne (a := T) (b := i) (by omega) (by omega) c_9
        refine lv_iload_n hx hb dX11_wrongMany_12 rfl (lv_at hl 1 rfl) ?_
        refine lv_aload_n hx hb dX11_wrongMany_13 rfl (lv_at hl 0 rfl) ?_
        refine lv_iload_n hx hb dX11_wrongMany_14 rfl (lv_at hl 2 rfl) ?_
        refine kd_callIK (g := g) (wc := [(mo, .inr (11, [.ref mt, .ref mb, .ref mp, .int (nI qn), .ref mr, .int (nI rm), .int rs, .ref mk, .int (nI zt), .int (nI T), .int go, .int (nI th), .int (nI nh), .ref mw, .ref mc, .ref mn, .ref mx, .int (nI sm), .ref ms, .int se, .ref mv, .int kh, .int kg, .int (nI kt), .int (nI ks), .ref mq, .ref mu, .long hsh])), (mw, .inl (g.2.1 0, 36, .inl rf))]) (va_runV (mc := 0) (ms := 0) (rm := { frames := 0, cells := 0, slots := 0, locals := 0 }) (As := [.int (nI i)]) (rest := [.int (nI a)]) ⟨hx, hb, hml, hown, hts⟩ (c_X11_isKings l g H.size mo mt mb mp qn mr rm rs mk zt T go th nh mw mc mn mx sm ms se mv kh kg kt ks mq mu hsh rf i (by omega)) (cwV 1 hts gX11_wrongMany_X11_isKings rfl rfl rfl (by decide +kernel) ⟨Nat.le_of_ble_eq_true rfl, Nat.le_of_ble_eq_true rfl⟩) (kd_preV (wc := [(mo, .inr (11, [.ref mt, .ref mb, .ref mp, .int (nI qn), .ref mr, .int (nI rm), .int rs, .ref mk, .int (nI zt), .int (nI T), .int go, .int (nI th), .int (nI nh), .ref mw, .ref mc, .ref mn, .ref mx, .int (nI sm), .ref ms, .int se, .ref mv, .int kh, .int kg, .int (nI kt), .int (nI ks), .ref mq, .ref mu, .long hsh])), (mw, .inl (g.2.1 0, 36, .inl rf))]) (va_recv hK hP (ci := 11) (q0 := 0) rfl rfl) hP hD hS hA hK hE [0, 1] rfl (by decide)) rfl rfl hl.1 rfl (lv_room (Nat.le_of_ble_eq_true rfl)) dX11_wrongMany_15 ⟨Nat.le_of_ble_eq_true rfl, Nat.le_of_ble_eq_true rfl⟩) hP hD hS hA [0, 1] rfl (fun r_15 _ H locs hw hP hS => ?_)
        subst hw
        refine lv_if_ne (tgt := 39) hx hb dX11_wrongMany_18 (by decide) (fun c_18 => ?_) (fun c_18 => ?_)
        · refine lv_iconst (v := 0) hx hb dX11_wrongMany_39 (by decide) ?_
          refine lv_iadd hx hb dX11_wrongMany_40 ?_
          refine kd_top (nI_add a 0) ?_
          refine lv_istore_n (lv' := [(1, .int (nI (a + 0))), (0, .ref mo), (2, .int (nI i))]) hx hb dX11_wrongMany_41 rfl hl (by decide) rfl (fun ls hl => ?_)
          refine lv_iinc (v := nI (i + 1)) (lv' := [(2, .int (nI (i + 1))), (1, .int (nI (a + 0))), (0, .ref mo)]) hx hb dX11_wrongMany_42 hl (k := 2) rfl (nI_1 _) (by decide) rfl (fun ls hl => ?_)
          refine lv_goto (tgt := 4) hx hb dX11_wrongMany_45 (by decide) ?_
          exact ih_4 (i + 1) (a + 0) (by omega) (by rw [kd_mw, ← ha, if_neg c_18] <;> rfl) (by omega) _ _ hP hD hS ls (lv_sub hl [2, 1, 0] rfl)
        · refine lv_aload_n hx hb dX11_wrongMany_21 rfl (lv_at hl 0 rfl) ?_
          refine va_get (ci := 11) (v := .ref mw) (C := RX11) (T := TX11) (N := 28) hx hb hts hiX11 hown hK hP (0) rfl rfl 13 (by decide) (hts (.fieldLink RX11 25 "KingdomAtDiceModel" "rows" "[I") (by decide +kernel)) (fun _ h9 => h9) rfl dX11_wrongMany_22 ?_
          refine lv_bipush (v := 6) hx hb dX11_wrongMany_25 (by decide) ?_
          refine lv_iload_n hx hb dX11_wrongMany_27 rfl (lv_at hl 2 rfl) ?_
          refine lv_imul hx hb dX11_wrongMany_28 ?_
          refine kd_top (pk_mul 6 i) ?_
          refine lv_iconst (v := 4) hx hb dX11_wrongMany_29 (by decide) ?_
          refine lv_iadd hx hb dX11_wrongMany_30 ?_
          refine kd_top (nI_add (6 * i) 4) ?_
          refine kd_iald hx hb hK hP 1 (k := (6 * i) + 4) rfl (by omega) (by decide) dX11_wrongMany_31 ?_
          refine lv_if_ne (tgt := 39) hx hb dX11_wrongMany_32 (by decide) (fun c_32 => ?_) (fun c_32 => ?_)
          · refine lv_iconst (v := 0) hx hb dX11_wrongMany_39 (by decide) ?_
            refine lv_iadd hx hb dX11_wrongMany_40 ?_
            refine kd_top (nI_add a 0) ?_
            refine lv_istore_n (lv' := [(1, .int (nI (a + 0))), (0, .ref mo), (2, .int (nI i))]) hx hb dX11_wrongMany_41 rfl hl (by decide) rfl (fun ls hl => ?_)
            refine lv_iinc (v := nI (i + 1)) (lv' := [(2, .int (nI (i + 1))), (1, .int (nI (a + 0))), (0, .ref mo)]) hx hb dX11_wrongMany_42 hl (k := 2) rfl (nI_1 _) (by decide) rfl (fun ls hl => ?_)
            refine lv_goto (tgt := 4) hx hb dX11_wrongMany_45 (by decide) ?_
            exact ih_4 (i + 1) (a + 0) (by omega) (by rw [kd_mw, ← ha, if_pos c_18, if_neg c_32] <;> rfl) (by omega) _ _ hP hD hS ls (lv_sub hl [2, 1, 0] rfl)
          · refine lv_iconst (v := 1) hx hb dX11_wrongMany_35 (by decide) ?_
            refine lv_goto (tgt := 40) hx hb dX11_wrongMany_36 (by decide) ?_
            refine lv_iadd hx hb dX11_wrongMany_40 ?_
            refine kd_top (nI_add a 1) ?_
            refine lv_istore_n (lv' := [(1, .int (nI (a + 1))), (0, .ref mo), (2, .int (nI i))]) hx hb dX11_wrongMany_41 rfl hl (by decide) rfl (fun ls hl => ?_)
            refine lv_iinc (v := nI (i + 1)) (lv' := [(2, .int (nI (i + 1))), (1, .int (nI (a + 1))), (0, .ref mo)]) hx hb dX11_wrongMany_42 hl (k := 2) rfl (nI_1 _) (by decide) rfl (fun ls hl => ?_)
            refine lv_goto (tgt := 4) hx hb dX11_wrongMany_45 (by decide) ?_
            exact ih_4 (i + 1) (a + 1) (by omega) (by rw [kd_mw, ← ha, if_pos c_18, if_pos c_32] <;> rfl) (by omega) _ _ hP hD hS ls (lv_sub hl [2, 1, 0] rfl)
  exact loop_4 ((T - 0) + 1) 0 0 (by omega) rfl (Nat.lt_succ_self _) _ _ hP hD hS ls (lv_sub hl [2, 1, 0] rfl)
/-- what KingdomAtDiceModel.countOf answers and leaves, by its instructions -/
def sp_X11_countOf (qn : Nat) (T : Nat) (go : Int32) (th : Nat) (nh : Nat) (sm : Nat) (rf : Nat → Int32) (p0 : Int32) : Int32 :=
  if p0 = 0 then
    nI T
  else
    if p0 = 1 then
      nI (kd_km rf T)
    else
      if p0 = 2 then
        kd_law rf T 0 1
      else
        if p0 = 3 then
          go
        else
          if p0 = 4 then
            nI th
          else
            if p0 = 5 then
              nI (kd_mw rf T)
            else
              if p0 = 6 then
                nI sm
              else
                if p0 = 7 then
                  nI qn
                else
                  if p0 = 8 then
                    nI nh
                  else
                    (-102)
set_option maxHeartbeats 4000000 in
set_option maxRecDepth 100000 in
theorem c_X11_countOf (l : Launch) (g : kd_G) (sz : Nat) (mo : Nat) (mt : Nat) (mb : Nat) (mp : Nat) (qn : Nat) (mr : Nat) (rm : Nat) (rs : Int32) (mk : Nat) (zt : Nat) (T : Nat) (go : Int32) (th : Nat) (nh : Nat) (mw : Nat) (mc : Nat) (mn : Nat) (mx : Nat) (sm : Nat) (ms : Nat) (se : Int32) (mv : Nat) (kh : Int32) (kg : Int32) (kt : Nat) (ks : Nat) (mq : Nat) (mu : Nat) (hsh : Int64) (rf : Nat → Int32) (p0 : Int32) (hT : T ≤ 6) : kd_MI l yX11_countOf wsX11_countOf ({ frames := 3, cells := 0, slots := 0, locals := 71 }) [.ref mo, .int p0] g [(mo, .inr (11, [.ref mt, .ref mb, .ref mp, .int (nI qn), .ref mr, .int (nI rm), .int rs, .ref mk, .int (nI zt), .int (nI T), .int go, .int (nI th), .int (nI nh), .ref mw, .ref mc, .ref mn, .ref mx, .int (nI sm), .ref ms, .int se, .ref mv, .int kh, .int kg, .int (nI kt), .int (nI ks), .ref mq, .ref mu, .long hsh])), (mw, .inl (g.2.1 0, 36, .inl rf))] sz (fun r (_ : Unit) => r = sp_X11_countOf qn T go th nh sm rf p0) (fun _ => [(mo, .inr (11, [.ref mt, .ref mb, .ref mp, .int (nI qn), .ref mr, .int (nI rm), .int rs, .ref mk, .int (nI zt), .int (nI T), .int go, .int (nI th), .int (nI nh), .ref mw, .ref mc, .ref mn, .ref mx, .int (nI sm), .ref ms, .int se, .ref mv, .int kh, .int kg, .int (nI kt), .int (nI ks), .ref mq, .ref mu, .long hsh])), (mw, .inl (g.2.1 0, 36, .inl rf))]) 0 0 := by
  refine kd_met (l := l) (y := yX11_countOf) (ws := wsX11_countOf) (rm := { frames := 3, cells := 0, slots := 0, locals := 71 }) (av := [.ref mo, .int p0]) (g := g) (WS := [(mo, .inr (11, [.ref mt, .ref mb, .ref mp, .int (nI qn), .ref mr, .int (nI rm), .int rs, .ref mk, .int (nI zt), .int (nI T), .int go, .int (nI th), .int (nI nh), .ref mw, .ref mc, .ref mn, .ref mx, .int (nI sm), .ref ms, .int se, .ref mv, .int kh, .int kg, .int (nI kt), .int (nI ks), .ref mq, .ref mu, .long hsh])), (mw, .inl (g.2.1 0, 36, .inl rf))]) (sz := sz) (mc := 0) (ms := 0) (cc := cX11_countOf) (maxL := 2) (ret := (some .int)) (own := RX11) (fun A => va_Qi (fun r (_ : Unit) => r = sp_X11_countOf qn T go th nh sm rf p0) (fun u t => kd_post g A [(mo, .inr (11, [.ref mt, .ref mb, .ref mp, .int (nI qn), .ref mr, .int (nI rm), .int rs, .ref mk, .int (nI zt), .int (nI T), .int go, .int (nI th), .int (nI nh), .ref mw, .ref mc, .ref mn, .ref mx, .int (nI sm), .ref ms, .int se, .ref mv, .int kh, .int kg, .int (nI kt), .int (nI ks), .ref mq, .ref mu, .long hsh])), (mw, .inl (g.2.1 0, 36, .inl rf))] t) A) (by decide) rfl rfl (Nat.le_of_ble_eq_true rfl) ?_
  intro p e s m below meth c A ls hx hb hr hml hts hown hlocks hnm hA hP hK hD hS hE hl
  have hl : lv_has ls 2 [(0, .ref mo), (1, .int p0)] := hl
  have hiX11 : ∀ w ∈ u_ws RX11 TX11 28, w ∈ wsX11_countOf := by decide +kernel
  refine lv_iload_n hx hb dX11_countOf_0 rfl (lv_at hl 1 rfl) ?_
  by_cases c_1_0 : p0 = 0
  · refine lv_tableIn (off := 51) (tgt := 52) hx hb dX11_countOf_1 (by rw [c_1_0]; decide) (by rw [c_1_0]; decide) (by rw [c_1_0]; rfl) (by decide) ?_
    refine lv_aload_n hx hb dX11_countOf_52 rfl (lv_at hl 0 rfl) ?_
    refine va_get (ci := 11) (v := .int (nI T)) (C := RX11) (T := TX11) (N := 28) hx hb hts hiX11 hown hK hP (0) rfl rfl 9 (by decide) (hts (.fieldLink RX11 102 "KingdomAtDiceModel" "things" "I") (by decide +kernel)) (fun _ h9 => h9) rfl dX11_countOf_53 ?_
    exact kd_iret hx hb hr hlocks hK hS dX11_countOf_56 (()) (by rw [sp_X11_countOf, if_pos c_1_0]) hP hD
  · by_cases c_1_1 : p0 = 1
    · refine lv_tableIn (off := 56) (tgt := 57) hx hb dX11_countOf_1 (by rw [c_1_1]; decide) (by rw [c_1_1]; decide) (by rw [c_1_1]; rfl) (by decide) ?_
      refine lv_aload_n hx hb dX11_countOf_57 rfl (lv_at hl 0 rfl) ?_
      refine kd_callIK (g := g) (wc := [(mo, .inr (11, [.ref mt, .ref mb, .ref mp, .int (nI qn), .ref mr, .int (nI rm), .int rs, .ref mk, .int (nI zt), .int (nI T), .int go, .int (nI th), .int (nI nh), .ref mw, .ref mc, .ref mn, .ref mx, .int (nI sm), .ref ms, .int se, .ref mv, .int kh, .int kg, .int (nI kt), .int (nI ks), .ref mq, .ref mu, .long hsh])), (mw, .inl (g.2.1 0, 36, .inl rf))]) (va_runV (mc := 0) (ms := 0) (rm := { frames := 1, cells := 0, slots := 0, locals := 21 }) (As := []) (rest := []) ⟨hx, hb, hml, hown, hts⟩ (c_X11_kingsMany l g s.heap.size mo mt mb mp qn mr rm rs mk zt T go th nh mw mc mn mx sm ms se mv kh kg kt ks mq mu hsh rf hT) (cwV 0 hts gX11_countOf_X11_kingsMany rfl rfl rfl (by decide +kernel) ⟨Nat.le_of_ble_eq_true rfl, Nat.le_of_ble_eq_true rfl⟩) (kd_preV (wc := [(mo, .inr (11, [.ref mt, .ref mb, .ref mp, .int (nI qn), .ref mr, .int (nI rm), .int rs, .ref mk, .int (nI zt), .int (nI T), .int go, .int (nI th), .int (nI nh), .ref mw, .ref mc, .ref mn, .ref mx, .int (nI sm), .ref ms, .int se, .ref mv, .int kh, .int kg, .int (nI kt), .int (nI ks), .ref mq, .ref mu, .long hsh])), (mw, .inl (g.2.1 0, 36, .inl rf))]) (va_recv hK hP (ci := 11) (q0 := 0) rfl rfl) hP hD hS hA hK hE [0, 1] rfl (by decide)) rfl rfl hl.1 rfl (lv_room (Nat.le_of_ble_eq_true rfl)) dX11_countOf_58 ⟨Nat.le_of_ble_eq_true rfl, Nat.le_of_ble_eq_true rfl⟩) hP hD hS hA [0, 1] rfl (fun r_58 _ H locs hw hP hS => ?_)
      obtain rfl : r_58 = nI (kd_km rf T) := hw
      exact kd_iret hx hb hr hlocks hK hS dX11_countOf_61 (()) (by rw [sp_X11_countOf, if_neg c_1_0, if_pos c_1_1]) hP hD
    · by_cases c_1_2 : p0 = 2
      · refine lv_tableIn (off := 61) (tgt := 62) hx hb dX11_countOf_1 (by rw [c_1_2]; decide) (by rw [c_1_2]; decide) (by rw [c_1_2]; rfl) (by decide) ?_
        refine lv_aload_n hx hb dX11_countOf_62 rfl (lv_at hl 0 rfl) ?_
        refine lv_iconst (v := 0) hx hb dX11_countOf_63 (by decide) ?_
        refine lv_iconst (v := 1) hx hb dX11_countOf_64 (by decide) ?_
        refine kd_callIK (g := g) (wc := [(mo, .inr (11, [.ref mt, .ref mb, .ref mp, .int (nI qn), .ref mr, .int (nI rm), .int rs, .ref mk, .int (nI zt), .int (nI T), .int go, .int (nI th), .int (nI nh), .ref mw, .ref mc, .ref mn, .ref mx, .int (nI sm), .ref ms, .int se, .ref mv, .int kh, .int kg, .int (nI kt), .int (nI ks), .ref mq, .ref mu, .long hsh])), (mw, .inl (g.2.1 0, 36, .inl rf))]) (va_runV (mc := 0) (ms := 0) (rm := { frames := 2, cells := 0, slots := 0, locals := 45 }) (As := [.int 0, .int 1]) (rest := []) ⟨hx, hb, hml, hown, hts⟩ (c_X11_lawOf l g s.heap.size mo mt mb mp qn mr rm rs mk zt T go th nh mw mc mn mx sm ms se mv kh kg kt ks mq mu hsh rf 0 1 hT) (cwV 2 hts gX11_countOf_X11_lawOf rfl rfl rfl (by decide +kernel) ⟨Nat.le_of_ble_eq_true rfl, Nat.le_of_ble_eq_true rfl⟩) (kd_preV (wc := [(mo, .inr (11, [.ref mt, .ref mb, .ref mp, .int (nI qn), .ref mr, .int (nI rm), .int rs, .ref mk, .int (nI zt), .int (nI T), .int go, .int (nI th), .int (nI nh), .ref mw, .ref mc, .ref mn, .ref mx, .int (nI sm), .ref ms, .int se, .ref mv, .int kh, .int kg, .int (nI kt), .int (nI ks), .ref mq, .ref mu, .long hsh])), (mw, .inl (g.2.1 0, 36, .inl rf))]) (va_recv hK hP (ci := 11) (q0 := 0) rfl rfl) hP hD hS hA hK hE [0, 1] rfl (by decide)) rfl rfl hl.1 rfl (lv_room (Nat.le_of_ble_eq_true rfl)) dX11_countOf_65 ⟨Nat.le_of_ble_eq_true rfl, Nat.le_of_ble_eq_true rfl⟩) hP hD hS hA [0, 1] rfl (fun r_65 _ H locs hw hP hS => ?_)
        subst hw
        exact kd_iret hx hb hr hlocks hK hS dX11_countOf_68 (()) (by rw [sp_X11_countOf, if_neg c_1_0, if_neg c_1_1, if_pos c_1_2]) hP hD
      · by_cases c_1_3 : p0 = 3
        · refine lv_tableIn (off := 68) (tgt := 69) hx hb dX11_countOf_1 (by rw [c_1_3]; decide) (by rw [c_1_3]; decide) (by rw [c_1_3]; rfl) (by decide) ?_
          refine lv_aload_n hx hb dX11_countOf_69 rfl (lv_at hl 0 rfl) ?_
          refine va_get (ci := 11) (v := .int go) (C := RX11) (T := TX11) (N := 28) hx hb hts hiX11 hown hK hP (0) rfl rfl 10 (by decide) (hts (.fieldLink RX11 109 "KingdomAtDiceModel" "gold" "I") (by decide +kernel)) (fun _ h9 => h9) rfl dX11_countOf_70 ?_
          exact kd_iret hx hb hr hlocks hK hS dX11_countOf_73 (()) (by rw [sp_X11_countOf, if_neg c_1_0, if_neg c_1_1, if_neg c_1_2, if_pos c_1_3]) hP hD
        · by_cases c_1_4 : p0 = 4
          · refine lv_tableIn (off := 73) (tgt := 74) hx hb dX11_countOf_1 (by rw [c_1_4]; decide) (by rw [c_1_4]; decide) (by rw [c_1_4]; rfl) (by decide) ?_
            refine lv_aload_n hx hb dX11_countOf_74 rfl (lv_at hl 0 rfl) ?_
            refine va_get (ci := 11) (v := .int (nI th)) (C := RX11) (T := TX11) (N := 28) hx hb hts hiX11 hown hK hP (0) rfl rfl 11 (by decide) (hts (.fieldLink RX11 112 "KingdomAtDiceModel" "throwsNow" "I") (by decide +kernel)) (fun _ h9 => h9) rfl dX11_countOf_75 ?_
            exact kd_iret hx hb hr hlocks hK hS dX11_countOf_78 (()) (by rw [sp_X11_countOf, if_neg c_1_0, if_neg c_1_1, if_neg c_1_2, if_neg c_1_3, if_pos c_1_4]) hP hD
          · by_cases c_1_5 : p0 = 5
            · refine lv_tableIn (off := 78) (tgt := 79) hx hb dX11_countOf_1 (by rw [c_1_5]; decide) (by rw [c_1_5]; decide) (by rw [c_1_5]; rfl) (by decide) ?_
              refine lv_aload_n hx hb dX11_countOf_79 rfl (lv_at hl 0 rfl) ?_
              refine kd_callIK (g := g) (wc := [(mo, .inr (11, [.ref mt, .ref mb, .ref mp, .int (nI qn), .ref mr, .int (nI rm), .int rs, .ref mk, .int (nI zt), .int (nI T), .int go, .int (nI th), .int (nI nh), .ref mw, .ref mc, .ref mn, .ref mx, .int (nI sm), .ref ms, .int se, .ref mv, .int kh, .int kg, .int (nI kt), .int (nI ks), .ref mq, .ref mu, .long hsh])), (mw, .inl (g.2.1 0, 36, .inl rf))]) (va_runV (mc := 0) (ms := 0) (rm := { frames := 1, cells := 0, slots := 0, locals := 21 }) (As := []) (rest := []) ⟨hx, hb, hml, hown, hts⟩ (c_X11_wrongMany l g s.heap.size mo mt mb mp qn mr rm rs mk zt T go th nh mw mc mn mx sm ms se mv kh kg kt ks mq mu hsh rf hT) (cwV 0 hts gX11_countOf_X11_wrongMany rfl rfl rfl (by decide +kernel) ⟨Nat.le_of_ble_eq_true rfl, Nat.le_of_ble_eq_true rfl⟩) (kd_preV (wc := [(mo, .inr (11, [.ref mt, .ref mb, .ref mp, .int (nI qn), .ref mr, .int (nI rm), .int rs, .ref mk, .int (nI zt), .int (nI T), .int go, .int (nI th), .int (nI nh), .ref mw, .ref mc, .ref mn, .ref mx, .int (nI sm), .ref ms, .int se, .ref mv, .int kh, .int kg, .int (nI kt), .int (nI ks), .ref mq, .ref mu, .long hsh])), (mw, .inl (g.2.1 0, 36, .inl rf))]) (va_recv hK hP (ci := 11) (q0 := 0) rfl rfl) hP hD hS hA hK hE [0, 1] rfl (by decide)) rfl rfl hl.1 rfl (lv_room (Nat.le_of_ble_eq_true rfl)) dX11_countOf_80 ⟨Nat.le_of_ble_eq_true rfl, Nat.le_of_ble_eq_true rfl⟩) hP hD hS hA [0, 1] rfl (fun r_80 _ H locs hw hP hS => ?_)
              obtain rfl : r_80 = nI (kd_mw rf T) := hw
              exact kd_iret hx hb hr hlocks hK hS dX11_countOf_83 (()) (by rw [sp_X11_countOf, if_neg c_1_0, if_neg c_1_1, if_neg c_1_2, if_neg c_1_3, if_neg c_1_4, if_pos c_1_5]) hP hD
            · by_cases c_1_6 : p0 = 6
              · refine lv_tableIn (off := 83) (tgt := 84) hx hb dX11_countOf_1 (by rw [c_1_6]; decide) (by rw [c_1_6]; decide) (by rw [c_1_6]; rfl) (by decide) ?_
                refine lv_aload_n hx hb dX11_countOf_84 rfl (lv_at hl 0 rfl) ?_
                refine va_get (ci := 11) (v := .int (nI sm)) (C := RX11) (T := TX11) (N := 28) hx hb hts hiX11 hown hK hP (0) rfl rfl 17 (by decide) (hts (.fieldLink RX11 115 "KingdomAtDiceModel" "seenMany" "I") (by decide +kernel)) (fun _ h9 => h9) rfl dX11_countOf_85 ?_
                exact kd_iret hx hb hr hlocks hK hS dX11_countOf_88 (()) (by rw [sp_X11_countOf, if_neg c_1_0, if_neg c_1_1, if_neg c_1_2, if_neg c_1_3, if_neg c_1_4, if_neg c_1_5, if_pos c_1_6]) hP hD
              · by_cases c_1_7 : p0 = 7
                · refine lv_tableIn (off := 88) (tgt := 89) hx hb dX11_countOf_1 (by rw [c_1_7]; decide) (by rw [c_1_7]; decide) (by rw [c_1_7]; rfl) (by decide) ?_
                  refine lv_aload_n hx hb dX11_countOf_89 rfl (lv_at hl 0 rfl) ?_
                  refine va_get (ci := 11) (v := .int (nI qn)) (C := RX11) (T := TX11) (N := 28) hx hb hts hiX11 hown hK hP (0) rfl rfl 3 (by decide) (hts (.fieldLink RX11 71 "KingdomAtDiceModel" "pageMany" "I") (by decide +kernel)) (fun _ h9 => h9) rfl dX11_countOf_90 ?_
                  exact kd_iret hx hb hr hlocks hK hS dX11_countOf_93 (()) (by rw [sp_X11_countOf, if_neg c_1_0, if_neg c_1_1, if_neg c_1_2, if_neg c_1_3, if_neg c_1_4, if_neg c_1_5, if_neg c_1_6, if_pos c_1_7]) hP hD
                · by_cases c_1_8 : p0 = 8
                  · refine lv_tableIn (off := 93) (tgt := 94) hx hb dX11_countOf_1 (by rw [c_1_8]; decide) (by rw [c_1_8]; decide) (by rw [c_1_8]; rfl) (by decide) ?_
                    refine lv_aload_n hx hb dX11_countOf_94 rfl (lv_at hl 0 rfl) ?_
                    refine va_get (ci := 11) (v := .int (nI nh)) (C := RX11) (T := TX11) (N := 28) hx hb hts hiX11 hown hK hP (0) rfl rfl 12 (by decide) (hts (.fieldLink RX11 118 "KingdomAtDiceModel" "hallsRead" "I") (by decide +kernel)) (fun _ h9 => h9) rfl dX11_countOf_95 ?_
                    exact kd_iret hx hb hr hlocks hK hS dX11_countOf_98 (()) (by rw [sp_X11_countOf, if_neg c_1_0, if_neg c_1_1, if_neg c_1_2, if_neg c_1_3, if_neg c_1_4, if_neg c_1_5, if_neg c_1_6, if_neg c_1_7, if_pos c_1_8]) hP hD
                  · refine lv_tableOut (tgt := 99) hx hb dX11_countOf_1 (by have z0 := kd_ne2 c_1_0 (k := 0) (by decide); have z1 := kd_ne2 c_1_1 (k := 1) (by decide); have z2 := kd_ne2 c_1_2 (k := 2) (by decide); have z3 := kd_ne2 c_1_3 (k := 3) (by decide); have z4 := kd_ne2 c_1_4 (k := 4) (by decide); have z5 := kd_ne2 c_1_5 (k := 5) (by decide); have z6 := kd_ne2 c_1_6 (k := 6) (by decide); have z7 := kd_ne2 c_1_7 (k := 7) (by decide); have z8 := kd_ne2 c_1_8 (k := 8) (by decide); omega) (by decide) ?_
                    refine lv_bipush (v := (-102)) hx hb dX11_countOf_99 (by decide) ?_
                    exact kd_iret hx hb hr hlocks hK hS dX11_countOf_101 (()) (by rw [sp_X11_countOf, if_neg c_1_0, if_neg c_1_1, if_neg c_1_2, if_neg c_1_3, if_neg c_1_4, if_neg c_1_5, if_neg c_1_6, if_neg c_1_7, if_neg c_1_8]) hP hD
/-- what KingdomAtDiceModel.count answers and leaves, by its instructions -/
def sp_X11_count (qn : Nat) (T : Nat) (go : Int32) (th : Nat) (nh : Nat) (sm : Nat) (rf : Nat → Int32) (p0 : Int32) : Int32 :=
  sp_X11_countOf qn T go th nh sm rf p0
set_option maxHeartbeats 4000000 in
set_option maxRecDepth 100000 in
theorem c_X11_count (l : Launch) (g : kd_G) (sz : Nat) (mo : Nat) (mt : Nat) (mb : Nat) (mp : Nat) (qn : Nat) (mr : Nat) (rm : Nat) (rs : Int32) (mk : Nat) (zt : Nat) (T : Nat) (go : Int32) (th : Nat) (nh : Nat) (mw : Nat) (mc : Nat) (mn : Nat) (mx : Nat) (sm : Nat) (ms : Nat) (se : Int32) (mv : Nat) (kh : Int32) (kg : Int32) (kt : Nat) (ks : Nat) (mq : Nat) (mu : Nat) (hsh : Int64) (rf : Nat → Int32) (p0 : Int32) (hT : T ≤ 6) : kd_MI l yX11_count wsX11_count ({ frames := 4, cells := 0, slots := 0, locals := 92 }) [.ref mo, .int p0] g [(mo, .inr (11, [.ref mt, .ref mb, .ref mp, .int (nI qn), .ref mr, .int (nI rm), .int rs, .ref mk, .int (nI zt), .int (nI T), .int go, .int (nI th), .int (nI nh), .ref mw, .ref mc, .ref mn, .ref mx, .int (nI sm), .ref ms, .int se, .ref mv, .int kh, .int kg, .int (nI kt), .int (nI ks), .ref mq, .ref mu, .long hsh])), (mw, .inl (g.2.1 0, 36, .inl rf))] sz (fun r (_ : Unit) => r = sp_X11_count qn T go th nh sm rf p0) (fun _ => [(mo, .inr (11, [.ref mt, .ref mb, .ref mp, .int (nI qn), .ref mr, .int (nI rm), .int rs, .ref mk, .int (nI zt), .int (nI T), .int go, .int (nI th), .int (nI nh), .ref mw, .ref mc, .ref mn, .ref mx, .int (nI sm), .ref ms, .int se, .ref mv, .int kh, .int kg, .int (nI kt), .int (nI ks), .ref mq, .ref mu, .long hsh])), (mw, .inl (g.2.1 0, 36, .inl rf))]) 0 0 := by
  refine kd_met (l := l) (y := yX11_count) (ws := wsX11_count) (rm := { frames := 4, cells := 0, slots := 0, locals := 92 }) (av := [.ref mo, .int p0]) (g := g) (WS := [(mo, .inr (11, [.ref mt, .ref mb, .ref mp, .int (nI qn), .ref mr, .int (nI rm), .int rs, .ref mk, .int (nI zt), .int (nI T), .int go, .int (nI th), .int (nI nh), .ref mw, .ref mc, .ref mn, .ref mx, .int (nI sm), .ref ms, .int se, .ref mv, .int kh, .int kg, .int (nI kt), .int (nI ks), .ref mq, .ref mu, .long hsh])), (mw, .inl (g.2.1 0, 36, .inl rf))]) (sz := sz) (mc := 0) (ms := 0) (cc := cX11_count) (maxL := 2) (ret := (some .int)) (own := RX11) (fun A => va_Qi (fun r (_ : Unit) => r = sp_X11_count qn T go th nh sm rf p0) (fun u t => kd_post g A [(mo, .inr (11, [.ref mt, .ref mb, .ref mp, .int (nI qn), .ref mr, .int (nI rm), .int rs, .ref mk, .int (nI zt), .int (nI T), .int go, .int (nI th), .int (nI nh), .ref mw, .ref mc, .ref mn, .ref mx, .int (nI sm), .ref ms, .int se, .ref mv, .int kh, .int kg, .int (nI kt), .int (nI ks), .ref mq, .ref mu, .long hsh])), (mw, .inl (g.2.1 0, 36, .inl rf))] t) A) (by decide) rfl rfl (Nat.le_of_ble_eq_true rfl) ?_
  intro p e s m below meth c A ls hx hb hr hml hts hown hlocks hnm hA hP hK hD hS hE hl
  have hl : lv_has ls 2 [(0, .ref mo), (1, .int p0)] := hl
  refine lv_aload_n hx hb dX11_count_0 rfl (lv_at hl 0 rfl) ?_
  refine lv_iload_n hx hb dX11_count_1 rfl (lv_at hl 1 rfl) ?_
  refine kd_callIK (g := g) (wc := [(mo, .inr (11, [.ref mt, .ref mb, .ref mp, .int (nI qn), .ref mr, .int (nI rm), .int rs, .ref mk, .int (nI zt), .int (nI T), .int go, .int (nI th), .int (nI nh), .ref mw, .ref mc, .ref mn, .ref mx, .int (nI sm), .ref ms, .int se, .ref mv, .int kh, .int kg, .int (nI kt), .int (nI ks), .ref mq, .ref mu, .long hsh])), (mw, .inl (g.2.1 0, 36, .inl rf))]) (va_runV (mc := 0) (ms := 0) (rm := { frames := 3, cells := 0, slots := 0, locals := 71 }) (As := [.int p0]) (rest := []) ⟨hx, hb, hml, hown, hts⟩ (c_X11_countOf l g s.heap.size mo mt mb mp qn mr rm rs mk zt T go th nh mw mc mn mx sm ms se mv kh kg kt ks mq mu hsh rf p0 hT) (cwV 1 hts gX11_count_X11_countOf rfl rfl rfl (by decide +kernel) ⟨Nat.le_of_ble_eq_true rfl, Nat.le_of_ble_eq_true rfl⟩) (kd_preV (wc := [(mo, .inr (11, [.ref mt, .ref mb, .ref mp, .int (nI qn), .ref mr, .int (nI rm), .int rs, .ref mk, .int (nI zt), .int (nI T), .int go, .int (nI th), .int (nI nh), .ref mw, .ref mc, .ref mn, .ref mx, .int (nI sm), .ref ms, .int se, .ref mv, .int kh, .int kg, .int (nI kt), .int (nI ks), .ref mq, .ref mu, .long hsh])), (mw, .inl (g.2.1 0, 36, .inl rf))]) (va_recv hK hP (ci := 11) (q0 := 0) rfl rfl) hP hD hS hA hK hE [0, 1] rfl (by decide)) rfl rfl hl.1 rfl (lv_room (Nat.le_of_ble_eq_true rfl)) dX11_count_2 ⟨Nat.le_of_ble_eq_true rfl, Nat.le_of_ble_eq_true rfl⟩) hP hD hS hA [0, 1] rfl (fun r_2 _ H locs hw hP hS => ?_)
  subst hw
  exact kd_iret hx hb hr hlocks hK hS dX11_count_5 (()) (rfl) hP hD

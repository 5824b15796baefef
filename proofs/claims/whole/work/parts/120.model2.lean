theorem kd_z3 {zt : Nat} (h : (nI zt) = 3) : vp_in (nI zt - 3) 2 := by rw [h]; unfold vp_in; decide
theorem kd_z4 {zt : Nat} (h : (nI zt) = 4) : vp_in (nI zt - 3) 2 := by rw [h]; unfold vp_in; decide
/-- what KingdomAtDiceModel.go answers and leaves, by its instructions -/
def sp_X11_go (rm : Nat) (rs : Int32) (zt : Nat) (ef : Nat → Int32) (gf : Nat → Int32) (p0 : Int32) : Int32 × Nat × Int32 × Nat × (Nat → Int32) × (Nat → Int32) :=
  if (nI zt) = 0 then
    if rs = 0 then
      if p0 = 115 then
        if (sp_X11_sortBy p0) = (-1) then
          (0, rm, 1, zt + 1, upd ef (2 * rm) (sp_X11_sortBy p0), gf)
        else
          (1, rm, 1, zt + 1, upd ef (2 * rm) (sp_X11_sortBy p0), gf)
      else
        if (sp_X11_sortBy p0) = (-1) then
          (0, rm, 0, zt + 1, upd ef (2 * rm) (sp_X11_sortBy p0), gf)
        else
          (1, rm, 0, zt + 1, upd ef (2 * rm) (sp_X11_sortBy p0), gf)
    else
      if p0 = 115 then
        if (sp_X11_sortBy p0) = (-1) then
          (0, rm, 1, zt + 1, upd ef (2 * rm) (sp_X11_sortBy p0), gf)
        else
          (0, rm, 1, zt + 1, upd ef (2 * rm) (sp_X11_sortBy p0), gf)
      else
        if (sp_X11_sortBy p0) = (-1) then
          (0, rm, 1, zt + 1, upd ef (2 * rm) (sp_X11_sortBy p0), gf)
        else
          (1, rm, 1, zt + 1, upd ef (2 * rm) (sp_X11_sortBy p0), gf)
  else
    if (nI zt) = 1 then
      (sp_X11_in p0.toInt64 49 57, rm + 1, rs, zt + 1, upd ef ((2 * rm) + 1) (p0 - 48), gf)
    else
      if (nI zt) = 2 then
        if p0 = 44 then
          if 6 ≤ (nI rm) then
            (0, rm, rs, 0, ef, gf)
          else
            (1, rm, rs, 0, ef, gf)
        else
          if p0 = 59 then
            if (nI rm) ≤ 1 then
              (0, rm, rs, 3, ef, gf)
            else
              (1, rm, rs, 3, ef, gf)
          else
            (0, rm, rs, 3, ef, gf)
      else
        if (nI zt) = 3 then
          if (sp_X11_kindBy p0) = (-1) then
            (0, rm, rs, zt + 1, ef, upd gf ((nI zt) - 3).toNatClampNeg (sp_X11_kindBy p0))
          else
            (1, rm, rs, zt + 1, ef, upd gf ((nI zt) - 3).toNatClampNeg (sp_X11_kindBy p0))
        else
          if (nI zt) = 4 then
            if (sp_X11_kindBy p0) = (-1) then
              (0, rm, rs, zt + 1, ef, upd gf ((nI zt) - 3).toNatClampNeg (sp_X11_kindBy p0))
            else
              (1, rm, rs, zt + 1, ef, upd gf ((nI zt) - 3).toNatClampNeg (sp_X11_kindBy p0))
          else
            (0, rm, rs, zt + 1, ef, gf)
set_option maxHeartbeats 4000000 in
set_option maxRecDepth 100000 in
theorem c_X11_go (l : Launch) (g : kd_G) (sz : Nat) (mo : Nat) (mt : Nat) (mb : Nat) (mp : Nat) (qn : Nat) (mr : Nat) (rm : Nat) (rs : Int32) (mk : Nat) (zt : Nat) (T : Nat) (go : Int32) (th : Nat) (nh : Nat) (mw : Nat) (mc : Nat) (mn : Nat) (mx : Nat) (sm : Nat) (ms : Nat) (se : Int32) (mv : Nat) (kh : Int32) (kg : Int32) (kt : Nat) (ks : Nat) (mq : Nat) (mu : Nat) (hsh : Int64) (ef : Nat → Int32) (gf : Nat → Int32) (p0 : Int32) (hzt : zt ≤ 5) (hrm : zt ≤ 1 → rm ≤ 5) (hrm7 : rm ≤ 7) : kd_MI l yX11_go wsX11_go ({ frames := 1, cells := 0, slots := 0, locals := 25 }) [.ref mo, .int p0] g [(mo, .inr (11, [.ref mt, .ref mb, .ref mp, .int (nI qn), .ref mr, .int (nI rm), .int rs, .ref mk, .int (nI zt), .int (nI T), .int go, .int (nI th), .int (nI nh), .ref mw, .ref mc, .ref mn, .ref mx, .int (nI sm), .ref ms, .int se, .ref mv, .int kh, .int kg, .int (nI kt), .int (nI ks), .ref mq, .ref mu, .long hsh])), (mr, .inl (g.2.1 0, 12, .inl ef)), (mk, .inl (g.2.1 0, 2, .inl gf))] sz (fun r (u : Nat × Int32 × Nat × (Nat → Int32) × (Nat → Int32)) => (r, u) = sp_X11_go rm rs zt ef gf p0) (fun u => [(mo, .inr (11, [.ref mt, .ref mb, .ref mp, .int (nI qn), .ref mr, .int (nI u.1), .int u.2.1, .ref mk, .int (nI u.2.2.1), .int (nI T), .int go, .int (nI th), .int (nI nh), .ref mw, .ref mc, .ref mn, .ref mx, .int (nI sm), .ref ms, .int se, .ref mv, .int kh, .int kg, .int (nI kt), .int (nI ks), .ref mq, .ref mu, .long hsh])), (mr, .inl (g.2.1 0, 12, .inl u.2.2.2.1)), (mk, .inl (g.2.1 0, 2, .inl u.2.2.2.2))]) 0 0 := by
  refine kd_met (l := l) (y := yX11_go) (ws := wsX11_go) (rm := { frames := 1, cells := 0, slots := 0, locals := 25 }) (av := [.ref mo, .int p0]) (g := g) (WS := [(mo, .inr (11, [.ref mt, .ref mb, .ref mp, .int (nI qn), .ref mr, .int (nI rm), .int rs, .ref mk, .int (nI zt), .int (nI T), .int go, .int (nI th), .int (nI nh), .ref mw, .ref mc, .ref mn, .ref mx, .int (nI sm), .ref ms, .int se, .ref mv, .int kh, .int kg, .int (nI kt), .int (nI ks), .ref mq, .ref mu, .long hsh])), (mr, .inl (g.2.1 0, 12, .inl ef)), (mk, .inl (g.2.1 0, 2, .inl gf))]) (sz := sz) (mc := 0) (ms := 0) (cc := cX11_go) (maxL := 4) (ret := (some .boolean)) (own := RX11) (fun A => va_Qi (fun r (u : Nat × Int32 × Nat × (Nat → Int32) × (Nat → Int32)) => (r, u) = sp_X11_go rm rs zt ef gf p0) (fun u t => kd_post g A [(mo, .inr (11, [.ref mt, .ref mb, .ref mp, .int (nI qn), .ref mr, .int (nI u.1), .int u.2.1, .ref mk, .int (nI u.2.2.1), .int (nI T), .int go, .int (nI th), .int (nI nh), .ref mw, .ref mc, .ref mn, .ref mx, .int (nI sm), .ref ms, .int se, .ref mv, .int kh, .int kg, .int (nI kt), .int (nI ks), .ref mq, .ref mu, .long hsh])), (mr, .inl (g.2.1 0, 12, .inl u.2.2.2.1)), (mk, .inl (g.2.1 0, 2, .inl u.2.2.2.2))] t) A) (by decide) rfl rfl (Nat.le_of_ble_eq_true rfl) ?_
  intro p e s m below meth c A ls hx hb hr hml hts hown hlocks hnm hA hP hK hD hS hE hl
  have hl : lv_has ls 4 [(0, .ref mo), (1, .int p0)] := hl
  have hiX11 : ∀ w ∈ u_ws RX11 TX11 28, w ∈ wsX11_go := by decide +kernel
  refine lv_aload_n hx hb dX11_go_0 rfl (lv_at hl 0 rfl) ?_
  refine va_get (ci := 11) (v := .int (nI zt)) (C := RX11) (T := TX11) (N := 28) hx hb hts hiX11 hown hK hP (0) rfl rfl 8 (by decide) (hts (.fieldLink RX11 74 "KingdomAtDiceModel" "state" "I") (by decide +kernel)) (fun _ h9 => h9) rfl dX11_go_1 ?_
  refine lv_istore_n (lv' := [(2, .int (nI zt)), (0, .ref mo), (1, .int p0)]) hx hb dX11_go_4 rfl hl (by decide) rfl (fun ls hl => ?_)
  refine lv_aload_n hx hb dX11_go_5 rfl (lv_at hl 1 rfl) ?_
  refine lv_dup hx hb dX11_go_6 rfl ?_
  refine va_get (ci := 11) (v := .int (nI zt)) (C := RX11) (T := TX11) (N := 28) hx hb hts hiX11 hown hK hP (0) rfl rfl 8 (by decide) (hts (.fieldLink RX11 74 "KingdomAtDiceModel" "state" "I") (by decide +kernel)) (fun _ h9 => h9) rfl dX11_go_7 ?_
  refine lv_iconst (v := 1) hx hb dX11_go_10 (by decide) ?_
  refine lv_iadd hx hb dX11_go_11 ?_
  refine kd_top (nI_add zt 1) ?_
  refine va_put (ci := 11) (v := .int (nI (zt + 1))) (ty := .int) (C := RX11) (T := TX11) (N := 28) hx hb hts hiX11 tyX11 tyX11_ok nmX11 hown hK hP hD hS (0) rfl rfl 8 (by decide) (hts (.fieldLink RX11 74 "KingdomAtDiceModel" "state" "I") (by decide +kernel)) (fun _ h9 => h9) rfl (by decide +kernel) rfl rfl (Nat.le_of_ble_eq_true rfl) dX11_go_12 (fun H locs hP hD hS => ?_)
  have hP : va_P g.1 vwCl [(mo, .inr (11, [.ref mt, .ref mb, .ref mp, .int (nI qn), .ref mr, .int (nI rm), .int rs, .ref mk, .int (nI (zt + 1)), .int (nI T), .int go, .int (nI th), .int (nI nh), .ref mw, .ref mc, .ref mn, .ref mx, .int (nI sm), .ref ms, .int se, .ref mv, .int kh, .int kg, .int (nI kt), .int (nI ks), .ref mq, .ref mu, .long hsh])), (mr, .inl (g.2.1 0, 12, .inl ef)), (mk, .inl (g.2.1 0, 2, .inl gf))] H := hP
  have hD : va_D A [(mo, .inr (11, [.ref mt, .ref mb, .ref mp, .int (nI qn), .ref mr, .int (nI rm), .int rs, .ref mk, .int (nI (zt + 1)), .int (nI T), .int go, .int (nI th), .int (nI nh), .ref mw, .ref mc, .ref mn, .ref mx, .int (nI sm), .ref ms, .int se, .ref mv, .int kh, .int kg, .int (nI kt), .int (nI ks), .ref mq, .ref mu, .long hsh])), (mr, .inl (g.2.1 0, 12, .inl ef)), (mk, .inl (g.2.1 0, 2, .inl gf))] := hD
  refine lv_iload_n hx hb dX11_go_15 rfl (lv_at hl 0 rfl) ?_
  by_cases c_16_0 : (nI zt) = 0
  · refine lv_tableIn (off := 36) (tgt := 52) hx hb dX11_go_16 (by rw [c_16_0]; decide) (by rw [c_16_0]; decide) (by rw [c_16_0]; rfl) (by decide) ?_
    refine lv_aload_n hx hb dX11_go_52 rfl (lv_at hl 1 rfl) ?_
    refine va_get (ci := 11) (v := .int rs) (C := RX11) (T := TX11) (N := 28) hx hb hts hiX11 hown hK hP (0) rfl rfl 6 (by decide) (hts (.fieldLink RX11 77 "KingdomAtDiceModel" "readSelf" "Z") (by decide +kernel)) (fun _ h9 => h9) rfl dX11_go_53 ?_
    refine lv_if_eq (tgt := 69) hx hb dX11_go_56 (by decide) (fun c_56 => ?_) (fun c_56 => ?_)
    · refine lv_iconst (v := 0) hx hb dX11_go_69 (by decide) ?_
      refine lv_istore_n (lv' := [(3, .int 0), (2, .int (nI zt)), (0, .ref mo), (1, .int p0)]) hx hb dX11_go_70 rfl hl (by decide) rfl (fun ls hl => ?_)
      refine lv_aload_n hx hb dX11_go_71 rfl (lv_at hl 2 rfl) ?_
      refine va_get (ci := 11) (v := .ref mr) (C := RX11) (T := TX11) (N := 28) hx hb hts hiX11 hown hK hP (0) rfl rfl 4 (by decide) (hts (.fieldLink RX11 19 "KingdomAtDiceModel" "read" "[I") (by decide +kernel)) (fun _ h9 => h9) rfl dX11_go_72 ?_
      refine lv_iconst (v := 2) hx hb dX11_go_75 (by decide) ?_
      refine lv_aload_n hx hb dX11_go_76 rfl (lv_at hl 2 rfl) ?_
      refine va_get (ci := 11) (v := .int (nI rm)) (C := RX11) (T := TX11) (N := 28) hx hb hts hiX11 hown hK hP (0) rfl rfl 5 (by decide) (hts (.fieldLink RX11 81 "KingdomAtDiceModel" "readMany" "I") (by decide +kernel)) (fun _ h9 => h9) rfl dX11_go_77 ?_
      refine lv_imul hx hb dX11_go_80 ?_
      refine kd_top (pk_mul 2 rm) ?_
      refine lv_iload_n hx hb dX11_go_81 rfl (lv_at hl 3 rfl) ?_
      refine kd_callIK (g := g) (wc := []) (va_runS (mc := 0) (ms := 0) (rm := { frames := 0, cells := 0, slots := 0, locals := 0 }) (As := [.int p0]) (rest := [.int (nI (2 * rm)), .ref mr]) ⟨hx, hb, hml, hown, hts⟩ (c_X11_sortBy l g H.size p0 ) (va_cwS 1 hts gX11_go_X11_sortBy rfl rfl rfl (by decide +kernel) ⟨Nat.le_of_ble_eq_true rfl, Nat.le_of_ble_eq_true rfl⟩) (kd_preS (wc := []) (av := [.int p0]) hP hD hS hA hK hE [] rfl (by decide)) rfl rfl hl.1 rfl (lv_room (Nat.le_of_ble_eq_true rfl)) dX11_go_82 ⟨Nat.le_of_ble_eq_true rfl, Nat.le_of_ble_eq_true rfl⟩) hP hD hS hA [] rfl (fun r_82 _ H locs hw hP hS => ?_)
      subst hw
      refine kd_iast hx hb hK hP hD hS 1 (k := 2 * rm) rfl (by have := kd_cq (a := zt) (b := 0) (by omega) (by decide) c_16_0; have := hrm (by omega); omega) (by decide) dX11_go_85 (fun H locs hP hD hS => ?_)
      have hP : va_P g.1 vwCl [(mo, .inr (11, [.ref mt, .ref mb, .ref mp, .int (nI qn), .ref mr, .int (nI rm), .int rs, .ref mk, .int (nI (zt + 1)), .int (nI T), .int go, .int (nI th), .int (nI nh), .ref mw, .ref mc, .ref mn, .ref mx, .int (nI sm), .ref ms, .int se, .ref mv, .int kh, .int kg, .int (nI kt), .int (nI ks), .ref mq, .ref mu, .long hsh])), (mr, .inl (g.2.1 0, 12, .inl (upd ef (2 * rm) (sp_X11_sortBy p0)))), (mk, .inl (g.2.1 0, 2, .inl gf))] H := hP
      have hD : va_D A [(mo, .inr (11, [.ref mt, .ref mb, .ref mp, .int (nI qn), .ref mr, .int (nI rm), .int rs, .ref mk, .int (nI (zt + 1)), .int (nI T), .int go, .int (nI th), .int (nI nh), .ref mw, .ref mc, .ref mn, .ref mx, .int (nI sm), .ref ms, .int se, .ref mv, .int kh, .int kg, .int (nI kt), .int (nI ks), .ref mq, .ref mu, .long hsh])), (mr, .inl (g.2.1 0, 12, .inl (upd ef (2 * rm) (sp_X11_sortBy p0)))), (mk, .inl (g.2.1 0, 2, .inl gf))] := hD
      refine lv_aload_n hx hb dX11_go_86 rfl (lv_at hl 2 rfl) ?_
      refine lv_aload_n hx hb dX11_go_87 rfl (lv_at hl 2 rfl) ?_
      refine va_get (ci := 11) (v := .int rs) (C := RX11) (T := TX11) (N := 28) hx hb hts hiX11 hown hK hP (0) rfl rfl 6 (by decide) (hts (.fieldLink RX11 77 "KingdomAtDiceModel" "readSelf" "Z") (by decide +kernel)) (fun _ h9 => h9) rfl dX11_go_88 ?_
      refine lv_if_ne (tgt := 100) hx hb dX11_go_91 (by decide) (fun z => absurd c_56 z) (fun _ => ?_)
      refine lv_iload_n hx hb dX11_go_94 rfl (lv_at hl 3 rfl) ?_
      refine lv_bipush (v := 115) hx hb dX11_go_95 (by decide) ?_
      refine lv_icmp_ne (tgt := 104) hx hb dX11_go_97 (by decide) (fun c_97 => ?_) (fun c_97 => ?_)
      · refine lv_iconst (v := 0) hx hb dX11_go_104 (by decide) ?_
        refine va_put (ci := 11) (v := .int 0) (ty := .boolean) (C := RX11) (T := TX11) (N := 28) hx hb hts hiX11 tyX11 tyX11_ok nmX11 hown hK hP hD hS (0) rfl rfl 6 (by decide) (hts (.fieldLink RX11 77 "KingdomAtDiceModel" "readSelf" "Z") (by decide +kernel)) (fun _ h9 => h9) rfl (by decide +kernel) rfl rfl (Nat.le_of_ble_eq_true rfl) dX11_go_105 (fun H locs hP hD hS => ?_)
        have hP : va_P g.1 vwCl [(mo, .inr (11, [.ref mt, .ref mb, .ref mp, .int (nI qn), .ref mr, .int (nI rm), .int 0, .ref mk, .int (nI (zt + 1)), .int (nI T), .int go, .int (nI th), .int (nI nh), .ref mw, .ref mc, .ref mn, .ref mx, .int (nI sm), .ref ms, .int se, .ref mv, .int kh, .int kg, .int (nI kt), .int (nI ks), .ref mq, .ref mu, .long hsh])), (mr, .inl (g.2.1 0, 12, .inl (upd ef (2 * rm) (sp_X11_sortBy p0)))), (mk, .inl (g.2.1 0, 2, .inl gf))] H := hP
        have hD : va_D A [(mo, .inr (11, [.ref mt, .ref mb, .ref mp, .int (nI qn), .ref mr, .int (nI rm), .int 0, .ref mk, .int (nI (zt + 1)), .int (nI T), .int go, .int (nI th), .int (nI nh), .ref mw, .ref mc, .ref mn, .ref mx, .int (nI sm), .ref ms, .int se, .ref mv, .int kh, .int kg, .int (nI kt), .int (nI ks), .ref mq, .ref mu, .long hsh])), (mr, .inl (g.2.1 0, 12, .inl (upd ef (2 * rm) (sp_X11_sortBy p0)))), (mk, .inl (g.2.1 0, 2, .inl gf))] := hD
        refine lv_iload_n hx hb dX11_go_108 rfl (lv_at hl 3 rfl) ?_
        refine kd_callIK (g := g) (wc := []) (va_runS (mc := 0) (ms := 0) (rm := { frames := 0, cells := 0, slots := 0, locals := 0 }) (As := [.int p0]) (rest := []) ⟨hx, hb, hml, hown, hts⟩ (c_X11_sortBy l g H.size p0 ) (va_cwS 1 hts gX11_go_X11_sortBy rfl rfl rfl (by decide +kernel) ⟨Nat.le_of_ble_eq_true rfl, Nat.le_of_ble_eq_true rfl⟩) (kd_preS (wc := []) (av := [.int p0]) hP hD hS hA hK hE [] rfl (by decide)) rfl rfl hl.1 rfl (lv_room (Nat.le_of_ble_eq_true rfl)) dX11_go_109 ⟨Nat.le_of_ble_eq_true rfl, Nat.le_of_ble_eq_true rfl⟩) hP hD hS hA [] rfl (fun r_109 _ H locs hw hP hS => ?_)
        subst hw
        refine lv_iconst (v := (-1)) hx hb dX11_go_112 (by decide) ?_
        refine lv_icmp_eq (tgt := 124) hx hb dX11_go_113 (by decide) (fun c_113 => ?_) (fun c_113 => ?_)
        · refine lv_iconst (v := 0) hx hb dX11_go_124 (by decide) ?_
          exact kd_zret hx hb hr hlocks hK hS dX11_go_125 (Or.inl rfl) ((rm, 0, zt + 1, upd ef (2 * rm) (sp_X11_sortBy p0), gf)) (by rw [sp_X11_go, if_pos c_16_0, if_pos c_56, if_neg c_97, if_pos c_113]) hP hD
        · refine lv_iload_n hx hb dX11_go_116 rfl (lv_at hl 0 rfl) ?_
          refine lv_if_ne (tgt := 124) hx hb dX11_go_117 (by decide) (fun z => absurd (by decide) z) (fun _ => ?_)
          refine lv_iconst (v := 1) hx hb dX11_go_120 (by decide) ?_
          refine lv_goto (tgt := 125) hx hb dX11_go_121 (by decide) ?_
          exact kd_zret hx hb hr hlocks hK hS dX11_go_125 (Or.inr rfl) ((rm, 0, zt + 1, upd ef (2 * rm) (sp_X11_sortBy p0), gf)) (by rw [sp_X11_go, if_pos c_16_0, if_pos c_56, if_neg c_97, if_neg c_113]) hP hD
      · refine lv_iconst (v := 1) hx hb dX11_go_100 (by decide) ?_
        refine lv_goto (tgt := 105) hx hb dX11_go_101 (by decide) ?_
        refine va_put (ci := 11) (v := .int 1) (ty := .boolean) (C := RX11) (T := TX11) (N := 28) hx hb hts hiX11 tyX11 tyX11_ok nmX11 hown hK hP hD hS (0) rfl rfl 6 (by decide) (hts (.fieldLink RX11 77 "KingdomAtDiceModel" "readSelf" "Z") (by decide +kernel)) (fun _ h9 => h9) rfl (by decide +kernel) rfl rfl (Nat.le_of_ble_eq_true rfl) dX11_go_105 (fun H locs hP hD hS => ?_)
        have hP : va_P g.1 vwCl [(mo, .inr (11, [.ref mt, .ref mb, .ref mp, .int (nI qn), .ref mr, .int (nI rm), .int 1, .ref mk, .int (nI (zt + 1)), .int (nI T), .int go, .int (nI th), .int (nI nh), .ref mw, .ref mc, .ref mn, .ref mx, .int (nI sm), .ref ms, .int se, .ref mv, .int kh, .int kg, .int (nI kt), .int (nI ks), .ref mq, .ref mu, .long hsh])), (mr, .inl (g.2.1 0, 12, .inl (upd ef (2 * rm) (sp_X11_sortBy p0)))), (mk, .inl (g.2.1 0, 2, .inl gf))] H := hP
        have hD : va_D A [(mo, .inr (11, [.ref mt, .ref mb, .ref mp, .int (nI qn), .ref mr, .int (nI rm), .int 1, .ref mk, .int (nI (zt + 1)), .int (nI T), .int go, .int (nI th), .int (nI nh), .ref mw, .ref mc, .ref mn, .ref mx, .int (nI sm), .ref ms, .int se, .ref mv, .int kh, .int kg, .int (nI kt), .int (nI ks), .ref mq, .ref mu, .long hsh])), (mr, .inl (g.2.1 0, 12, .inl (upd ef (2 * rm) (sp_X11_sortBy p0)))), (mk, .inl (g.2.1 0, 2, .inl gf))] := hD
        refine lv_iload_n hx hb dX11_go_108 rfl (lv_at hl 3 rfl) ?_
        refine kd_callIK (g := g) (wc := []) (va_runS (mc := 0) (ms := 0) (rm := { frames := 0, cells := 0, slots := 0, locals := 0 }) (As := [.int p0]) (rest := []) ⟨hx, hb, hml, hown, hts⟩ (c_X11_sortBy l g H.size p0 ) (va_cwS 1 hts gX11_go_X11_sortBy rfl rfl rfl (by decide +kernel) ⟨Nat.le_of_ble_eq_true rfl, Nat.le_of_ble_eq_true rfl⟩) (kd_preS (wc := []) (av := [.int p0]) hP hD hS hA hK hE [] rfl (by decide)) rfl rfl hl.1 rfl (lv_room (Nat.le_of_ble_eq_true rfl)) dX11_go_109 ⟨Nat.le_of_ble_eq_true rfl, Nat.le_of_ble_eq_true rfl⟩) hP hD hS hA [] rfl (fun r_109 _ H locs hw hP hS => ?_)
        subst hw
        refine lv_iconst (v := (-1)) hx hb dX11_go_112 (by decide) ?_
        refine lv_icmp_eq (tgt := 124) hx hb dX11_go_113 (by decide) (fun c_113 => ?_) (fun c_113 => ?_)
        · refine lv_iconst (v := 0) hx hb dX11_go_124 (by decide) ?_
          exact kd_zret hx hb hr hlocks hK hS dX11_go_125 (Or.inl rfl) ((rm, 1, zt + 1, upd ef (2 * rm) (sp_X11_sortBy p0), gf)) (by rw [sp_X11_go, if_pos c_16_0, if_pos c_56, if_pos c_97, if_pos c_113]) hP hD
        · refine lv_iload_n hx hb dX11_go_116 rfl (lv_at hl 0 rfl) ?_
          refine lv_if_ne (tgt := 124) hx hb dX11_go_117 (by decide) (fun z => absurd (by decide) z) (fun _ => ?_)
          refine lv_iconst (v := 1) hx hb dX11_go_120 (by decide) ?_
          refine lv_goto (tgt := 125) hx hb dX11_go_121 (by decide) ?_
          exact kd_zret hx hb hr hlocks hK hS dX11_go_125 (Or.inr rfl) ((rm, 1, zt + 1, upd ef (2 * rm) (sp_X11_sortBy p0), gf)) (by rw [sp_X11_go, if_pos c_16_0, if_pos c_56, if_pos c_97, if_neg c_113]) hP hD
    · refine lv_iload_n hx hb dX11_go_59 rfl (lv_at hl 2 rfl) ?_
      refine lv_bipush (v := 115) hx hb dX11_go_60 (by decide) ?_
      refine lv_icmp_ne (tgt := 69) hx hb dX11_go_62 (by decide) (fun c_62 => ?_) (fun c_62 => ?_)
      · refine lv_iconst (v := 0) hx hb dX11_go_69 (by decide) ?_
        refine lv_istore_n (lv' := [(3, .int 0), (2, .int (nI zt)), (0, .ref mo), (1, .int p0)]) hx hb dX11_go_70 rfl hl (by decide) rfl (fun ls hl => ?_)
        refine lv_aload_n hx hb dX11_go_71 rfl (lv_at hl 2 rfl) ?_
        refine va_get (ci := 11) (v := .ref mr) (C := RX11) (T := TX11) (N := 28) hx hb hts hiX11 hown hK hP (0) rfl rfl 4 (by decide) (hts (.fieldLink RX11 19 "KingdomAtDiceModel" "read" "[I") (by decide +kernel)) (fun _ h9 => h9) rfl dX11_go_72 ?_
        refine lv_iconst (v := 2) hx hb dX11_go_75 (by decide) ?_
        refine lv_aload_n hx hb dX11_go_76 rfl (lv_at hl 2 rfl) ?_
        refine va_get (ci := 11) (v := .int (nI rm)) (C := RX11) (T := TX11) (N := 28) hx hb hts hiX11 hown hK hP (0) rfl rfl 5 (by decide) (hts (.fieldLink RX11 81 "KingdomAtDiceModel" "readMany" "I") (by decide +kernel)) (fun _ h9 => h9) rfl dX11_go_77 ?_
        refine lv_imul hx hb dX11_go_80 ?_
        refine kd_top (pk_mul 2 rm) ?_
        refine lv_iload_n hx hb dX11_go_81 rfl (lv_at hl 3 rfl) ?_
        refine kd_callIK (g := g) (wc := []) (va_runS (mc := 0) (ms := 0) (rm := { frames := 0, cells := 0, slots := 0, locals := 0 }) (As := [.int p0]) (rest := [.int (nI (2 * rm)), .ref mr]) ⟨hx, hb, hml, hown, hts⟩ (c_X11_sortBy l g H.size p0 ) (va_cwS 1 hts gX11_go_X11_sortBy rfl rfl rfl (by decide +kernel) ⟨Nat.le_of_ble_eq_true rfl, Nat.le_of_ble_eq_true rfl⟩) (kd_preS (wc := []) (av := [.int p0]) hP hD hS hA hK hE [] rfl (by decide)) rfl rfl hl.1 rfl (lv_room (Nat.le_of_ble_eq_true rfl)) dX11_go_82 ⟨Nat.le_of_ble_eq_true rfl, Nat.le_of_ble_eq_true rfl⟩) hP hD hS hA [] rfl (fun r_82 _ H locs hw hP hS => ?_)
        subst hw
        refine kd_iast hx hb hK hP hD hS 1 (k := 2 * rm) rfl (by have := kd_cq (a := zt) (b := 0) (by omega) (by decide) c_16_0; have := hrm (by omega); omega) (by decide) dX11_go_85 (fun H locs hP hD hS => ?_)
        have hP : va_P g.1 vwCl [(mo, .inr (11, [.ref mt, .ref mb, .ref mp, .int (nI qn), .ref mr, .int (nI rm), .int rs, .ref mk, .int (nI (zt + 1)), .int (nI T), .int go, .int (nI th), .int (nI nh), .ref mw, .ref mc, .ref mn, .ref mx, .int (nI sm), .ref ms, .int se, .ref mv, .int kh, .int kg, .int (nI kt), .int (nI ks), .ref mq, .ref mu, .long hsh])), (mr, .inl (g.2.1 0, 12, .inl (upd ef (2 * rm) (sp_X11_sortBy p0)))), (mk, .inl (g.2.1 0, 2, .inl gf))] H := hP
        have hD : va_D A [(mo, .inr (11, [.ref mt, .ref mb, .ref mp, .int (nI qn), .ref mr, .int (nI rm), .int rs, .ref mk, .int (nI (zt + 1)), .int (nI T), .int go, .int (nI th), .int (nI nh), .ref mw, .ref mc, .ref mn, .ref mx, .int (nI sm), .ref ms, .int se, .ref mv, .int kh, .int kg, .int (nI kt), .int (nI ks), .ref mq, .ref mu, .long hsh])), (mr, .inl (g.2.1 0, 12, .inl (upd ef (2 * rm) (sp_X11_sortBy p0)))), (mk, .inl (g.2.1 0, 2, .inl gf))] := hD
        refine lv_aload_n hx hb dX11_go_86 rfl (lv_at hl 2 rfl) ?_
        refine lv_aload_n hx hb dX11_go_87 rfl (lv_at hl 2 rfl) ?_
        refine va_get (ci := 11) (v := .int rs) (C := RX11) (T := TX11) (N := 28) hx hb hts hiX11 hown hK hP (0) rfl rfl 6 (by decide) (hts (.fieldLink RX11 77 "KingdomAtDiceModel" "readSelf" "Z") (by decide +kernel)) (fun _ h9 => h9) rfl dX11_go_88 ?_
        refine lv_if_ne (tgt := 100) hx hb dX11_go_91 (by decide) (fun _ => ?_) (fun z => absurd z c_56)
        refine lv_iconst (v := 1) hx hb dX11_go_100 (by decide) ?_
        refine lv_goto (tgt := 105) hx hb dX11_go_101 (by decide) ?_
        refine va_put (ci := 11) (v := .int 1) (ty := .boolean) (C := RX11) (T := TX11) (N := 28) hx hb hts hiX11 tyX11 tyX11_ok nmX11 hown hK hP hD hS (0) rfl rfl 6 (by decide) (hts (.fieldLink RX11 77 "KingdomAtDiceModel" "readSelf" "Z") (by decide +kernel)) (fun _ h9 => h9) rfl (by decide +kernel) rfl rfl (Nat.le_of_ble_eq_true rfl) dX11_go_105 (fun H locs hP hD hS => ?_)
        have hP : va_P g.1 vwCl [(mo, .inr (11, [.ref mt, .ref mb, .ref mp, .int (nI qn), .ref mr, .int (nI rm), .int 1, .ref mk, .int (nI (zt + 1)), .int (nI T), .int go, .int (nI th), .int (nI nh), .ref mw, .ref mc, .ref mn, .ref mx, .int (nI sm), .ref ms, .int se, .ref mv, .int kh, .int kg, .int (nI kt), .int (nI ks), .ref mq, .ref mu, .long hsh])), (mr, .inl (g.2.1 0, 12, .inl (upd ef (2 * rm) (sp_X11_sortBy p0)))), (mk, .inl (g.2.1 0, 2, .inl gf))] H := hP
        have hD : va_D A [(mo, .inr (11, [.ref mt, .ref mb, .ref mp, .int (nI qn), .ref mr, .int (nI rm), .int 1, .ref mk, .int (nI (zt + 1)), .int (nI T), .int go, .int (nI th), .int (nI nh), .ref mw, .ref mc, .ref mn, .ref mx, .int (nI sm), .ref ms, .int se, .ref mv, .int kh, .int kg, .int (nI kt), .int (nI ks), .ref mq, .ref mu, .long hsh])), (mr, .inl (g.2.1 0, 12, .inl (upd ef (2 * rm) (sp_X11_sortBy p0)))), (mk, .inl (g.2.1 0, 2, .inl gf))] := hD
        refine lv_iload_n hx hb dX11_go_108 rfl (lv_at hl 3 rfl) ?_
        refine kd_callIK (g := g) (wc := []) (va_runS (mc := 0) (ms := 0) (rm := { frames := 0, cells := 0, slots := 0, locals := 0 }) (As := [.int p0]) (rest := []) ⟨hx, hb, hml, hown, hts⟩ (c_X11_sortBy l g H.size p0 ) (va_cwS 1 hts gX11_go_X11_sortBy rfl rfl rfl (by decide +kernel) ⟨Nat.le_of_ble_eq_true rfl, Nat.le_of_ble_eq_true rfl⟩) (kd_preS (wc := []) (av := [.int p0]) hP hD hS hA hK hE [] rfl (by decide)) rfl rfl hl.1 rfl (lv_room (Nat.le_of_ble_eq_true rfl)) dX11_go_109 ⟨Nat.le_of_ble_eq_true rfl, Nat.le_of_ble_eq_true rfl⟩) hP hD hS hA [] rfl (fun r_109 _ H locs hw hP hS => ?_)
        subst hw
        refine lv_iconst (v := (-1)) hx hb dX11_go_112 (by decide) ?_
        refine lv_icmp_eq (tgt := 124) hx hb dX11_go_113 (by decide) (fun c_113 => ?_) (fun c_113 => ?_)
        · refine lv_iconst (v := 0) hx hb dX11_go_124 (by decide) ?_
          exact kd_zret hx hb hr hlocks hK hS dX11_go_125 (Or.inl rfl) ((rm, 1, zt + 1, upd ef (2 * rm) (sp_X11_sortBy p0), gf)) (by rw [sp_X11_go, if_pos c_16_0, if_neg c_56, if_neg c_62, if_pos c_113]) hP hD
        · refine lv_iload_n hx hb dX11_go_116 rfl (lv_at hl 0 rfl) ?_
          refine lv_if_ne (tgt := 124) hx hb dX11_go_117 (by decide) (fun z => absurd (by decide) z) (fun _ => ?_)
          refine lv_iconst (v := 1) hx hb dX11_go_120 (by decide) ?_
          refine lv_goto (tgt := 125) hx hb dX11_go_121 (by decide) ?_
          exact kd_zret hx hb hr hlocks hK hS dX11_go_125 (Or.inr rfl) ((rm, 1, zt + 1, upd ef (2 * rm) (sp_X11_sortBy p0), gf)) (by rw [sp_X11_go, if_pos c_16_0, if_neg c_56, if_neg c_62, if_neg c_113]) hP hD
      · refine lv_iconst (v := 1) hx hb dX11_go_65 (by decide) ?_
        refine lv_goto (tgt := 70) hx hb dX11_go_66 (by decide) ?_
        refine lv_istore_n (lv' := [(3, .int 1), (2, .int (nI zt)), (0, .ref mo), (1, .int p0)]) hx hb dX11_go_70 rfl hl (by decide) rfl (fun ls hl => ?_)
        refine lv_aload_n hx hb dX11_go_71 rfl (lv_at hl 2 rfl) ?_
        refine va_get (ci := 11) (v := .ref mr) (C := RX11) (T := TX11) (N := 28) hx hb hts hiX11 hown hK hP (0) rfl rfl 4 (by decide) (hts (.fieldLink RX11 19 "KingdomAtDiceModel" "read" "[I") (by decide +kernel)) (fun _ h9 => h9) rfl dX11_go_72 ?_
        refine lv_iconst (v := 2) hx hb dX11_go_75 (by decide) ?_
        refine lv_aload_n hx hb dX11_go_76 rfl (lv_at hl 2 rfl) ?_
        refine va_get (ci := 11) (v := .int (nI rm)) (C := RX11) (T := TX11) (N := 28) hx hb hts hiX11 hown hK hP (0) rfl rfl 5 (by decide) (hts (.fieldLink RX11 81 "KingdomAtDiceModel" "readMany" "I") (by decide +kernel)) (fun _ h9 => h9) rfl dX11_go_77 ?_
        refine lv_imul hx hb dX11_go_80 ?_
        refine kd_top (pk_mul 2 rm) ?_
        refine lv_iload_n hx hb dX11_go_81 rfl (lv_at hl 3 rfl) ?_
        refine kd_callIK (g := g) (wc := []) (va_runS (mc := 0) (ms := 0) (rm := { frames := 0, cells := 0, slots := 0, locals := 0 }) (As := [.int p0]) (rest := [.int (nI (2 * rm)), .ref mr]) ⟨hx, hb, hml, hown, hts⟩ (c_X11_sortBy l g H.size p0 ) (va_cwS 1 hts gX11_go_X11_sortBy rfl rfl rfl (by decide +kernel) ⟨Nat.le_of_ble_eq_true rfl, Nat.le_of_ble_eq_true rfl⟩) (kd_preS (wc := []) (av := [.int p0]) hP hD hS hA hK hE [] rfl (by decide)) rfl rfl hl.1 rfl (lv_room (Nat.le_of_ble_eq_true rfl)) dX11_go_82 ⟨Nat.le_of_ble_eq_true rfl, Nat.le_of_ble_eq_true rfl⟩) hP hD hS hA [] rfl (fun r_82 _ H locs hw hP hS => ?_)
        subst hw
        refine kd_iast hx hb hK hP hD hS 1 (k := 2 * rm) rfl (by have := kd_cq (a := zt) (b := 0) (by omega) (by decide) c_16_0; have := hrm (by omega); omega) (by decide) dX11_go_85 (fun H locs hP hD hS => ?_)
        have hP : va_P g.1 vwCl [(mo, .inr (11, [.ref mt, .ref mb, .ref mp, .int (nI qn), .ref mr, .int (nI rm), .int rs, .ref mk, .int (nI (zt + 1)), .int (nI T), .int go, .int (nI th), .int (nI nh), .ref mw, .ref mc, .ref mn, .ref mx, .int (nI sm), .ref ms, .int se, .ref mv, .int kh, .int kg, .int (nI kt), .int (nI ks), .ref mq, .ref mu, .long hsh])), (mr, .inl (g.2.1 0, 12, .inl (upd ef (2 * rm) (sp_X11_sortBy p0)))), (mk, .inl (g.2.1 0, 2, .inl gf))] H := hP
        have hD : va_D A [(mo, .inr (11, [.ref mt, .ref mb, .ref mp, .int (nI qn), .ref mr, .int (nI rm), .int rs, .ref mk, .int (nI (zt + 1)), .int (nI T), .int go, .int (nI th), .int (nI nh), .ref mw, .ref mc, .ref mn, .ref mx, .int (nI sm), .ref ms, .int se, .ref mv, .int kh, .int kg, .int (nI kt), .int (nI ks), .ref mq, .ref mu, .long hsh])), (mr, .inl (g.2.1 0, 12, .inl (upd ef (2 * rm) (sp_X11_sortBy p0)))), (mk, .inl (g.2.1 0, 2, .inl gf))] := hD
        refine lv_aload_n hx hb dX11_go_86 rfl (lv_at hl 2 rfl) ?_
        refine lv_aload_n hx hb dX11_go_87 rfl (lv_at hl 2 rfl) ?_
        refine va_get (ci := 11) (v := .int rs) (C := RX11) (T := TX11) (N := 28) hx hb hts hiX11 hown hK hP (0) rfl rfl 6 (by decide) (hts (.fieldLink RX11 77 "KingdomAtDiceModel" "readSelf" "Z") (by decide +kernel)) (fun _ h9 => h9) rfl dX11_go_88 ?_
        refine lv_if_ne (tgt := 100) hx hb dX11_go_91 (by decide) (fun _ => ?_) (fun z => absurd z c_56)
        refine lv_iconst (v := 1) hx hb dX11_go_100 (by decide) ?_
        refine lv_goto (tgt := 105) hx hb dX11_go_101 (by decide) ?_
        refine va_put (ci := 11) (v := .int 1) (ty := .boolean) (C := RX11) (T := TX11) (N := 28) hx hb hts hiX11 tyX11 tyX11_ok nmX11 hown hK hP hD hS (0) rfl rfl 6 (by decide) (hts (.fieldLink RX11 77 "KingdomAtDiceModel" "readSelf" "Z") (by decide +kernel)) (fun _ h9 => h9) rfl (by decide +kernel) rfl rfl (Nat.le_of_ble_eq_true rfl) dX11_go_105 (fun H locs hP hD hS => ?_)
        have hP : va_P g.1 vwCl [(mo, .inr (11, [.ref mt, .ref mb, .ref mp, .int (nI qn), .ref mr, .int (nI rm), .int 1, .ref mk, .int (nI (zt + 1)), .int (nI T), .int go, .int (nI th), .int (nI nh), .ref mw, .ref mc, .ref mn, .ref mx, .int (nI sm), .ref ms, .int se, .ref mv, .int kh, .int kg, .int (nI kt), .int (nI ks), .ref mq, .ref mu, .long hsh])), (mr, .inl (g.2.1 0, 12, .inl (upd ef (2 * rm) (sp_X11_sortBy p0)))), (mk, .inl (g.2.1 0, 2, .inl gf))] H := hP
        have hD : va_D A [(mo, .inr (11, [.ref mt, .ref mb, .ref mp, .int (nI qn), .ref mr, .int (nI rm), .int 1, .ref mk, .int (nI (zt + 1)), .int (nI T), .int go, .int (nI th), .int (nI nh), .ref mw, .ref mc, .ref mn, .ref mx, .int (nI sm), .ref ms, .int se, .ref mv, .int kh, .int kg, .int (nI kt), .int (nI ks), .ref mq, .ref mu, .long hsh])), (mr, .inl (g.2.1 0, 12, .inl (upd ef (2 * rm) (sp_X11_sortBy p0)))), (mk, .inl (g.2.1 0, 2, .inl gf))] := hD
        refine lv_iload_n hx hb dX11_go_108 rfl (lv_at hl 3 rfl) ?_
        refine kd_callIK (g := g) (wc := []) (va_runS (mc := 0) (ms := 0) (rm := { frames := 0, cells := 0, slots := 0, locals := 0 }) (As := [.int p0]) (rest := []) ⟨hx, hb, hml, hown, hts⟩ (c_X11_sortBy l g H.size p0 ) (va_cwS 1 hts gX11_go_X11_sortBy rfl rfl rfl (by decide +kernel) ⟨Nat.le_of_ble_eq_true rfl, Nat.le_of_ble_eq_true rfl⟩) (kd_preS (wc := []) (av := [.int p0]) hP hD hS hA hK hE [] rfl (by decide)) rfl rfl hl.1 rfl (lv_room (Nat.le_of_ble_eq_true rfl)) dX11_go_109 ⟨Nat.le_of_ble_eq_true rfl, Nat.le_of_ble_eq_true rfl⟩) hP hD hS hA [] rfl (fun r_109 _ H locs hw hP hS => ?_)
        subst hw
        refine lv_iconst (v := (-1)) hx hb dX11_go_112 (by decide) ?_
        refine lv_icmp_eq (tgt := 124) hx hb dX11_go_113 (by decide) (fun c_113 => ?_) (fun c_113 => ?_)
        · refine lv_iconst (v := 0) hx hb dX11_go_124 (by decide) ?_
          exact kd_zret hx hb hr hlocks hK hS dX11_go_125 (Or.inl rfl) ((rm, 1, zt + 1, upd ef (2 * rm) (sp_X11_sortBy p0), gf)) (by rw [sp_X11_go, if_pos c_16_0, if_neg c_56, if_pos c_62, if_pos c_113]) hP hD
        · refine lv_iload_n hx hb dX11_go_116 rfl (lv_at hl 0 rfl) ?_
          refine lv_if_ne (tgt := 124) hx hb dX11_go_117 (by decide) (fun _ => ?_) (fun z => absurd z (by decide))
          refine lv_iconst (v := 0) hx hb dX11_go_124 (by decide) ?_
          exact kd_zret hx hb hr hlocks hK hS dX11_go_125 (Or.inl rfl) ((rm, 1, zt + 1, upd ef (2 * rm) (sp_X11_sortBy p0), gf)) (by rw [sp_X11_go, if_pos c_16_0, if_neg c_56, if_pos c_62, if_neg c_113]) hP hD
  · by_cases c_16_1 : (nI zt) = 1
    · refine lv_tableIn (off := 110) (tgt := 126) hx hb dX11_go_16 (by rw [c_16_1]; decide) (by rw [c_16_1]; decide) (by rw [c_16_1]; rfl) (by decide) ?_
      refine lv_aload_n hx hb dX11_go_126 rfl (lv_at hl 1 rfl) ?_
      refine va_get (ci := 11) (v := .ref mr) (C := RX11) (T := TX11) (N := 28) hx hb hts hiX11 hown hK hP (0) rfl rfl 4 (by decide) (hts (.fieldLink RX11 19 "KingdomAtDiceModel" "read" "[I") (by decide +kernel)) (fun _ h9 => h9) rfl dX11_go_127 ?_
      refine lv_iconst (v := 2) hx hb dX11_go_130 (by decide) ?_
      refine lv_aload_n hx hb dX11_go_131 rfl (lv_at hl 1 rfl) ?_
      refine va_get (ci := 11) (v := .int (nI rm)) (C := RX11) (T := TX11) (N := 28) hx hb hts hiX11 hown hK hP (0) rfl rfl 5 (by decide) (hts (.fieldLink RX11 81 "KingdomAtDiceModel" "readMany" "I") (by decide +kernel)) (fun _ h9 => h9) rfl dX11_go_132 ?_
      refine lv_imul hx hb dX11_go_135 ?_
      refine kd_top (pk_mul 2 rm) ?_
      refine lv_iconst (v := 1) hx hb dX11_go_136 (by decide) ?_
      refine lv_iadd hx hb dX11_go_137 ?_
      refine kd_top (nI_add (2 * rm) 1) ?_
      refine lv_iload_n hx hb dX11_go_138 rfl (lv_at hl 2 rfl) ?_
      refine lv_bipush (v := 48) hx hb dX11_go_139 (by decide) ?_
      refine lv_isub hx hb dX11_go_141 ?_
      refine kd_iast hx hb hK hP hD hS 1 (k := (2 * rm) + 1) rfl (by have := kd_cq (a := zt) (b := 1) (by omega) (by decide) c_16_1; have := hrm (by omega); omega) (by decide) dX11_go_142 (fun H locs hP hD hS => ?_)
      have hP : va_P g.1 vwCl [(mo, .inr (11, [.ref mt, .ref mb, .ref mp, .int (nI qn), .ref mr, .int (nI rm), .int rs, .ref mk, .int (nI (zt + 1)), .int (nI T), .int go, .int (nI th), .int (nI nh), .ref mw, .ref mc, .ref mn, .ref mx, .int (nI sm), .ref ms, .int se, .ref mv, .int kh, .int kg, .int (nI kt), .int (nI ks), .ref mq, .ref mu, .long hsh])), (mr, .inl (g.2.1 0, 12, .inl (upd ef ((2 * rm) + 1) (p0 - 48)))), (mk, .inl (g.2.1 0, 2, .inl gf))] H := hP
      have hD : va_D A [(mo, .inr (11, [.ref mt, .ref mb, .ref mp, .int (nI qn), .ref mr, .int (nI rm), .int rs, .ref mk, .int (nI (zt + 1)), .int (nI T), .int go, .int (nI th), .int (nI nh), .ref mw, .ref mc, .ref mn, .ref mx, .int (nI sm), .ref ms, .int se, .ref mv, .int kh, .int kg, .int (nI kt), .int (nI ks), .ref mq, .ref mu, .long hsh])), (mr, .inl (g.2.1 0, 12, .inl (upd ef ((2 * rm) + 1) (p0 - 48)))), (mk, .inl (g.2.1 0, 2, .inl gf))] := hD
      refine lv_aload_n hx hb dX11_go_143 rfl (lv_at hl 1 rfl) ?_
      refine lv_dup hx hb dX11_go_144 rfl ?_
      refine va_get (ci := 11) (v := .int (nI rm)) (C := RX11) (T := TX11) (N := 28) hx hb hts hiX11 hown hK hP (0) rfl rfl 5 (by decide) (hts (.fieldLink RX11 81 "KingdomAtDiceModel" "readMany" "I") (by decide +kernel)) (fun _ h9 => h9) rfl dX11_go_145 ?_
      refine lv_iconst (v := 1) hx hb dX11_go_148 (by decide) ?_
      refine lv_iadd hx hb dX11_go_149 ?_
      refine kd_top (nI_add rm 1) ?_
      refine va_put (ci := 11) (v := .int (nI (rm + 1))) (ty := .int) (C := RX11) (T := TX11) (N := 28) hx hb hts hiX11 tyX11 tyX11_ok nmX11 hown hK hP hD hS (0) rfl rfl 5 (by decide) (hts (.fieldLink RX11 81 "KingdomAtDiceModel" "readMany" "I") (by decide +kernel)) (fun _ h9 => h9) rfl (by decide +kernel) rfl rfl (Nat.le_of_ble_eq_true rfl) dX11_go_150 (fun H locs hP hD hS => ?_)
      have hP : va_P g.1 vwCl [(mo, .inr (11, [.ref mt, .ref mb, .ref mp, .int (nI qn), .ref mr, .int (nI (rm + 1)), .int rs, .ref mk, .int (nI (zt + 1)), .int (nI T), .int go, .int (nI th), .int (nI nh), .ref mw, .ref mc, .ref mn, .ref mx, .int (nI sm), .ref ms, .int se, .ref mv, .int kh, .int kg, .int (nI kt), .int (nI ks), .ref mq, .ref mu, .long hsh])), (mr, .inl (g.2.1 0, 12, .inl (upd ef ((2 * rm) + 1) (p0 - 48)))), (mk, .inl (g.2.1 0, 2, .inl gf))] H := hP
      have hD : va_D A [(mo, .inr (11, [.ref mt, .ref mb, .ref mp, .int (nI qn), .ref mr, .int (nI (rm + 1)), .int rs, .ref mk, .int (nI (zt + 1)), .int (nI T), .int go, .int (nI th), .int (nI nh), .ref mw, .ref mc, .ref mn, .ref mx, .int (nI sm), .ref ms, .int se, .ref mv, .int kh, .int kg, .int (nI kt), .int (nI ks), .ref mq, .ref mu, .long hsh])), (mr, .inl (g.2.1 0, 12, .inl (upd ef ((2 * rm) + 1) (p0 - 48)))), (mk, .inl (g.2.1 0, 2, .inl gf))] := hD
      refine lv_iload_n hx hb dX11_go_153 rfl (lv_at hl 2 rfl) ?_
      refine lv_i2l hx hb dX11_go_154 rfl ?_
      refine lv_ldc2 (v := 49) hx hb hown (hts (.constantLong RX11 87 49) (by decide +kernel)) dX11_go_155 ?_
      refine lv_ldc2 (v := 57) hx hb hown (hts (.constantLong RX11 89 57) (by decide +kernel)) dX11_go_158 ?_
      refine kd_callIK (g := g) (wc := []) (va_runS (mc := 0) (ms := 0) (rm := { frames := 0, cells := 0, slots := 0, locals := 0 }) (As := [.long p0.toInt64, .long 49, .long 57]) (rest := []) ⟨hx, hb, hml, hown, hts⟩ (c_X11_in l g H.size p0.toInt64 49 57 ) (va_cwS 3 hts gX11_go_X11_in rfl rfl rfl (by decide +kernel) ⟨Nat.le_of_ble_eq_true rfl, Nat.le_of_ble_eq_true rfl⟩) (kd_preS (wc := []) (av := [.long p0.toInt64, .long 49, .long 57]) hP hD hS hA hK hE [] rfl (by decide)) rfl rfl hl.1 rfl (lv_room (Nat.le_of_ble_eq_true rfl)) dX11_go_161 ⟨Nat.le_of_ble_eq_true rfl, Nat.le_of_ble_eq_true rfl⟩) hP hD hS hA [] rfl (fun r_161 _ H locs hw hP hS => ?_)
      subst hw
      exact kd_zret hx hb hr hlocks hK hS dX11_go_164 (zb_X11_in _ _ _) ((rm + 1, rs, zt + 1, upd ef ((2 * rm) + 1) (p0 - 48), gf)) (by rw [sp_X11_go, if_neg c_16_0, if_pos c_16_1]) hP hD
    · by_cases c_16_2 : (nI zt) = 2
      · refine lv_tableIn (off := 149) (tgt := 165) hx hb dX11_go_16 (by rw [c_16_2]; decide) (by rw [c_16_2]; decide) (by rw [c_16_2]; rfl) (by decide) ?_
        refine lv_aload_n hx hb dX11_go_165 rfl (lv_at hl 1 rfl) ?_
        refine lv_iload_n hx hb dX11_go_166 rfl (lv_at hl 2 rfl) ?_
        refine lv_bipush (v := 44) hx hb dX11_go_167 (by decide) ?_
        refine lv_icmp_ne (tgt := 176) hx hb dX11_go_169 (by decide) (fun c_169 => ?_) (fun c_169 => ?_)
        · refine lv_iconst (v := 3) hx hb dX11_go_176 (by decide) ?_
          refine va_put (ci := 11) (v := .int 3) (ty := .int) (C := RX11) (T := TX11) (N := 28) hx hb hts hiX11 tyX11 tyX11_ok nmX11 hown hK hP hD hS (0) rfl rfl 8 (by decide) (hts (.fieldLink RX11 74 "KingdomAtDiceModel" "state" "I") (by decide +kernel)) (fun _ h9 => h9) rfl (by decide +kernel) rfl rfl (Nat.le_of_ble_eq_true rfl) dX11_go_177 (fun H locs hP hD hS => ?_)
          have hP : va_P g.1 vwCl [(mo, .inr (11, [.ref mt, .ref mb, .ref mp, .int (nI qn), .ref mr, .int (nI rm), .int rs, .ref mk, .int 3, .int (nI T), .int go, .int (nI th), .int (nI nh), .ref mw, .ref mc, .ref mn, .ref mx, .int (nI sm), .ref ms, .int se, .ref mv, .int kh, .int kg, .int (nI kt), .int (nI ks), .ref mq, .ref mu, .long hsh])), (mr, .inl (g.2.1 0, 12, .inl ef)), (mk, .inl (g.2.1 0, 2, .inl gf))] H := hP
          have hD : va_D A [(mo, .inr (11, [.ref mt, .ref mb, .ref mp, .int (nI qn), .ref mr, .int (nI rm), .int rs, .ref mk, .int 3, .int (nI T), .int go, .int (nI th), .int (nI nh), .ref mw, .ref mc, .ref mn, .ref mx, .int (nI sm), .ref ms, .int se, .ref mv, .int kh, .int kg, .int (nI kt), .int (nI ks), .ref mq, .ref mu, .long hsh])), (mr, .inl (g.2.1 0, 12, .inl ef)), (mk, .inl (g.2.1 0, 2, .inl gf))] := hD
          refine lv_iload_n hx hb dX11_go_180 rfl (lv_at hl 2 rfl) ?_
          refine lv_bipush (v := 44) hx hb dX11_go_181 (by decide) ?_
          refine lv_icmp_ne (tgt := 203) hx hb dX11_go_183 (by decide) (fun _ => ?_) (fun z => absurd z c_169)
          refine lv_iload_n hx hb dX11_go_203 rfl (lv_at hl 2 rfl) ?_
          refine lv_bipush (v := 59) hx hb dX11_go_204 (by decide) ?_
          refine lv_icmp_ne (tgt := 221) hx hb dX11_go_206 (by decide) (fun c_206 => ?_) (fun c_206 => ?_)
          · refine lv_iconst (v := 0) hx hb dX11_go_221 (by decide) ?_
            exact kd_zret hx hb hr hlocks hK hS dX11_go_222 (Or.inl rfl) ((rm, rs, 3, ef, gf)) (by rw [sp_X11_go, if_neg c_16_0, if_neg c_16_1, if_pos c_16_2, if_neg c_169, if_neg c_206]) hP hD
          · refine lv_aload_n hx hb dX11_go_209 rfl (lv_at hl 1 rfl) ?_
            refine va_get (ci := 11) (v := .int (nI rm)) (C := RX11) (T := TX11) (N := 28) hx hb hts hiX11 hown hK hP (0) rfl rfl 5 (by decide) (hts (.fieldLink RX11 81 "KingdomAtDiceModel" "readMany" "I") (by decide +kernel)) (fun _ h9 => h9) rfl dX11_go_210 ?_
            refine lv_iconst (v := 1) hx hb dX11_go_213 (by decide) ?_
            refine lv_icmp_le (tgt := 221) hx hb dX11_go_214 (by decide) (fun c_214 => ?_) (fun c_214 => ?_)
            · have n_214 : rm ≤ 1 := kd_ce (a := rm) (b := 1) (by omega) (by omega) c_214
              refine lv_iconst (v := 0) hx hb dX11_go_221 (by decide) ?_
              exact kd_zret hx hb hr hlocks hK hS dX11_go_222 (Or.inl rfl) ((rm, rs, 3, ef, gf)) (by rw [sp_X11_go, if_neg c_16_0, if_neg c_16_1, if_pos c_16_2, if_neg c_169, if_pos c_206, if_pos c_214]) hP hD
            · have n_214 : 1 < rm := kd_cne (a := rm) (b := 1) (by omega) (by omega) c_214
              refine lv_iconst (v := 1) hx hb dX11_go_217 (by decide) ?_
              refine lv_goto (tgt := 222) hx hb dX11_go_218 (by decide) ?_
              exact kd_zret hx hb hr hlocks hK hS dX11_go_222 (Or.inr rfl) ((rm, rs, 3, ef, gf)) (by rw [sp_X11_go, if_neg c_16_0, if_neg c_16_1, if_pos c_16_2, if_neg c_169, if_pos c_206, if_neg c_214]) hP hD
        · refine lv_iconst (v := 0) hx hb dX11_go_172 (by decide) ?_
          refine lv_goto (tgt := 177) hx hb dX11_go_173 (by decide) ?_
          refine va_put (ci := 11) (v := .int 0) (ty := .int) (C := RX11) (T := TX11) (N := 28) hx hb hts hiX11 tyX11 tyX11_ok nmX11 hown hK hP hD hS (0) rfl rfl 8 (by decide) (hts (.fieldLink RX11 74 "KingdomAtDiceModel" "state" "I") (by decide +kernel)) (fun _ h9 => h9) rfl (by decide +kernel) rfl rfl (Nat.le_of_ble_eq_true rfl) dX11_go_177 (fun H locs hP hD hS => ?_)
          have hP : va_P g.1 vwCl [(mo, .inr (11, [.ref mt, .ref mb, .ref mp, .int (nI qn), .ref mr, .int (nI rm), .int rs, .ref mk, .int 0, .int (nI T), .int go, .int (nI th), .int (nI nh), .ref mw, .ref mc, .ref mn, .ref mx, .int (nI sm), .ref ms, .int se, .ref mv, .int kh, .int kg, .int (nI kt), .int (nI ks), .ref mq, .ref mu, .long hsh])), (mr, .inl (g.2.1 0, 12, .inl ef)), (mk, .inl (g.2.1 0, 2, .inl gf))] H := hP
          have hD : va_D A [(mo, .inr (11, [.ref mt, .ref mb, .ref mp, .int (nI qn), .ref mr, .int (nI rm), .int rs, .ref mk, .int 0, .int (nI T), .int go, .int (nI th), .int (nI nh), .ref mw, .ref mc, .ref mn, .ref mx, .int (nI sm), .ref ms, .int se, .ref mv, .int kh, .int kg, .int (nI kt), .int (nI ks), .ref mq, .ref mu, .long hsh])), (mr, .inl (g.2.1 0, 12, .inl ef)), (mk, .inl (g.2.1 0, 2, .inl gf))] := hD
          refine lv_iload_n hx hb dX11_go_180 rfl (lv_at hl 2 rfl) ?_
          refine lv_bipush (v := 44) hx hb dX11_go_181 (by decide) ?_
          refine lv_icmp_ne (tgt := 203) hx hb dX11_go_183 (by decide) (fun z => absurd c_169 z) (fun _ => ?_)
          refine lv_aload_n hx hb dX11_go_186 rfl (lv_at hl 1 rfl) ?_
          refine va_get (ci := 11) (v := .int (nI rm)) (C := RX11) (T := TX11) (N := 28) hx hb hts hiX11 hown hK hP (0) rfl rfl 5 (by decide) (hts (.fieldLink RX11 81 "KingdomAtDiceModel" "readMany" "I") (by decide +kernel)) (fun _ h9 => h9) rfl dX11_go_187 ?_
          refine lv_bipush (v := 6) hx hb dX11_go_190 (by decide) ?_
          refine lv_icmp_ge (tgt := 199) hx hb dX11_go_192 (by decide) (fun c_192 => ?_) (fun c_192 => ?_)
          · have n_192 : 6 ≤ rm := kd_ce (a := 6) (b := rm) (by omega) (by omega) c_192
            refine lv_iconst (v := 0) hx hb dX11_go_199 (by decide) ?_
            refine lv_goto (tgt := 222) hx hb dX11_go_200 (by decide) ?_
            exact kd_zret hx hb hr hlocks hK hS dX11_go_222 (Or.inl rfl) ((rm, rs, 0, ef, gf)) (by rw [sp_X11_go, if_neg c_16_0, if_neg c_16_1, if_pos c_16_2, if_pos c_169, if_pos c_192]) hP hD
          · have n_192 : rm < 6 := kd_cne (a := 6) (b := rm) (by omega) (by omega) c_192
            refine lv_iconst (v := 1) hx hb dX11_go_195 (by decide) ?_
            refine lv_goto (tgt := 222) hx hb dX11_go_196 (by decide) ?_
            exact kd_zret hx hb hr hlocks hK hS dX11_go_222 (Or.inr rfl) ((rm, rs, 0, ef, gf)) (by rw [sp_X11_go, if_neg c_16_0, if_neg c_16_1, if_pos c_16_2, if_pos c_169, if_neg c_192]) hP hD
      · by_cases c_16_3 : (nI zt) = 3
        · refine lv_tableIn (off := 207) (tgt := 223) hx hb dX11_go_16 (by rw [c_16_3]; decide) (by rw [c_16_3]; decide) (by rw [c_16_3]; rfl) (by decide) ?_
          refine lv_aload_n hx hb dX11_go_223 rfl (lv_at hl 1 rfl) ?_
          refine va_get (ci := 11) (v := .ref mk) (C := RX11) (T := TX11) (N := 28) hx hb hts hiX11 hown hK hP (0) rfl rfl 7 (by decide) (hts (.fieldLink RX11 22 "KingdomAtDiceModel" "readKinds" "[I") (by decide +kernel)) (fun _ h9 => h9) rfl dX11_go_224 ?_
          refine lv_iload_n hx hb dX11_go_227 rfl (lv_at hl 0 rfl) ?_
          refine lv_iconst (v := 3) hx hb dX11_go_228 (by decide) ?_
          refine lv_isub hx hb dX11_go_229 ?_
          refine lv_iload_n hx hb dX11_go_230 rfl (lv_at hl 2 rfl) ?_
          refine kd_callIK (g := g) (wc := []) (va_runS (mc := 0) (ms := 0) (rm := { frames := 0, cells := 0, slots := 0, locals := 0 }) (As := [.int p0]) (rest := [.int ((nI zt) - 3), .ref mk]) ⟨hx, hb, hml, hown, hts⟩ (c_X11_kindBy l g H.size p0 ) (va_cwS 1 hts gX11_go_X11_kindBy rfl rfl rfl (by decide +kernel) ⟨Nat.le_of_ble_eq_true rfl, Nat.le_of_ble_eq_true rfl⟩) (kd_preS (wc := []) (av := [.int p0]) hP hD hS hA hK hE [] rfl (by decide)) rfl rfl hl.1 rfl (lv_room (Nat.le_of_ble_eq_true rfl)) dX11_go_231 ⟨Nat.le_of_ble_eq_true rfl, Nat.le_of_ble_eq_true rfl⟩) hP hD hS hA [] rfl (fun r_231 _ H locs hw hP hS => ?_)
          subst hw
          refine va_iast hx hb hK hP hD hS 2 0 rfl rfl (kd_z3 c_16_3) dX11_go_234 (fun H locs hP hD hS => ?_)
          have hP : va_P g.1 vwCl [(mo, .inr (11, [.ref mt, .ref mb, .ref mp, .int (nI qn), .ref mr, .int (nI rm), .int rs, .ref mk, .int (nI (zt + 1)), .int (nI T), .int go, .int (nI th), .int (nI nh), .ref mw, .ref mc, .ref mn, .ref mx, .int (nI sm), .ref ms, .int se, .ref mv, .int kh, .int kg, .int (nI kt), .int (nI ks), .ref mq, .ref mu, .long hsh])), (mr, .inl (g.2.1 0, 12, .inl ef)), (mk, .inl (g.2.1 0, 2, .inl (upd gf ((nI zt) - 3).toNatClampNeg (sp_X11_kindBy p0))))] H := hP
          have hD : va_D A [(mo, .inr (11, [.ref mt, .ref mb, .ref mp, .int (nI qn), .ref mr, .int (nI rm), .int rs, .ref mk, .int (nI (zt + 1)), .int (nI T), .int go, .int (nI th), .int (nI nh), .ref mw, .ref mc, .ref mn, .ref mx, .int (nI sm), .ref ms, .int se, .ref mv, .int kh, .int kg, .int (nI kt), .int (nI ks), .ref mq, .ref mu, .long hsh])), (mr, .inl (g.2.1 0, 12, .inl ef)), (mk, .inl (g.2.1 0, 2, .inl (upd gf ((nI zt) - 3).toNatClampNeg (sp_X11_kindBy p0))))] := hD
          refine lv_iload_n hx hb dX11_go_235 rfl (lv_at hl 2 rfl) ?_
          refine kd_callIK (g := g) (wc := []) (va_runS (mc := 0) (ms := 0) (rm := { frames := 0, cells := 0, slots := 0, locals := 0 }) (As := [.int p0]) (rest := []) ⟨hx, hb, hml, hown, hts⟩ (c_X11_kindBy l g H.size p0 ) (va_cwS 1 hts gX11_go_X11_kindBy rfl rfl rfl (by decide +kernel) ⟨Nat.le_of_ble_eq_true rfl, Nat.le_of_ble_eq_true rfl⟩) (kd_preS (wc := []) (av := [.int p0]) hP hD hS hA hK hE [] rfl (by decide)) rfl rfl hl.1 rfl (lv_room (Nat.le_of_ble_eq_true rfl)) dX11_go_236 ⟨Nat.le_of_ble_eq_true rfl, Nat.le_of_ble_eq_true rfl⟩) hP hD hS hA [] rfl (fun r_236 _ H locs hw hP hS => ?_)
          subst hw
          refine lv_iconst (v := (-1)) hx hb dX11_go_239 (by decide) ?_
          refine lv_icmp_eq (tgt := 247) hx hb dX11_go_240 (by decide) (fun c_240 => ?_) (fun c_240 => ?_)
          · refine lv_iconst (v := 0) hx hb dX11_go_247 (by decide) ?_
            exact kd_zret hx hb hr hlocks hK hS dX11_go_248 (Or.inl rfl) ((rm, rs, zt + 1, ef, upd gf ((nI zt) - 3).toNatClampNeg (sp_X11_kindBy p0))) (by rw [sp_X11_go, if_neg c_16_0, if_neg c_16_1, if_neg c_16_2, if_pos c_16_3, if_pos c_240]) hP hD
          · refine lv_iconst (v := 1) hx hb dX11_go_243 (by decide) ?_
            refine lv_goto (tgt := 248) hx hb dX11_go_244 (by decide) ?_
            exact kd_zret hx hb hr hlocks hK hS dX11_go_248 (Or.inr rfl) ((rm, rs, zt + 1, ef, upd gf ((nI zt) - 3).toNatClampNeg (sp_X11_kindBy p0))) (by rw [sp_X11_go, if_neg c_16_0, if_neg c_16_1, if_neg c_16_2, if_pos c_16_3, if_neg c_240]) hP hD
        · by_cases c_16_4 : (nI zt) = 4
          · refine lv_tableIn (off := 207) (tgt := 223) hx hb dX11_go_16 (by rw [c_16_4]; decide) (by rw [c_16_4]; decide) (by rw [c_16_4]; rfl) (by decide) ?_
            refine lv_aload_n hx hb dX11_go_223 rfl (lv_at hl 1 rfl) ?_
            refine va_get (ci := 11) (v := .ref mk) (C := RX11) (T := TX11) (N := 28) hx hb hts hiX11 hown hK hP (0) rfl rfl 7 (by decide) (hts (.fieldLink RX11 22 "KingdomAtDiceModel" "readKinds" "[I") (by decide +kernel)) (fun _ h9 => h9) rfl dX11_go_224 ?_
            refine lv_iload_n hx hb dX11_go_227 rfl (lv_at hl 0 rfl) ?_
            refine lv_iconst (v := 3) hx hb dX11_go_228 (by decide) ?_
            refine lv_isub hx hb dX11_go_229 ?_
            refine lv_iload_n hx hb dX11_go_230 rfl (lv_at hl 2 rfl) ?_
            refine kd_callIK (g := g) (wc := []) (va_runS (mc := 0) (ms := 0) (rm := { frames := 0, cells := 0, slots := 0, locals := 0 }) (As := [.int p0]) (rest := [.int ((nI zt) - 3), .ref mk]) ⟨hx, hb, hml, hown, hts⟩ (c_X11_kindBy l g H.size p0 ) (va_cwS 1 hts gX11_go_X11_kindBy rfl rfl rfl (by decide +kernel) ⟨Nat.le_of_ble_eq_true rfl, Nat.le_of_ble_eq_true rfl⟩) (kd_preS (wc := []) (av := [.int p0]) hP hD hS hA hK hE [] rfl (by decide)) rfl rfl hl.1 rfl (lv_room (Nat.le_of_ble_eq_true rfl)) dX11_go_231 ⟨Nat.le_of_ble_eq_true rfl, Nat.le_of_ble_eq_true rfl⟩) hP hD hS hA [] rfl (fun r_231 _ H locs hw hP hS => ?_)
            subst hw
            refine va_iast hx hb hK hP hD hS 2 0 rfl rfl (kd_z4 c_16_4) dX11_go_234 (fun H locs hP hD hS => ?_)
            have hP : va_P g.1 vwCl [(mo, .inr (11, [.ref mt, .ref mb, .ref mp, .int (nI qn), .ref mr, .int (nI rm), .int rs, .ref mk, .int (nI (zt + 1)), .int (nI T), .int go, .int (nI th), .int (nI nh), .ref mw, .ref mc, .ref mn, .ref mx, .int (nI sm), .ref ms, .int se, .ref mv, .int kh, .int kg, .int (nI kt), .int (nI ks), .ref mq, .ref mu, .long hsh])), (mr, .inl (g.2.1 0, 12, .inl ef)), (mk, .inl (g.2.1 0, 2, .inl (upd gf ((nI zt) - 3).toNatClampNeg (sp_X11_kindBy p0))))] H := hP
            have hD : va_D A [(mo, .inr (11, [.ref mt, .ref mb, .ref mp, .int (nI qn), .ref mr, .int (nI rm), .int rs, .ref mk, .int (nI (zt + 1)), .int (nI T), .int go, .int (nI th), .int (nI nh), .ref mw, .ref mc, .ref mn, .ref mx, .int (nI sm), .ref ms, .int se, .ref mv, .int kh, .int kg, .int (nI kt), .int (nI ks), .ref mq, .ref mu, .long hsh])), (mr, .inl (g.2.1 0, 12, .inl ef)), (mk, .inl (g.2.1 0, 2, .inl (upd gf ((nI zt) - 3).toNatClampNeg (sp_X11_kindBy p0))))] := hD
            refine lv_iload_n hx hb dX11_go_235 rfl (lv_at hl 2 rfl) ?_
            refine kd_callIK (g := g) (wc := []) (va_runS (mc := 0) (ms := 0) (rm := { frames := 0, cells := 0, slots := 0, locals := 0 }) (As := [.int p0]) (rest := []) ⟨hx, hb, hml, hown, hts⟩ (c_X11_kindBy l g H.size p0 ) (va_cwS 1 hts gX11_go_X11_kindBy rfl rfl rfl (by decide +kernel) ⟨Nat.le_of_ble_eq_true rfl, Nat.le_of_ble_eq_true rfl⟩) (kd_preS (wc := []) (av := [.int p0]) hP hD hS hA hK hE [] rfl (by decide)) rfl rfl hl.1 rfl (lv_room (Nat.le_of_ble_eq_true rfl)) dX11_go_236 ⟨Nat.le_of_ble_eq_true rfl, Nat.le_of_ble_eq_true rfl⟩) hP hD hS hA [] rfl (fun r_236 _ H locs hw hP hS => ?_)
            subst hw
            refine lv_iconst (v := (-1)) hx hb dX11_go_239 (by decide) ?_
            refine lv_icmp_eq (tgt := 247) hx hb dX11_go_240 (by decide) (fun c_240 => ?_) (fun c_240 => ?_)
            · refine lv_iconst (v := 0) hx hb dX11_go_247 (by decide) ?_
              exact kd_zret hx hb hr hlocks hK hS dX11_go_248 (Or.inl rfl) ((rm, rs, zt + 1, ef, upd gf ((nI zt) - 3).toNatClampNeg (sp_X11_kindBy p0))) (by rw [sp_X11_go, if_neg c_16_0, if_neg c_16_1, if_neg c_16_2, if_neg c_16_3, if_pos c_16_4, if_pos c_240]) hP hD
            · refine lv_iconst (v := 1) hx hb dX11_go_243 (by decide) ?_
              refine lv_goto (tgt := 248) hx hb dX11_go_244 (by decide) ?_
              exact kd_zret hx hb hr hlocks hK hS dX11_go_248 (Or.inr rfl) ((rm, rs, zt + 1, ef, upd gf ((nI zt) - 3).toNatClampNeg (sp_X11_kindBy p0))) (by rw [sp_X11_go, if_neg c_16_0, if_neg c_16_1, if_neg c_16_2, if_neg c_16_3, if_pos c_16_4, if_neg c_240]) hP hD
          · refine lv_tableOut (tgt := 249) hx hb dX11_go_16 (by have z0 := kd_ne2 c_16_0 (k := 0) (by decide); have z1 := kd_ne2 c_16_1 (k := 1) (by decide); have z2 := kd_ne2 c_16_2 (k := 2) (by decide); have z3 := kd_ne2 c_16_3 (k := 3) (by decide); have z4 := kd_ne2 c_16_4 (k := 4) (by decide); omega) (by decide) ?_
            refine lv_iconst (v := 0) hx hb dX11_go_249 (by decide) ?_
            exact kd_zret hx hb hr hlocks hK hS dX11_go_250 (Or.inl rfl) ((rm, rs, zt + 1, ef, gf)) (by rw [sp_X11_go, if_neg c_16_0, if_neg c_16_1, if_neg c_16_2, if_neg c_16_3, if_neg c_16_4]) hP hD
/-- what go leaves -/
def kd_goP (G : Int32 × Nat × Int32 × Nat × (Nat → Int32) × (Nat → Int32)) : Prop := G.2.1 ≤ 6 ∧ (¬ G.1 = 0 → G.2.2.2.1 ≤ 5 ∧ (G.2.2.2.1 ≤ 1 → G.2.1 ≤ 5))
theorem kd_goP_ok {rm : Nat} {rs : Int32} {zt : Nat} {ef gf : Nat → Int32} {p0 : Int32} (hzt : zt ≤ 5) (hrm : zt ≤ 1 → rm ≤ 5) (h6 : rm ≤ 6) : kd_goP ((sp_X11_go rm rs zt ef gf p0)) := by
  rcases (show zt = 0 ∨ zt = 1 ∨ zt = 2 ∨ zt = 3 ∨ zt = 4 ∨ zt = 5 by omega) with rfl | rfl | rfl | rfl | rfl | rfl
  · have h5 := hrm (by omega)
    unfold sp_X11_go
    rw [if_pos (by decide)]
    repeat' split
    all_goals (unfold kd_goP; dsimp only; exact ⟨by omega, fun _ => ⟨by omega, fun _ => by omega⟩⟩)
  · have h5 := hrm (by omega)
    unfold sp_X11_go
    rw [if_neg (by decide), if_pos (by decide)]
    unfold kd_goP; dsimp only; exact ⟨by omega, fun _ => ⟨by omega, fun _ => by omega⟩⟩
  · unfold sp_X11_go
    rw [if_neg (by decide), if_neg (by decide), if_pos (by decide)]
    split
    · split
      · unfold kd_goP; dsimp only; exact ⟨by omega, fun q => absurd rfl q⟩
      · rename_i q
        have := kd_cne (a := 6) (b := rm) (by omega) (by omega) q
        unfold kd_goP; dsimp only; exact ⟨by omega, fun _ => ⟨by omega, fun _ => by omega⟩⟩
    · repeat' split
      all_goals (unfold kd_goP; dsimp only; exact ⟨by omega, fun _ => ⟨by omega, fun _ => by omega⟩⟩)
  · unfold sp_X11_go
    rw [if_neg (by decide), if_neg (by decide), if_neg (by decide), if_pos (by decide)]
    repeat' split
    all_goals (unfold kd_goP; dsimp only; exact ⟨by omega, fun _ => ⟨by omega, fun _ => by omega⟩⟩)
  · unfold sp_X11_go
    rw [if_neg (by decide), if_neg (by decide), if_neg (by decide), if_neg (by decide), if_pos (by decide)]
    repeat' split
    all_goals (unfold kd_goP; dsimp only; exact ⟨by omega, fun _ => ⟨by omega, fun _ => by omega⟩⟩)
  · unfold sp_X11_go
    rw [if_neg (by decide), if_neg (by decide), if_neg (by decide), if_neg (by decide), if_neg (by decide)]
    unfold kd_goP; dsimp only; exact ⟨by omega, fun q => absurd rfl q⟩
theorem kd_go_ok {rm : Nat} {rs : Int32} {zt : Nat} {ef gf : Nat → Int32} {p0 : Int32} (h : ¬ ((sp_X11_go rm rs zt ef gf p0)).1 = 0) (hzt : zt ≤ 5) (hrm : zt ≤ 1 → rm ≤ 5) (h6 : rm ≤ 6) : ((sp_X11_go rm rs zt ef gf p0)).2.2.2.1 ≤ 5 ∧ (((sp_X11_go rm rs zt ef gf p0)).2.2.2.1 ≤ 1 → ((sp_X11_go rm rs zt ef gf p0)).2.1 ≤ 5) ∧ ((sp_X11_go rm rs zt ef gf p0)).2.1 ≤ 6 := by
  have := kd_goP_ok (rs := rs) (ef := ef) (gf := gf) (p0 := p0) hzt hrm h6
  exact ⟨(this.2 h).1, (this.2 h).2, this.1⟩
def kd_ff (qf : Nat → Int32) : Nat → Nat → Nat × Int32 × Nat × (Nat → Int32) × (Nat → Int32) → Nat × Nat × Int32 × Nat × (Nat → Int32) × (Nat → Int32)
  | 0, i, st => (i, st)
  | k + 1, i, st => if ((sp_X11_go st.1 st.2.1 st.2.2.1 st.2.2.2.1 st.2.2.2.2 (qf i))).1 = 0 then (i, ((sp_X11_go st.1 st.2.1 st.2.2.1 st.2.2.2.1 st.2.2.2.2 (qf i))).2) else kd_ff qf k (i + 1) ((sp_X11_go st.1 st.2.1 st.2.2.1 st.2.2.2.1 st.2.2.2.2 (qf i))).2
def kd_ffr (qf : Nat → Int32) (qn : Nat) (ef gf : Nat → Int32) : Int32 × Nat × Int32 × Nat × (Nat → Int32) × (Nat → Int32) := (nI (kd_ff qf qn 0 (0, 0, 0, ef, gf)).1, (kd_ff qf qn 0 (0, 0, 0, ef, gf)).2)
set_option maxHeartbeats 4000000 in
set_option maxRecDepth 100000 in
theorem c_X11_faultOf (l : Launch) (g : kd_G) (sz : Nat) (mo : Nat) (mt : Nat) (mb : Nat) (mp : Nat) (qn : Nat) (mr : Nat) (rm : Nat) (rs : Int32) (mk : Nat) (zt : Nat) (T : Nat) (go : Int32) (th : Nat) (nh : Nat) (mw : Nat) (mc : Nat) (mn : Nat) (mx : Nat) (sm : Nat) (ms : Nat) (se : Int32) (mv : Nat) (kh : Int32) (kg : Int32) (kt : Nat) (ks : Nat) (mq : Nat) (mu : Nat) (hsh : Int64) (qf : Nat → Int32) (ef : Nat → Int32) (gf : Nat → Int32) (hqn : qn ≤ 22) : kd_MI l yX11_faultOf wsX11_faultOf ({ frames := 2, cells := 0, slots := 0, locals := 48 }) [.ref mo] g [(mo, .inr (11, [.ref mt, .ref mb, .ref mp, .int (nI qn), .ref mr, .int (nI rm), .int rs, .ref mk, .int (nI zt), .int (nI T), .int go, .int (nI th), .int (nI nh), .ref mw, .ref mc, .ref mn, .ref mx, .int (nI sm), .ref ms, .int se, .ref mv, .int kh, .int kg, .int (nI kt), .int (nI ks), .ref mq, .ref mu, .long hsh])), (mp, .inl (g.2.1 0, 22, .inl qf)), (mr, .inl (g.2.1 0, 12, .inl ef)), (mk, .inl (g.2.1 0, 2, .inl gf))] sz (fun r (u : Nat × Int32 × Nat × (Nat → Int32) × (Nat → Int32)) => (r, u) = kd_ffr qf qn ef gf) (fun u => [(mo, .inr (11, [.ref mt, .ref mb, .ref mp, .int (nI qn), .ref mr, .int (nI u.1), .int u.2.1, .ref mk, .int (nI u.2.2.1), .int (nI T), .int go, .int (nI th), .int (nI nh), .ref mw, .ref mc, .ref mn, .ref mx, .int (nI sm), .ref ms, .int se, .ref mv, .int kh, .int kg, .int (nI kt), .int (nI ks), .ref mq, .ref mu, .long hsh])), (mp, .inl (g.2.1 0, 22, .inl qf)), (mr, .inl (g.2.1 0, 12, .inl u.2.2.2.1)), (mk, .inl (g.2.1 0, 2, .inl u.2.2.2.2))]) 0 0 := by
  refine kd_met (l := l) (y := yX11_faultOf) (ws := wsX11_faultOf) (rm := { frames := 2, cells := 0, slots := 0, locals := 48 }) (av := [.ref mo]) (g := g) (WS := [(mo, .inr (11, [.ref mt, .ref mb, .ref mp, .int (nI qn), .ref mr, .int (nI rm), .int rs, .ref mk, .int (nI zt), .int (nI T), .int go, .int (nI th), .int (nI nh), .ref mw, .ref mc, .ref mn, .ref mx, .int (nI sm), .ref ms, .int se, .ref mv, .int kh, .int kg, .int (nI kt), .int (nI ks), .ref mq, .ref mu, .long hsh])), (mp, .inl (g.2.1 0, 22, .inl qf)), (mr, .inl (g.2.1 0, 12, .inl ef)), (mk, .inl (g.2.1 0, 2, .inl gf))]) (sz := sz) (mc := 0) (ms := 0) (cc := cX11_faultOf) (maxL := 2) (ret := (some .int)) (own := RX11) (fun A => va_Qi (fun r (u : Nat × Int32 × Nat × (Nat → Int32) × (Nat → Int32)) => (r, u) = kd_ffr qf qn ef gf) (fun u t => kd_post g A [(mo, .inr (11, [.ref mt, .ref mb, .ref mp, .int (nI qn), .ref mr, .int (nI u.1), .int u.2.1, .ref mk, .int (nI u.2.2.1), .int (nI T), .int go, .int (nI th), .int (nI nh), .ref mw, .ref mc, .ref mn, .ref mx, .int (nI sm), .ref ms, .int se, .ref mv, .int kh, .int kg, .int (nI kt), .int (nI ks), .ref mq, .ref mu, .long hsh])), (mp, .inl (g.2.1 0, 22, .inl qf)), (mr, .inl (g.2.1 0, 12, .inl u.2.2.2.1)), (mk, .inl (g.2.1 0, 2, .inl u.2.2.2.2))] t) A) (by decide) rfl rfl (Nat.le_of_ble_eq_true rfl) ?_
  intro p e s m below meth c A ls hx hb hr hml hts hown hlocks hnm hA hP hK hD hS hE hl
  have hl : lv_has ls 2 [(0, .ref mo)] := hl
  have hiX11 : ∀ w ∈ u_ws RX11 TX11 28, w ∈ wsX11_faultOf := by decide +kernel
  refine lv_aload_n hx hb dX11_faultOf_0 rfl (lv_at hl 0 rfl) ?_
  refine lv_iconst (v := 0) hx hb dX11_faultOf_1 (by decide) ?_
  refine va_put (ci := 11) (v := .int 0) (ty := .int) (C := RX11) (T := TX11) (N := 28) hx hb hts hiX11 tyX11 tyX11_ok nmX11 hown hK hP hD hS (0) rfl rfl 5 (by decide) (hts (.fieldLink RX11 81 "KingdomAtDiceModel" "readMany" "I") (by decide +kernel)) (fun _ h9 => h9) rfl (by decide +kernel) rfl rfl (Nat.le_of_ble_eq_true rfl) dX11_faultOf_2 (fun H locs hP hD hS => ?_)
  have hP : va_P g.1 vwCl [(mo, .inr (11, [.ref mt, .ref mb, .ref mp, .int (nI qn), .ref mr, .int 0, .int rs, .ref mk, .int (nI zt), .int (nI T), .int go, .int (nI th), .int (nI nh), .ref mw, .ref mc, .ref mn, .ref mx, .int (nI sm), .ref ms, .int se, .ref mv, .int kh, .int kg, .int (nI kt), .int (nI ks), .ref mq, .ref mu, .long hsh])), (mp, .inl (g.2.1 0, 22, .inl qf)), (mr, .inl (g.2.1 0, 12, .inl ef)), (mk, .inl (g.2.1 0, 2, .inl gf))] H := hP
  have hD : va_D A [(mo, .inr (11, [.ref mt, .ref mb, .ref mp, .int (nI qn), .ref mr, .int 0, .int rs, .ref mk, .int (nI zt), .int (nI T), .int go, .int (nI th), .int (nI nh), .ref mw, .ref mc, .ref mn, .ref mx, .int (nI sm), .ref ms, .int se, .ref mv, .int kh, .int kg, .int (nI kt), .int (nI ks), .ref mq, .ref mu, .long hsh])), (mp, .inl (g.2.1 0, 22, .inl qf)), (mr, .inl (g.2.1 0, 12, .inl ef)), (mk, .inl (g.2.1 0, 2, .inl gf))] := hD
  refine lv_aload_n hx hb dX11_faultOf_5 rfl (lv_at hl 0 rfl) ?_
  refine lv_iconst (v := 0) hx hb dX11_faultOf_6 (by decide) ?_
  refine va_put (ci := 11) (v := .int 0) (ty := .boolean) (C := RX11) (T := TX11) (N := 28) hx hb hts hiX11 tyX11 tyX11_ok nmX11 hown hK hP hD hS (0) rfl rfl 6 (by decide) (hts (.fieldLink RX11 77 "KingdomAtDiceModel" "readSelf" "Z") (by decide +kernel)) (fun _ h9 => h9) rfl (by decide +kernel) rfl rfl (Nat.le_of_ble_eq_true rfl) dX11_faultOf_7 (fun H locs hP hD hS => ?_)
  have hP : va_P g.1 vwCl [(mo, .inr (11, [.ref mt, .ref mb, .ref mp, .int (nI qn), .ref mr, .int 0, .int 0, .ref mk, .int (nI zt), .int (nI T), .int go, .int (nI th), .int (nI nh), .ref mw, .ref mc, .ref mn, .ref mx, .int (nI sm), .ref ms, .int se, .ref mv, .int kh, .int kg, .int (nI kt), .int (nI ks), .ref mq, .ref mu, .long hsh])), (mp, .inl (g.2.1 0, 22, .inl qf)), (mr, .inl (g.2.1 0, 12, .inl ef)), (mk, .inl (g.2.1 0, 2, .inl gf))] H := hP
  have hD : va_D A [(mo, .inr (11, [.ref mt, .ref mb, .ref mp, .int (nI qn), .ref mr, .int 0, .int 0, .ref mk, .int (nI zt), .int (nI T), .int go, .int (nI th), .int (nI nh), .ref mw, .ref mc, .ref mn, .ref mx, .int (nI sm), .ref ms, .int se, .ref mv, .int kh, .int kg, .int (nI kt), .int (nI ks), .ref mq, .ref mu, .long hsh])), (mp, .inl (g.2.1 0, 22, .inl qf)), (mr, .inl (g.2.1 0, 12, .inl ef)), (mk, .inl (g.2.1 0, 2, .inl gf))] := hD
  refine lv_aload_n hx hb dX11_faultOf_10 rfl (lv_at hl 0 rfl) ?_
  refine lv_iconst (v := 0) hx hb dX11_faultOf_11 (by decide) ?_
  refine va_put (ci := 11) (v := .int 0) (ty := .int) (C := RX11) (T := TX11) (N := 28) hx hb hts hiX11 tyX11 tyX11_ok nmX11 hown hK hP hD hS (0) rfl rfl 8 (by decide) (hts (.fieldLink RX11 74 "KingdomAtDiceModel" "state" "I") (by decide +kernel)) (fun _ h9 => h9) rfl (by decide +kernel) rfl rfl (Nat.le_of_ble_eq_true rfl) dX11_faultOf_12 (fun H locs hP hD hS => ?_)
  have hP : va_P g.1 vwCl [(mo, .inr (11, [.ref mt, .ref mb, .ref mp, .int (nI qn), .ref mr, .int 0, .int 0, .ref mk, .int 0, .int (nI T), .int go, .int (nI th), .int (nI nh), .ref mw, .ref mc, .ref mn, .ref mx, .int (nI sm), .ref ms, .int se, .ref mv, .int kh, .int kg, .int (nI kt), .int (nI ks), .ref mq, .ref mu, .long hsh])), (mp, .inl (g.2.1 0, 22, .inl qf)), (mr, .inl (g.2.1 0, 12, .inl ef)), (mk, .inl (g.2.1 0, 2, .inl gf))] H := hP
  have hD : va_D A [(mo, .inr (11, [.ref mt, .ref mb, .ref mp, .int (nI qn), .ref mr, .int 0, .int 0, .ref mk, .int 0, .int (nI T), .int go, .int (nI th), .int (nI nh), .ref mw, .ref mc, .ref mn, .ref mx, .int (nI sm), .ref ms, .int se, .ref mv, .int kh, .int kg, .int (nI kt), .int (nI ks), .ref mq, .ref mu, .long hsh])), (mp, .inl (g.2.1 0, 22, .inl qf)), (mr, .inl (g.2.1 0, 12, .inl ef)), (mk, .inl (g.2.1 0, 2, .inl gf))] := hD
  refine lv_iconst (v := 0) hx hb dX11_faultOf_15 (by decide) ?_
  refine lv_istore_n (lv' := [(1, .int 0), (0, .ref mo)]) hx hb dX11_faultOf_16 rfl hl (by decide) rfl (fun ls hl => ?_)
  have loop_17 : ∀ (n_17 : Nat) (i : Nat) (k : Nat) (rm1 : Nat) (rs1 : Int32) (zt1 : Nat) (e1 : Nat → Int32) (g1 : Nat → Int32), (i + k = qn) → (zt1 ≤ 5) → (zt1 ≤ 1 → rm1 ≤ 5) → (rm1 ≤ 6) → (kd_ff qf qn 0 (0, 0, 0, ef, gf) = kd_ff qf k i (rm1, rs1, zt1, e1, g1)) → (k) < n_17 → ∀ (H : Heap) (locs : List Loc), va_P g.1 vwCl [(mo, .inr (11, [.ref mt, .ref mb, .ref mp, .int (nI qn), .ref mr, .int (nI rm1), .int rs1, .ref mk, .int (nI zt1), .int (nI T), .int go, .int (nI th), .int (nI nh), .ref mw, .ref mc, .ref mn, .ref mx, .int (nI sm), .ref ms, .int se, .ref mv, .int kh, .int kg, .int (nI kt), .int (nI ks), .ref mq, .ref mu, .long hsh])), (mp, .inl (g.2.1 0, 22, .inl qf)), (mr, .inl (g.2.1 0, 12, .inl e1)), (mk, .inl (g.2.1 0, 2, .inl g1))] H → va_D A [(mo, .inr (11, [.ref mt, .ref mb, .ref mp, .int (nI qn), .ref mr, .int (nI rm1), .int rs1, .ref mk, .int (nI zt1), .int (nI T), .int go, .int (nI th), .int (nI nh), .ref mw, .ref mc, .ref mn, .ref mx, .int (nI sm), .ref ms, .int se, .ref mv, .int kh, .int kg, .int (nI kt), .int (nI ks), .ref mq, .ref mu, .long hsh])), (mp, .inl (g.2.1 0, 22, .inl qf)), (mr, .inl (g.2.1 0, 12, .inl e1)), (mk, .inl (g.2.1 0, 2, .inl g1))] → va_S A s.heap H locs → ∀ (ls : Array Slot), lv_has ls 2 [(0, .ref mo), (1, .int (nI i))] → W p l e ({ frames := 2, cells := 0, slots := 0, locals := 48 } : Room) s m ([.ref mo] : List Value).toArray below meth c H locs 0 0 (MQ below (va_Qi (fun r (u : Nat × Int32 × Nat × (Nat → Int32) × (Nat → Int32)) => (r, u) = kd_ffr qf qn ef gf) (fun u t => kd_post g A [(mo, .inr (11, [.ref mt, .ref mb, .ref mp, .int (nI qn), .ref mr, .int (nI u.1), .int u.2.1, .ref mk, .int (nI u.2.2.1), .int (nI T), .int go, .int (nI th), .int (nI nh), .ref mw, .ref mc, .ref mn, .ref mx, .int (nI sm), .ref ms, .int se, .ref mv, .int kh, .int kg, .int (nI kt), .int (nI ks), .ref mq, .ref mu, .long hsh])), (mp, .inl (g.2.1 0, 22, .inl qf)), (mr, .inl (g.2.1 0, 12, .inl u.2.2.2.1)), (mk, .inl (g.2.1 0, 2, .inl u.2.2.2.2))] t) A) ([.ref mo] : List Value).toArray s 0 0 A) (F0 m 17 ls []) := by
    intro n_17
    induction n_17 with
    | zero => intro i k rm1 rs1 zt1 e1 g1 _ _ _ _ _ hm_17; exact absurd hm_17 (Nat.not_lt_zero _)
    | succ n_17 ih_17 =>
      intro i k rm1 rs1 zt1 e1 g1 hik hz1 hr1 hr6 hq hm_17 H locs hP hD hS ls hl
      refine lv_iload_n hx hb dX11_faultOf_17 rfl (lv_at hl 1 rfl) ?_
      refine lv_aload_n hx hb dX11_faultOf_18 rfl (lv_at hl 0 rfl) ?_
      refine va_get (ci := 11) (v := .int (nI qn)) (C := RX11) (T := TX11) (N := 28) hx hb hts hiX11 hown hK hP (0) rfl rfl 3 (by decide) (hts (.fieldLink RX11 71 "KingdomAtDiceModel" "pageMany" "I") (by decide +kernel)) (fun _ h9 => h9) rfl dX11_faultOf_19 ?_
      refine lv_icmp_ge (tgt := 44) hx hb dX11_faultOf_22 (by decide) (fun c_22 => ?_) (fun c_22 => ?_)
      · have n_22 : qn ≤ i := kd_ce (a := qn) (b := i) (by omega) (by omega) c_22
        refine lv_iload_n hx hb dX11_faultOf_44 rfl (lv_at hl 1 rfl) ?_
        exact kd_iret hx hb hr hlocks hK hS dX11_faultOf_45 ((rm1, rs1, zt1, e1, g1)) (by rw [kd_ffr, hq, show k = 0 by omega, kd_ff]) hP hD
      · have n_22 : i < qn := kd_cne (a := qn) (b := i) (by omega) (by omega) c_22
        obtain ⟨k, rfl⟩ : ∃ z, k = z + 1 := ⟨k - 1, by omega⟩
        refine lv_aload_n hx hb dX11_faultOf_25 rfl (lv_at hl 0 rfl) ?_
        refine lv_aload_n hx hb dX11_faultOf_26 rfl (lv_at hl 0 rfl) ?_
        refine va_get (ci := 11) (v := .ref mp) (C := RX11) (T := TX11) (N := 28) hx hb hts hiX11 hown hK hP (0) rfl rfl 2 (by decide) (hts (.fieldLink RX11 16 "KingdomAtDiceModel" "page" "[I") (by decide +kernel)) (fun _ h9 => h9) rfl dX11_faultOf_27 ?_
        refine lv_iload_n hx hb dX11_faultOf_30 rfl (lv_at hl 1 rfl) ?_
        refine kd_iald hx hb hK hP 1 (k := i) rfl (by omega) (by decide) dX11_faultOf_31 ?_
        refine kd_callIJ (Wf := fun (u : Nat × Int32 × Nat × (Nat → Int32) × (Nat → Int32)) => [(mo, .inr (11, [.ref mt, .ref mb, .ref mp, .int (nI qn), .ref mr, .int (nI u.1), .int u.2.1, .ref mk, .int (nI u.2.2.1), .int (nI T), .int go, .int (nI th), .int (nI nh), .ref mw, .ref mc, .ref mn, .ref mx, .int (nI sm), .ref ms, .int se, .ref mv, .int kh, .int kg, .int (nI kt), .int (nI ks), .ref mq, .ref mu, .long hsh])), (mr, .inl (g.2.1 0, 12, .inl u.2.2.2.1)), (mk, .inl (g.2.1 0, 2, .inl u.2.2.2.2))]) (g := g) (wc := [(mo, .inr (11, [.ref mt, .ref mb, .ref mp, .int (nI qn), .ref mr, .int (nI rm1), .int rs1, .ref mk, .int (nI zt1), .int (nI T), .int go, .int (nI th), .int (nI nh), .ref mw, .ref mc, .ref mn, .ref mx, .int (nI sm), .ref ms, .int se, .ref mv, .int kh, .int kg, .int (nI kt), .int (nI ks), .ref mq, .ref mu, .long hsh])), (mr, .inl (g.2.1 0, 12, .inl e1)), (mk, .inl (g.2.1 0, 2, .inl g1))]) (wr := [(mp, .inl (g.2.1 0, 22, .inl qf))]) (va_runV (mc := 0) (ms := 0) (rm := { frames := 1, cells := 0, slots := 0, locals := 25 }) (As := [.int (qf i)]) (rest := []) ⟨hx, hb, hml, hown, hts⟩ (c_X11_go l g H.size mo mt mb mp qn mr rm1 rs1 mk zt1 T go th nh mw mc mn mx sm ms se mv kh kg kt ks mq mu hsh e1 g1 (qf i) (hz1) (hr1) (by omega)) (cwV 1 hts gX11_faultOf_X11_go rfl rfl rfl (by decide +kernel) ⟨Nat.le_of_ble_eq_true rfl, Nat.le_of_ble_eq_true rfl⟩) (kd_preV (wc := [(mo, .inr (11, [.ref mt, .ref mb, .ref mp, .int (nI qn), .ref mr, .int (nI rm1), .int rs1, .ref mk, .int (nI zt1), .int (nI T), .int go, .int (nI th), .int (nI nh), .ref mw, .ref mc, .ref mn, .ref mx, .int (nI sm), .ref ms, .int se, .ref mv, .int kh, .int kg, .int (nI kt), .int (nI ks), .ref mq, .ref mu, .long hsh])), (mr, .inl (g.2.1 0, 12, .inl e1)), (mk, .inl (g.2.1 0, 2, .inl g1))]) (va_recv hK hP (ci := 11) (q0 := 0) rfl rfl) hP hD hS hA hK hE [0, 2, 3] rfl (by decide)) rfl rfl hl.1 rfl (lv_room (Nat.le_of_ble_eq_true rfl)) dX11_faultOf_32 ⟨Nat.le_of_ble_eq_true rfl, Nat.le_of_ble_eq_true rfl⟩) hP hD hS hA [0, 2, 3] [1] rfl rfl (by decide) (by decide) (fun r_32 u_32 H locs hw_32 hP hD hS => ?_)
        obtain ⟨rm_32, rs_32, zt_32, ef_32, gf_32⟩ := u_32
        have hP : va_P g.1 vwCl ([(mp, .inl (g.2.1 0, 22, .inl qf))] ++ [(mo, .inr (11, [.ref mt, .ref mb, .ref mp, .int (nI qn), .ref mr, .int (nI rm_32), .int rs_32, .ref mk, .int (nI zt_32), .int (nI T), .int go, .int (nI th), .int (nI nh), .ref mw, .ref mc, .ref mn, .ref mx, .int (nI sm), .ref ms, .int se, .ref mv, .int kh, .int kg, .int (nI kt), .int (nI ks), .ref mq, .ref mu, .long hsh])), (mr, .inl (g.2.1 0, 12, .inl ef_32)), (mk, .inl (g.2.1 0, 2, .inl gf_32))]) H := hP
        have hD : va_D A ([(mp, .inl (g.2.1 0, 22, .inl qf))] ++ [(mo, .inr (11, [.ref mt, .ref mb, .ref mp, .int (nI qn), .ref mr, .int (nI rm_32), .int rs_32, .ref mk, .int (nI zt_32), .int (nI T), .int go, .int (nI th), .int (nI nh), .ref mw, .ref mc, .ref mn, .ref mx, .int (nI sm), .ref ms, .int se, .ref mv, .int kh, .int kg, .int (nI kt), .int (nI ks), .ref mq, .ref mu, .long hsh])), (mr, .inl (g.2.1 0, 12, .inl ef_32)), (mk, .inl (g.2.1 0, 2, .inl gf_32))]) := hD
        refine lv_if_eq (tgt := 44) hx hb dX11_faultOf_35 (by decide) (fun c_35 => ?_) (fun c_35 => ?_)
        · refine lv_iload_n hx hb dX11_faultOf_44 rfl (lv_at hl 1 rfl) ?_
          have hP9 := hP.sub (ws' := [(mo, .inr (11, [.ref mt, .ref mb, .ref mp, .int (nI qn), .ref mr, .int (nI rm_32), .int rs_32, .ref mk, .int (nI zt_32), .int (nI T), .int go, .int (nI th), .int (nI nh), .ref mw, .ref mc, .ref mn, .ref mx, .int (nI sm), .ref ms, .int se, .ref mv, .int kh, .int kg, .int (nI kt), .int (nI ks), .ref mq, .ref mu, .long hsh])), (mp, .inl (g.2.1 0, 22, .inl qf)), (mr, .inl (g.2.1 0, 12, .inl ef_32)), (mk, .inl (g.2.1 0, 2, .inl gf_32))]) [1, 0, 2, 3] rfl
          have hD9 := hD.sub (ws' := [(mo, .inr (11, [.ref mt, .ref mb, .ref mp, .int (nI qn), .ref mr, .int (nI rm_32), .int rs_32, .ref mk, .int (nI zt_32), .int (nI T), .int go, .int (nI th), .int (nI nh), .ref mw, .ref mc, .ref mn, .ref mx, .int (nI sm), .ref ms, .int se, .ref mv, .int kh, .int kg, .int (nI kt), .int (nI ks), .ref mq, .ref mu, .long hsh])), (mp, .inl (g.2.1 0, 22, .inl qf)), (mr, .inl (g.2.1 0, 12, .inl ef_32)), (mk, .inl (g.2.1 0, 2, .inl gf_32))]) [1, 0, 2, 3] (by decide) rfl
          exact kd_iret hx hb hr hlocks hK hS dX11_faultOf_45 ((rm_32, rs_32, zt_32, ef_32, gf_32)) (by rw [kd_ffr, hq, kd_ff]; dsimp only; rw [← hw_32]; dsimp only; rw [if_pos c_35]) hP9 hD9
        · refine lv_iinc (v := nI (i + 1)) (lv' := [(1, .int (nI (i + 1))), (0, .ref mo)]) hx hb dX11_faultOf_38 hl (k := 1) rfl (nI_1 _) (by decide) rfl (fun ls hl => ?_)
          refine lv_goto (tgt := 17) hx hb dX11_faultOf_41 (by decide) ?_
          have hP9 := hP.sub (ws' := [(mo, .inr (11, [.ref mt, .ref mb, .ref mp, .int (nI qn), .ref mr, .int (nI rm_32), .int rs_32, .ref mk, .int (nI zt_32), .int (nI T), .int go, .int (nI th), .int (nI nh), .ref mw, .ref mc, .ref mn, .ref mx, .int (nI sm), .ref ms, .int se, .ref mv, .int kh, .int kg, .int (nI kt), .int (nI ks), .ref mq, .ref mu, .long hsh])), (mp, .inl (g.2.1 0, 22, .inl qf)), (mr, .inl (g.2.1 0, 12, .inl ef_32)), (mk, .inl (g.2.1 0, 2, .inl gf_32))]) [1, 0, 2, 3] rfl
          have hD9 := hD.sub (ws' := [(mo, .inr (11, [.ref mt, .ref mb, .ref mp, .int (nI qn), .ref mr, .int (nI rm_32), .int rs_32, .ref mk, .int (nI zt_32), .int (nI T), .int go, .int (nI th), .int (nI nh), .ref mw, .ref mc, .ref mn, .ref mx, .int (nI sm), .ref ms, .int se, .ref mv, .int kh, .int kg, .int (nI kt), .int (nI ks), .ref mq, .ref mu, .long hsh])), (mp, .inl (g.2.1 0, 22, .inl qf)), (mr, .inl (g.2.1 0, 12, .inl ef_32)), (mk, .inl (g.2.1 0, 2, .inl gf_32))]) [1, 0, 2, 3] (by decide) rfl
          exact ih_17 (i + 1) k rm_32 rs_32 zt_32 ef_32 gf_32 (by omega) (by have := kd_go_ok (by rw [← hw_32]; exact c_35) hz1 hr1 hr6; rw [← hw_32] at this; exact this.1) (by have := kd_go_ok (by rw [← hw_32]; exact c_35) hz1 hr1 hr6; rw [← hw_32] at this; exact this.2.1) (by have := kd_go_ok (by rw [← hw_32]; exact c_35) hz1 hr1 hr6; rw [← hw_32] at this; exact this.2.2) (by rw [hq, kd_ff]; dsimp only; rw [← hw_32]; dsimp only; rw [if_neg c_35]) (by omega) _ _ hP9 hD9 hS ls (lv_sub hl [1, 0] rfl)
  exact loop_17 (qn + 1) 0 qn 0 0 0 ef gf (by omega) (by decide) (by decide) (by decide) rfl (Nat.lt_succ_self _) _ _ hP hD hS ls (lv_sub hl [1, 0] rfl)

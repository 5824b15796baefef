theorem kd_inI {x : Int32} {c : Int64} {n : Nat} (h : ¬ sp_X11_in x.toInt64 0 c = 0) (hc : c.toInt = n) (hn : n < 2 ^ 31) : x = nI x.toNatClampNeg ∧ x.toNatClampNeg ≤ n := by
  obtain ⟨h1, h2⟩ := kd_in h
  rw [Int64.le_iff_toInt_le, Int32.toInt_toInt64] at h1 h2
  rw [hc] at h2
  have h0 : (0 : Int64).toInt = 0 := by decide
  rw [h0] at h1
  have hx : ¬ x < 0 := fun q => by
    have := Int32.lt_iff_toInt_lt.mp q
    have e : (0 : Int32).toInt = 0 := by decide
    omega
  obtain ⟨j, hj, rfl⟩ := nI_of hx
  rw [nI_clamp hj]
  rw [nI_toInt hj] at h2
  exact ⟨rfl, by omega⟩
/-- what KingdomAtDiceModel.fault answers and leaves, by its instructions -/
def sp_X11_fault (qn : Nat) (qf : Nat → Int32) (ef : Nat → Int32) (gf : Nat → Int32) : Int32 × Nat × Int32 × Nat × (Nat → Int32) × (Nat → Int32) :=
  (((kd_ffr qf qn ef gf).1), ((kd_ffr qf qn ef gf).2.1), ((kd_ffr qf qn ef gf).2.2.1), ((kd_ffr qf qn ef gf).2.2.2.1), ((kd_ffr qf qn ef gf).2.2.2.2.1), ((kd_ffr qf qn ef gf).2.2.2.2.2))
set_option maxHeartbeats 4000000 in
set_option maxRecDepth 100000 in
theorem c_X11_fault (l : Launch) (g : kd_G) (sz : Nat) (mo : Nat) (mt : Nat) (mb : Nat) (mp : Nat) (qn : Nat) (mr : Nat) (rm : Nat) (rs : Int32) (mk : Nat) (zt : Nat) (T : Nat) (go : Int32) (th : Nat) (nh : Nat) (mw : Nat) (mc : Nat) (mn : Nat) (mx : Nat) (sm : Nat) (ms : Nat) (se : Int32) (mv : Nat) (kh : Int32) (kg : Int32) (kt : Nat) (ks : Nat) (mq : Nat) (mu : Nat) (hsh : Int64) (qf : Nat → Int32) (ef : Nat → Int32) (gf : Nat → Int32) (hqn : qn ≤ 22) : kd_MI l yX11_fault wsX11_fault ({ frames := 3, cells := 0, slots := 0, locals := 69 }) [.ref mo] g [(mo, .inr (11, [.ref mt, .ref mb, .ref mp, .int (nI qn), .ref mr, .int (nI rm), .int rs, .ref mk, .int (nI zt), .int (nI T), .int go, .int (nI th), .int (nI nh), .ref mw, .ref mc, .ref mn, .ref mx, .int (nI sm), .ref ms, .int se, .ref mv, .int kh, .int kg, .int (nI kt), .int (nI ks), .ref mq, .ref mu, .long hsh])), (mp, .inl (g.2.1 0, 22, .inl qf)), (mr, .inl (g.2.1 0, 12, .inl ef)), (mk, .inl (g.2.1 0, 2, .inl gf))] sz (fun r (u : Nat × Int32 × Nat × (Nat → Int32) × (Nat → Int32)) => (r, u) = sp_X11_fault qn qf ef gf) (fun u => [(mo, .inr (11, [.ref mt, .ref mb, .ref mp, .int (nI qn), .ref mr, .int (nI u.1), .int u.2.1, .ref mk, .int (nI u.2.2.1), .int (nI T), .int go, .int (nI th), .int (nI nh), .ref mw, .ref mc, .ref mn, .ref mx, .int (nI sm), .ref ms, .int se, .ref mv, .int kh, .int kg, .int (nI kt), .int (nI ks), .ref mq, .ref mu, .long hsh])), (mp, .inl (g.2.1 0, 22, .inl qf)), (mr, .inl (g.2.1 0, 12, .inl u.2.2.2.1)), (mk, .inl (g.2.1 0, 2, .inl u.2.2.2.2))]) 0 0 := by
  refine kd_met (l := l) (y := yX11_fault) (ws := wsX11_fault) (rm := { frames := 3, cells := 0, slots := 0, locals := 69 }) (av := [.ref mo]) (g := g) (WS := [(mo, .inr (11, [.ref mt, .ref mb, .ref mp, .int (nI qn), .ref mr, .int (nI rm), .int rs, .ref mk, .int (nI zt), .int (nI T), .int go, .int (nI th), .int (nI nh), .ref mw, .ref mc, .ref mn, .ref mx, .int (nI sm), .ref ms, .int se, .ref mv, .int kh, .int kg, .int (nI kt), .int (nI ks), .ref mq, .ref mu, .long hsh])), (mp, .inl (g.2.1 0, 22, .inl qf)), (mr, .inl (g.2.1 0, 12, .inl ef)), (mk, .inl (g.2.1 0, 2, .inl gf))]) (sz := sz) (mc := 0) (ms := 0) (cc := cX11_fault) (maxL := 1) (ret := (some .int)) (own := RX11) (fun A => va_Qi (fun r (u : Nat × Int32 × Nat × (Nat → Int32) × (Nat → Int32)) => (r, u) = sp_X11_fault qn qf ef gf) (fun u t => kd_post g A [(mo, .inr (11, [.ref mt, .ref mb, .ref mp, .int (nI qn), .ref mr, .int (nI u.1), .int u.2.1, .ref mk, .int (nI u.2.2.1), .int (nI T), .int go, .int (nI th), .int (nI nh), .ref mw, .ref mc, .ref mn, .ref mx, .int (nI sm), .ref ms, .int se, .ref mv, .int kh, .int kg, .int (nI kt), .int (nI ks), .ref mq, .ref mu, .long hsh])), (mp, .inl (g.2.1 0, 22, .inl qf)), (mr, .inl (g.2.1 0, 12, .inl u.2.2.2.1)), (mk, .inl (g.2.1 0, 2, .inl u.2.2.2.2))] t) A) (by decide) rfl rfl (Nat.le_of_ble_eq_true rfl) ?_
  intro p e s m below meth c A ls hx hb hr hml hts hown hlocks hnm hA hP hK hD hS hE hl
  have hl : lv_has ls 1 [(0, .ref mo)] := hl
  refine lv_aload_n hx hb dX11_fault_0 rfl (lv_at hl 0 rfl) ?_
  refine kd_callIJ (Wf := fun (u : Nat × Int32 × Nat × (Nat → Int32) × (Nat → Int32)) => [(mo, .inr (11, [.ref mt, .ref mb, .ref mp, .int (nI qn), .ref mr, .int (nI u.1), .int u.2.1, .ref mk, .int (nI u.2.2.1), .int (nI T), .int go, .int (nI th), .int (nI nh), .ref mw, .ref mc, .ref mn, .ref mx, .int (nI sm), .ref ms, .int se, .ref mv, .int kh, .int kg, .int (nI kt), .int (nI ks), .ref mq, .ref mu, .long hsh])), (mp, .inl (g.2.1 0, 22, .inl qf)), (mr, .inl (g.2.1 0, 12, .inl u.2.2.2.1)), (mk, .inl (g.2.1 0, 2, .inl u.2.2.2.2))]) (g := g) (wc := [(mo, .inr (11, [.ref mt, .ref mb, .ref mp, .int (nI qn), .ref mr, .int (nI rm), .int rs, .ref mk, .int (nI zt), .int (nI T), .int go, .int (nI th), .int (nI nh), .ref mw, .ref mc, .ref mn, .ref mx, .int (nI sm), .ref ms, .int se, .ref mv, .int kh, .int kg, .int (nI kt), .int (nI ks), .ref mq, .ref mu, .long hsh])), (mp, .inl (g.2.1 0, 22, .inl qf)), (mr, .inl (g.2.1 0, 12, .inl ef)), (mk, .inl (g.2.1 0, 2, .inl gf))]) (wr := []) (va_runV (mc := 0) (ms := 0) (rm := { frames := 2, cells := 0, slots := 0, locals := 48 }) (As := []) (rest := []) ⟨hx, hb, hml, hown, hts⟩ (c_X11_faultOf l g s.heap.size mo mt mb mp qn mr rm rs mk zt T go th nh mw mc mn mx sm ms se mv kh kg kt ks mq mu hsh qf ef gf hqn) (cwV 0 hts gX11_fault_X11_faultOf rfl rfl rfl (by decide +kernel) ⟨Nat.le_of_ble_eq_true rfl, Nat.le_of_ble_eq_true rfl⟩) (kd_preV (wc := [(mo, .inr (11, [.ref mt, .ref mb, .ref mp, .int (nI qn), .ref mr, .int (nI rm), .int rs, .ref mk, .int (nI zt), .int (nI T), .int go, .int (nI th), .int (nI nh), .ref mw, .ref mc, .ref mn, .ref mx, .int (nI sm), .ref ms, .int se, .ref mv, .int kh, .int kg, .int (nI kt), .int (nI ks), .ref mq, .ref mu, .long hsh])), (mp, .inl (g.2.1 0, 22, .inl qf)), (mr, .inl (g.2.1 0, 12, .inl ef)), (mk, .inl (g.2.1 0, 2, .inl gf))]) (va_recv hK hP (ci := 11) (q0 := 0) rfl rfl) hP hD hS hA hK hE [0, 1, 2, 3] rfl (by decide)) rfl rfl hl.1 rfl (lv_room (Nat.le_of_ble_eq_true rfl)) dX11_fault_1 ⟨Nat.le_of_ble_eq_true rfl, Nat.le_of_ble_eq_true rfl⟩) hP hD hS hA [0, 1, 2, 3] [] rfl rfl (by decide) (by decide) (fun r_1 u_1 H locs hw_1 hP hD hS => ?_)
  obtain ⟨rm_1, rs_1, zt_1, ef_1, gf_1⟩ := u_1
  have hP : va_P g.1 vwCl ([] ++ [(mo, .inr (11, [.ref mt, .ref mb, .ref mp, .int (nI qn), .ref mr, .int (nI rm_1), .int rs_1, .ref mk, .int (nI zt_1), .int (nI T), .int go, .int (nI th), .int (nI nh), .ref mw, .ref mc, .ref mn, .ref mx, .int (nI sm), .ref ms, .int se, .ref mv, .int kh, .int kg, .int (nI kt), .int (nI ks), .ref mq, .ref mu, .long hsh])), (mp, .inl (g.2.1 0, 22, .inl qf)), (mr, .inl (g.2.1 0, 12, .inl ef_1)), (mk, .inl (g.2.1 0, 2, .inl gf_1))]) H := hP
  have hD : va_D A ([] ++ [(mo, .inr (11, [.ref mt, .ref mb, .ref mp, .int (nI qn), .ref mr, .int (nI rm_1), .int rs_1, .ref mk, .int (nI zt_1), .int (nI T), .int go, .int (nI th), .int (nI nh), .ref mw, .ref mc, .ref mn, .ref mx, .int (nI sm), .ref ms, .int se, .ref mv, .int kh, .int kg, .int (nI kt), .int (nI ks), .ref mq, .ref mu, .long hsh])), (mp, .inl (g.2.1 0, 22, .inl qf)), (mr, .inl (g.2.1 0, 12, .inl ef_1)), (mk, .inl (g.2.1 0, 2, .inl gf_1))]) := hD
  have hP9 := hP.sub (ws' := [(mo, .inr (11, [.ref mt, .ref mb, .ref mp, .int (nI qn), .ref mr, .int (nI rm_1), .int rs_1, .ref mk, .int (nI zt_1), .int (nI T), .int go, .int (nI th), .int (nI nh), .ref mw, .ref mc, .ref mn, .ref mx, .int (nI sm), .ref ms, .int se, .ref mv, .int kh, .int kg, .int (nI kt), .int (nI ks), .ref mq, .ref mu, .long hsh])), (mp, .inl (g.2.1 0, 22, .inl qf)), (mr, .inl (g.2.1 0, 12, .inl ef_1)), (mk, .inl (g.2.1 0, 2, .inl gf_1))]) [0, 1, 2, 3] rfl
  have hD9 := hD.sub (ws' := [(mo, .inr (11, [.ref mt, .ref mb, .ref mp, .int (nI qn), .ref mr, .int (nI rm_1), .int rs_1, .ref mk, .int (nI zt_1), .int (nI T), .int go, .int (nI th), .int (nI nh), .ref mw, .ref mc, .ref mn, .ref mx, .int (nI sm), .ref ms, .int se, .ref mv, .int kh, .int kg, .int (nI kt), .int (nI ks), .ref mq, .ref mu, .long hsh])), (mp, .inl (g.2.1 0, 22, .inl qf)), (mr, .inl (g.2.1 0, 12, .inl ef_1)), (mk, .inl (g.2.1 0, 2, .inl gf_1))]) [0, 1, 2, 3] (by decide) rfl
  exact kd_iret hx hb hr hlocks hK hS dX11_fault_4 ((rm_1, rs_1, zt_1, ef_1, gf_1)) (by obtain ⟨e0_0, e0_1, e0_2, e0_3, e0_4, e0_5⟩ := kd_eq6 hw_1; (try rewrite [e0_0]); (try rewrite [e0_1]); (try rewrite [e0_2]); (try rewrite [e0_3]); (try rewrite [e0_4]); (try rewrite [e0_5]); rfl) hP9 hD9
/-- what KingdomAtDiceModel.lacks answers and leaves, by its instructions -/
def sp_X11_lacks (T : Nat) : Int32 :=
  if (nI T) = 0 then
    1
  else
    0
theorem zb_X11_lacks (T : Nat) : sp_X11_lacks T = 0 ∨ sp_X11_lacks T = 1 := by
  unfold sp_X11_lacks
  repeat' split
  all_goals first | exact Or.inl rfl | exact Or.inr rfl | simp
set_option maxHeartbeats 4000000 in
set_option maxRecDepth 100000 in
theorem c_X11_lacks (l : Launch) (g : kd_G) (sz : Nat) (mo : Nat) (mt : Nat) (mb : Nat) (mp : Nat) (qn : Nat) (mr : Nat) (rm : Nat) (rs : Int32) (mk : Nat) (zt : Nat) (T : Nat) (go : Int32) (th : Nat) (nh : Nat) (mw : Nat) (mc : Nat) (mn : Nat) (mx : Nat) (sm : Nat) (ms : Nat) (se : Int32) (mv : Nat) (kh : Int32) (kg : Int32) (kt : Nat) (ks : Nat) (mq : Nat) (mu : Nat) (hsh : Int64) (hT : T ≤ 6) : kd_MI l yX11_lacks wsX11_lacks ({ frames := 0, cells := 0, slots := 0, locals := 0 }) [.ref mo] g [(mo, .inr (11, [.ref mt, .ref mb, .ref mp, .int (nI qn), .ref mr, .int (nI rm), .int rs, .ref mk, .int (nI zt), .int (nI T), .int go, .int (nI th), .int (nI nh), .ref mw, .ref mc, .ref mn, .ref mx, .int (nI sm), .ref ms, .int se, .ref mv, .int kh, .int kg, .int (nI kt), .int (nI ks), .ref mq, .ref mu, .long hsh]))] sz (fun r (_ : Unit) => r = sp_X11_lacks T) (fun _ => [(mo, .inr (11, [.ref mt, .ref mb, .ref mp, .int (nI qn), .ref mr, .int (nI rm), .int rs, .ref mk, .int (nI zt), .int (nI T), .int go, .int (nI th), .int (nI nh), .ref mw, .ref mc, .ref mn, .ref mx, .int (nI sm), .ref ms, .int se, .ref mv, .int kh, .int kg, .int (nI kt), .int (nI ks), .ref mq, .ref mu, .long hsh]))]) 0 0 := by
  refine kd_met (l := l) (y := yX11_lacks) (ws := wsX11_lacks) (rm := { frames := 0, cells := 0, slots := 0, locals := 0 }) (av := [.ref mo]) (g := g) (WS := [(mo, .inr (11, [.ref mt, .ref mb, .ref mp, .int (nI qn), .ref mr, .int (nI rm), .int rs, .ref mk, .int (nI zt), .int (nI T), .int go, .int (nI th), .int (nI nh), .ref mw, .ref mc, .ref mn, .ref mx, .int (nI sm), .ref ms, .int se, .ref mv, .int kh, .int kg, .int (nI kt), .int (nI ks), .ref mq, .ref mu, .long hsh]))]) (sz := sz) (mc := 0) (ms := 0) (cc := cX11_lacks) (maxL := 1) (ret := (some .boolean)) (own := RX11) (fun A => va_Qi (fun r (_ : Unit) => r = sp_X11_lacks T) (fun u t => kd_post g A [(mo, .inr (11, [.ref mt, .ref mb, .ref mp, .int (nI qn), .ref mr, .int (nI rm), .int rs, .ref mk, .int (nI zt), .int (nI T), .int go, .int (nI th), .int (nI nh), .ref mw, .ref mc, .ref mn, .ref mx, .int (nI sm), .ref ms, .int se, .ref mv, .int kh, .int kg, .int (nI kt), .int (nI ks), .ref mq, .ref mu, .long hsh]))] t) A) (by decide) rfl rfl (Nat.le_of_ble_eq_true rfl) ?_
  intro p e s m below meth c A ls hx hb hr hml hts hown hlocks hnm hA hP hK hD hS hE hl
  have hl : lv_has ls 1 [(0, .ref mo)] := hl
  have hiX11 : ∀ w ∈ u_ws RX11 TX11 28, w ∈ wsX11_lacks := by decide +kernel
  refine lv_aload_n hx hb dX11_lacks_0 rfl (lv_at hl 0 rfl) ?_
  refine va_get (ci := 11) (v := .int (nI T)) (C := RX11) (T := TX11) (N := 28) hx hb hts hiX11 hown hK hP (0) rfl rfl 9 (by decide) (hts (.fieldLink RX11 102 "KingdomAtDiceModel" "things" "I") (by decide +kernel)) (fun _ h9 => h9) rfl dX11_lacks_1 ?_
  refine lv_if_ne (tgt := 11) hx hb dX11_lacks_4 (by decide) (fun c_4 => ?_) (fun c_4 => ?_)
  · have n_4 : ¬ T = 0 := kd_cnq (a := T) (b := 0) (by omega) (by omega) c_4
    refine lv_iconst (v := 0) hx hb dX11_lacks_11 (by decide) ?_
    exact kd_zret hx hb hr hlocks hK hS dX11_lacks_12 (Or.inl rfl) (()) (by rw [sp_X11_lacks, if_neg c_4]) hP hD
  · have n_4 : T = 0 := kd_cq (a := T) (b := 0) (by omega) (by omega) c_4
    refine lv_iconst (v := 1) hx hb dX11_lacks_7 (by decide) ?_
    refine lv_goto (tgt := 12) hx hb dX11_lacks_8 (by decide) ?_
    exact kd_zret hx hb hr hlocks hK hS dX11_lacks_12 (Or.inr rfl) (()) (by rw [sp_X11_lacks, if_pos c_4]) hP hD
/-- what KingdomAtDiceModel.isThing answers and leaves, by its instructions -/
def sp_X11_isThing (T : Nat) (p0 : Int32) : Int32 :=
  sp_X11_in p0.toInt64 0 (((nI T) - 1).toInt64)
theorem zb_X11_isThing (T : Nat) (p0 : Int32) : sp_X11_isThing T p0 = 0 ∨ sp_X11_isThing T p0 = 1 := by
  unfold sp_X11_isThing
  repeat' split
  all_goals first | exact Or.inl rfl | exact Or.inr rfl | simp | exact zb_X11_in _ _ _
set_option maxHeartbeats 4000000 in
set_option maxRecDepth 100000 in
theorem c_X11_isThing (l : Launch) (g : kd_G) (sz : Nat) (mo : Nat) (mt : Nat) (mb : Nat) (mp : Nat) (qn : Nat) (mr : Nat) (rm : Nat) (rs : Int32) (mk : Nat) (zt : Nat) (T : Nat) (go : Int32) (th : Nat) (nh : Nat) (mw : Nat) (mc : Nat) (mn : Nat) (mx : Nat) (sm : Nat) (ms : Nat) (se : Int32) (mv : Nat) (kh : Int32) (kg : Int32) (kt : Nat) (ks : Nat) (mq : Nat) (mu : Nat) (hsh : Int64) (p0 : Int32) (hT : T ≤ 6) : kd_MI l yX11_isThing wsX11_isThing ({ frames := 1, cells := 0, slots := 0, locals := 25 }) [.ref mo, .int p0] g [(mo, .inr (11, [.ref mt, .ref mb, .ref mp, .int (nI qn), .ref mr, .int (nI rm), .int rs, .ref mk, .int (nI zt), .int (nI T), .int go, .int (nI th), .int (nI nh), .ref mw, .ref mc, .ref mn, .ref mx, .int (nI sm), .ref ms, .int se, .ref mv, .int kh, .int kg, .int (nI kt), .int (nI ks), .ref mq, .ref mu, .long hsh]))] sz (fun r (_ : Unit) => r = sp_X11_isThing T p0) (fun _ => [(mo, .inr (11, [.ref mt, .ref mb, .ref mp, .int (nI qn), .ref mr, .int (nI rm), .int rs, .ref mk, .int (nI zt), .int (nI T), .int go, .int (nI th), .int (nI nh), .ref mw, .ref mc, .ref mn, .ref mx, .int (nI sm), .ref ms, .int se, .ref mv, .int kh, .int kg, .int (nI kt), .int (nI ks), .ref mq, .ref mu, .long hsh]))]) 0 0 := by
  refine kd_met (l := l) (y := yX11_isThing) (ws := wsX11_isThing) (rm := { frames := 1, cells := 0, slots := 0, locals := 25 }) (av := [.ref mo, .int p0]) (g := g) (WS := [(mo, .inr (11, [.ref mt, .ref mb, .ref mp, .int (nI qn), .ref mr, .int (nI rm), .int rs, .ref mk, .int (nI zt), .int (nI T), .int go, .int (nI th), .int (nI nh), .ref mw, .ref mc, .ref mn, .ref mx, .int (nI sm), .ref ms, .int se, .ref mv, .int kh, .int kg, .int (nI kt), .int (nI ks), .ref mq, .ref mu, .long hsh]))]) (sz := sz) (mc := 0) (ms := 0) (cc := cX11_isThing) (maxL := 2) (ret := (some .boolean)) (own := RX11) (fun A => va_Qi (fun r (_ : Unit) => r = sp_X11_isThing T p0) (fun u t => kd_post g A [(mo, .inr (11, [.ref mt, .ref mb, .ref mp, .int (nI qn), .ref mr, .int (nI rm), .int rs, .ref mk, .int (nI zt), .int (nI T), .int go, .int (nI th), .int (nI nh), .ref mw, .ref mc, .ref mn, .ref mx, .int (nI sm), .ref ms, .int se, .ref mv, .int kh, .int kg, .int (nI kt), .int (nI ks), .ref mq, .ref mu, .long hsh]))] t) A) (by decide) rfl rfl (Nat.le_of_ble_eq_true rfl) ?_
  intro p e s m below meth c A ls hx hb hr hml hts hown hlocks hnm hA hP hK hD hS hE hl
  have hl : lv_has ls 2 [(0, .ref mo), (1, .int p0)] := hl
  have hiX11 : ∀ w ∈ u_ws RX11 TX11 28, w ∈ wsX11_isThing := by decide +kernel
  refine lv_iload_n hx hb dX11_isThing_0 rfl (lv_at hl 1 rfl) ?_
  refine lv_i2l hx hb dX11_isThing_1 rfl ?_
  refine lv_lconst (v := 0) hx hb dX11_isThing_2 (by decide) ?_
  refine lv_aload_n hx hb dX11_isThing_3 rfl (lv_at hl 0 rfl) ?_
  refine va_get (ci := 11) (v := .int (nI T)) (C := RX11) (T := TX11) (N := 28) hx hb hts hiX11 hown hK hP (0) rfl rfl 9 (by decide) (hts (.fieldLink RX11 102 "KingdomAtDiceModel" "things" "I") (by decide +kernel)) (fun _ h9 => h9) rfl dX11_isThing_4 ?_
  refine lv_iconst (v := 1) hx hb dX11_isThing_7 (by decide) ?_
  refine lv_isub hx hb dX11_isThing_8 ?_
  refine lv_i2l hx hb dX11_isThing_9 rfl ?_
  refine kd_callIK (g := g) (wc := []) (va_runS (mc := 0) (ms := 0) (rm := { frames := 0, cells := 0, slots := 0, locals := 0 }) (As := [.long p0.toInt64, .long 0, .long (((nI T) - 1).toInt64)]) (rest := []) ⟨hx, hb, hml, hown, hts⟩ (c_X11_in l g s.heap.size p0.toInt64 0 (((nI T) - 1).toInt64) ) (va_cwS 3 hts gX11_isThing_X11_in rfl rfl rfl (by decide +kernel) ⟨Nat.le_of_ble_eq_true rfl, Nat.le_of_ble_eq_true rfl⟩) (kd_preS (wc := []) (av := [.long p0.toInt64, .long 0, .long (((nI T) - 1).toInt64)]) hP hD hS hA hK hE [] rfl (by decide)) rfl rfl hl.1 rfl (lv_room (Nat.le_of_ble_eq_true rfl)) dX11_isThing_10 ⟨Nat.le_of_ble_eq_true rfl, Nat.le_of_ble_eq_true rfl⟩) hP hD hS hA [] rfl (fun r_10 _ H locs hw hP hS => ?_)
  subst hw
  exact kd_zret hx hb hr hlocks hK hS dX11_isThing_13 (zb_X11_in _ _ _) (()) (rfl) hP hD
theorem kd_isThing {T : Nat} {x : Int32} (h : ¬ sp_X11_isThing T x = 0) (hT : T ≤ 6) : x = nI x.toNatClampNeg ∧ x.toNatClampNeg < T := by
  unfold sp_X11_isThing at h
  rcases (show T = 0 ∨ T = 1 ∨ T = 2 ∨ T = 3 ∨ T = 4 ∨ T = 5 ∨ T = 6 by omega) with rfl | rfl | rfl | rfl | rfl | rfl | rfl
  · obtain ⟨h1, h2⟩ := kd_in h
    rw [Int64.le_iff_toInt_le] at h1 h2
    have e : (0 : Int64).toInt = 0 := by decide
    have e2 : ((nI 0 : Int32) - 1).toInt64.toInt = -1 := by decide
    rw [e2] at h2
    omega
  · exact (kd_inI (n := 0) h (by decide) (by decide)).imp id (by omega)
  · exact (kd_inI (n := 1) h (by decide) (by decide)).imp id (by omega)
  · exact (kd_inI (n := 2) h (by decide) (by decide)).imp id (by omega)
  · exact (kd_inI (n := 3) h (by decide) (by decide)).imp id (by omega)
  · exact (kd_inI (n := 4) h (by decide) (by decide)).imp id (by omega)
  · exact (kd_inI (n := 5) h (by decide) (by decide)).imp id (by omega)
/-- what KingdomAtDiceModel.isOne answers and leaves, by its instructions -/
def sp_X11_isOne (T : Nat) (p0 : Int32) : Int32 :=
  if (sp_X11_lacks T) = 0 then
    if (sp_X11_in p0.toInt64 0 1) = 0 then
      0
    else
      1
  else
    0
theorem zb_X11_isOne (T : Nat) (p0 : Int32) : sp_X11_isOne T p0 = 0 ∨ sp_X11_isOne T p0 = 1 := by
  unfold sp_X11_isOne
  repeat' split
  all_goals first | exact Or.inl rfl | exact Or.inr rfl | simp
set_option maxHeartbeats 4000000 in
set_option maxRecDepth 100000 in
theorem c_X11_isOne (l : Launch) (g : kd_G) (sz : Nat) (mo : Nat) (mt : Nat) (mb : Nat) (mp : Nat) (qn : Nat) (mr : Nat) (rm : Nat) (rs : Int32) (mk : Nat) (zt : Nat) (T : Nat) (go : Int32) (th : Nat) (nh : Nat) (mw : Nat) (mc : Nat) (mn : Nat) (mx : Nat) (sm : Nat) (ms : Nat) (se : Int32) (mv : Nat) (kh : Int32) (kg : Int32) (kt : Nat) (ks : Nat) (mq : Nat) (mu : Nat) (hsh : Int64) (p0 : Int32) (hT : T ≤ 6) : kd_MI l yX11_isOne wsX11_isOne ({ frames := 1, cells := 0, slots := 0, locals := 25 }) [.ref mo, .int p0] g [(mo, .inr (11, [.ref mt, .ref mb, .ref mp, .int (nI qn), .ref mr, .int (nI rm), .int rs, .ref mk, .int (nI zt), .int (nI T), .int go, .int (nI th), .int (nI nh), .ref mw, .ref mc, .ref mn, .ref mx, .int (nI sm), .ref ms, .int se, .ref mv, .int kh, .int kg, .int (nI kt), .int (nI ks), .ref mq, .ref mu, .long hsh]))] sz (fun r (_ : Unit) => r = sp_X11_isOne T p0) (fun _ => [(mo, .inr (11, [.ref mt, .ref mb, .ref mp, .int (nI qn), .ref mr, .int (nI rm), .int rs, .ref mk, .int (nI zt), .int (nI T), .int go, .int (nI th), .int (nI nh), .ref mw, .ref mc, .ref mn, .ref mx, .int (nI sm), .ref ms, .int se, .ref mv, .int kh, .int kg, .int (nI kt), .int (nI ks), .ref mq, .ref mu, .long hsh]))]) 0 0 := by
  refine kd_met (l := l) (y := yX11_isOne) (ws := wsX11_isOne) (rm := { frames := 1, cells := 0, slots := 0, locals := 25 }) (av := [.ref mo, .int p0]) (g := g) (WS := [(mo, .inr (11, [.ref mt, .ref mb, .ref mp, .int (nI qn), .ref mr, .int (nI rm), .int rs, .ref mk, .int (nI zt), .int (nI T), .int go, .int (nI th), .int (nI nh), .ref mw, .ref mc, .ref mn, .ref mx, .int (nI sm), .ref ms, .int se, .ref mv, .int kh, .int kg, .int (nI kt), .int (nI ks), .ref mq, .ref mu, .long hsh]))]) (sz := sz) (mc := 0) (ms := 0) (cc := cX11_isOne) (maxL := 2) (ret := (some .boolean)) (own := RX11) (fun A => va_Qi (fun r (_ : Unit) => r = sp_X11_isOne T p0) (fun u t => kd_post g A [(mo, .inr (11, [.ref mt, .ref mb, .ref mp, .int (nI qn), .ref mr, .int (nI rm), .int rs, .ref mk, .int (nI zt), .int (nI T), .int go, .int (nI th), .int (nI nh), .ref mw, .ref mc, .ref mn, .ref mx, .int (nI sm), .ref ms, .int se, .ref mv, .int kh, .int kg, .int (nI kt), .int (nI ks), .ref mq, .ref mu, .long hsh]))] t) A) (by decide) rfl rfl (Nat.le_of_ble_eq_true rfl) ?_
  intro p e s m below meth c A ls hx hb hr hml hts hown hlocks hnm hA hP hK hD hS hE hl
  have hl : lv_has ls 2 [(0, .ref mo), (1, .int p0)] := hl
  refine lv_aload_n hx hb dX11_isOne_0 rfl (lv_at hl 0 rfl) ?_
  refine kd_callIK (g := g) (wc := [(mo, .inr (11, [.ref mt, .ref mb, .ref mp, .int (nI qn), .ref mr, .int (nI rm), .int rs, .ref mk, .int (nI zt), .int (nI T), .int go, .int (nI th), .int (nI nh), .ref mw, .ref mc, .ref mn, .ref mx, .int (nI sm), .ref ms, .int se, .ref mv, .int kh, .int kg, .int (nI kt), .int (nI ks), .ref mq, .ref mu, .long hsh]))]) (va_runV (mc := 0) (ms := 0) (rm := { frames := 0, cells := 0, slots := 0, locals := 0 }) (As := []) (rest := []) ⟨hx, hb, hml, hown, hts⟩ (c_X11_lacks l g s.heap.size mo mt mb mp qn mr rm rs mk zt T go th nh mw mc mn mx sm ms se mv kh kg kt ks mq mu hsh hT) (cwV 0 hts gX11_isOne_X11_lacks rfl rfl rfl (by decide +kernel) ⟨Nat.le_of_ble_eq_true rfl, Nat.le_of_ble_eq_true rfl⟩) (kd_preV (wc := [(mo, .inr (11, [.ref mt, .ref mb, .ref mp, .int (nI qn), .ref mr, .int (nI rm), .int rs, .ref mk, .int (nI zt), .int (nI T), .int go, .int (nI th), .int (nI nh), .ref mw, .ref mc, .ref mn, .ref mx, .int (nI sm), .ref ms, .int se, .ref mv, .int kh, .int kg, .int (nI kt), .int (nI ks), .ref mq, .ref mu, .long hsh]))]) (va_recv hK hP (ci := 11) (q0 := 0) rfl rfl) hP hD hS hA hK hE [0] rfl (by decide)) rfl rfl hl.1 rfl (lv_room (Nat.le_of_ble_eq_true rfl)) dX11_isOne_1 ⟨Nat.le_of_ble_eq_true rfl, Nat.le_of_ble_eq_true rfl⟩) hP hD hS hA [0] rfl (fun r_1 _ H locs hw hP hS => ?_)
  subst hw
  refine lv_if_ne (tgt := 21) hx hb dX11_isOne_4 (by decide) (fun c_4 => ?_) (fun c_4 => ?_)
  · refine lv_iconst (v := 0) hx hb dX11_isOne_21 (by decide) ?_
    exact kd_zret hx hb hr hlocks hK hS dX11_isOne_22 (Or.inl rfl) (()) (by rw [sp_X11_isOne, if_neg c_4]) hP hD
  · refine lv_iload_n hx hb dX11_isOne_7 rfl (lv_at hl 1 rfl) ?_
    refine lv_i2l hx hb dX11_isOne_8 rfl ?_
    refine lv_lconst (v := 0) hx hb dX11_isOne_9 (by decide) ?_
    refine lv_lconst (v := 1) hx hb dX11_isOne_10 (by decide) ?_
    refine kd_callIK (g := g) (wc := []) (va_runS (mc := 0) (ms := 0) (rm := { frames := 0, cells := 0, slots := 0, locals := 0 }) (As := [.long p0.toInt64, .long 0, .long 1]) (rest := []) ⟨hx, hb, hml, hown, hts⟩ (c_X11_in l g H.size p0.toInt64 0 1 ) (va_cwS 3 hts gX11_isOne_X11_in rfl rfl rfl (by decide +kernel) ⟨Nat.le_of_ble_eq_true rfl, Nat.le_of_ble_eq_true rfl⟩) (kd_preS (wc := []) (av := [.long p0.toInt64, .long 0, .long 1]) hP hD hS hA hK hE [] rfl (by decide)) rfl rfl hl.1 rfl (lv_room (Nat.le_of_ble_eq_true rfl)) dX11_isOne_11 ⟨Nat.le_of_ble_eq_true rfl, Nat.le_of_ble_eq_true rfl⟩) hP hD hS hA [] rfl (fun r_11 _ H locs hw hP hS => ?_)
    subst hw
    refine lv_if_eq (tgt := 21) hx hb dX11_isOne_14 (by decide) (fun c_14 => ?_) (fun c_14 => ?_)
    · refine lv_iconst (v := 0) hx hb dX11_isOne_21 (by decide) ?_
      exact kd_zret hx hb hr hlocks hK hS dX11_isOne_22 (Or.inl rfl) (()) (by rw [sp_X11_isOne, if_pos c_4, if_pos c_14]) hP hD
    · refine lv_iconst (v := 1) hx hb dX11_isOne_17 (by decide) ?_
      refine lv_goto (tgt := 22) hx hb dX11_isOne_18 (by decide) ?_
      exact kd_zret hx hb hr hlocks hK hS dX11_isOne_22 (Or.inr rfl) (()) (by rw [sp_X11_isOne, if_pos c_4, if_neg c_14]) hP hD
/-- what KingdomAtDiceModel.isKings answers and leaves, by its instructions -/
def sp_X11_isKings (rf : Nat → Int32) (t : Nat) : Int32 :=
  if (rf ((6 * t) + 2)) = 0 then
    1
  else
    0
theorem zb_X11_isKings (rf : Nat → Int32) (t : Nat) : sp_X11_isKings rf t = 0 ∨ sp_X11_isKings rf t = 1 := by
  unfold sp_X11_isKings
  repeat' split
  all_goals first | exact Or.inl rfl | exact Or.inr rfl | simp
set_option maxHeartbeats 4000000 in
set_option maxRecDepth 100000 in
theorem c_X11_isKings (l : Launch) (g : kd_G) (sz : Nat) (mo : Nat) (mt : Nat) (mb : Nat) (mp : Nat) (qn : Nat) (mr : Nat) (rm : Nat) (rs : Int32) (mk : Nat) (zt : Nat) (T : Nat) (go : Int32) (th : Nat) (nh : Nat) (mw : Nat) (mc : Nat) (mn : Nat) (mx : Nat) (sm : Nat) (ms : Nat) (se : Int32) (mv : Nat) (kh : Int32) (kg : Int32) (kt : Nat) (ks : Nat) (mq : Nat) (mu : Nat) (hsh : Int64) (rf : Nat → Int32) (t : Nat) (ht : t < 6) : kd_MI l yX11_isKings wsX11_isKings ({ frames := 0, cells := 0, slots := 0, locals := 0 }) [.ref mo, .int (nI t)] g [(mo, .inr (11, [.ref mt, .ref mb, .ref mp, .int (nI qn), .ref mr, .int (nI rm), .int rs, .ref mk, .int (nI zt), .int (nI T), .int go, .int (nI th), .int (nI nh), .ref mw, .ref mc, .ref mn, .ref mx, .int (nI sm), .ref ms, .int se, .ref mv, .int kh, .int kg, .int (nI kt), .int (nI ks), .ref mq, .ref mu, .long hsh])), (mw, .inl (g.2.1 0, 36, .inl rf))] sz (fun r (_ : Unit) => r = sp_X11_isKings rf t) (fun _ => [(mo, .inr (11, [.ref mt, .ref mb, .ref mp, .int (nI qn), .ref mr, .int (nI rm), .int rs, .ref mk, .int (nI zt), .int (nI T), .int go, .int (nI th), .int (nI nh), .ref mw, .ref mc, .ref mn, .ref mx, .int (nI sm), .ref ms, .int se, .ref mv, .int kh, .int kg, .int (nI kt), .int (nI ks), .ref mq, .ref mu, .long hsh])), (mw, .inl (g.2.1 0, 36, .inl rf))]) 0 0 := by
  refine kd_met (l := l) (y := yX11_isKings) (ws := wsX11_isKings) (rm := { frames := 0, cells := 0, slots := 0, locals := 0 }) (av := [.ref mo, .int (nI t)]) (g := g) (WS := [(mo, .inr (11, [.ref mt, .ref mb, .ref mp, .int (nI qn), .ref mr, .int (nI rm), .int rs, .ref mk, .int (nI zt), .int (nI T), .int go, .int (nI th), .int (nI nh), .ref mw, .ref mc, .ref mn, .ref mx, .int (nI sm), .ref ms, .int se, .ref mv, .int kh, .int kg, .int (nI kt), .int (nI ks), .ref mq, .ref mu, .long hsh])), (mw, .inl (g.2.1 0, 36, .inl rf))]) (sz := sz) (mc := 0) (ms := 0) (cc := cX11_isKings) (maxL := 2) (ret := (some .boolean)) (own := RX11) (fun A => va_Qi (fun r (_ : Unit) => r = sp_X11_isKings rf t) (fun u t => kd_post g A [(mo, .inr (11, [.ref mt, .ref mb, .ref mp, .int (nI qn), .ref mr, .int (nI rm), .int rs, .ref mk, .int (nI zt), .int (nI T), .int go, .int (nI th), .int (nI nh), .ref mw, .ref mc, .ref mn, .ref mx, .int (nI sm), .ref ms, .int se, .ref mv, .int kh, .int kg, .int (nI kt), .int (nI ks), .ref mq, .ref mu, .long hsh])), (mw, .inl (g.2.1 0, 36, .inl rf))] t) A) (by decide) rfl rfl (Nat.le_of_ble_eq_true rfl) ?_
  intro p e s m below meth c A ls hx hb hr hml hts hown hlocks hnm hA hP hK hD hS hE hl
  have hl : lv_has ls 2 [(0, .ref mo), (1, .int (nI t))] := hl
  have hiX11 : ∀ w ∈ u_ws RX11 TX11 28, w ∈ wsX11_isKings := by decide +kernel
  refine lv_aload_n hx hb dX11_isKings_0 rfl (lv_at hl 0 rfl) ?_
  refine va_get (ci := 11) (v := .ref mw) (C := RX11) (T := TX11) (N := 28) hx hb hts hiX11 hown hK hP (0) rfl rfl 13 (by decide) (hts (.fieldLink RX11 25 "KingdomAtDiceModel" "rows" "[I") (by decide +kernel)) (fun _ h9 => h9) rfl dX11_isKings_1 ?_
  refine lv_bipush (v := 6) hx hb dX11_isKings_4 (by decide) ?_
  refine lv_iload_n hx hb dX11_isKings_6 rfl (lv_at hl 1 rfl) ?_
  refine lv_imul hx hb dX11_isKings_7 ?_
  refine kd_top (pk_mul 6 t) ?_
  refine lv_iconst (v := 2) hx hb dX11_isKings_8 (by decide) ?_
  refine lv_iadd hx hb dX11_isKings_9 ?_
  refine kd_top (nI_add (6 * t) 2) ?_
  refine kd_iald hx hb hK hP 1 (k := (6 * t) + 2) rfl (by omega) (by decide) dX11_isKings_10 ?_
  refine lv_if_ne (tgt := 18) hx hb dX11_isKings_11 (by decide) (fun c_11 => ?_) (fun c_11 => ?_)
  · refine lv_iconst (v := 0) hx hb dX11_isKings_18 (by decide) ?_
    exact kd_zret hx hb hr hlocks hK hS dX11_isKings_19 (Or.inl rfl) (()) (by rw [sp_X11_isKings, if_neg c_11]) hP hD
  · refine lv_iconst (v := 1) hx hb dX11_isKings_14 (by decide) ?_
    refine lv_goto (tgt := 19) hx hb dX11_isKings_15 (by decide) ?_
    exact kd_zret hx hb hr hlocks hK hS dX11_isKings_19 (Or.inr rfl) (()) (by rw [sp_X11_isKings, if_pos c_11]) hP hD
/-- what KingdomAtDiceModel.thing answers and leaves, by its instructions -/
def sp_X11_thing (T : Nat) (rf : Nat → Int32) (p0 : Int32) (p1 : Int32) : Int32 :=
  if (sp_X11_isThing T p0) = 0 then
    (-101)
  else
    if (sp_X11_in p1.toInt64 0 5) = 0 then
      (-102)
    else
      rf ((6 * p0.toNatClampNeg) + p1.toNatClampNeg)
set_option maxHeartbeats 4000000 in
set_option maxRecDepth 100000 in
theorem c_X11_thing (l : Launch) (g : kd_G) (sz : Nat) (mo : Nat) (mt : Nat) (mb : Nat) (mp : Nat) (qn : Nat) (mr : Nat) (rm : Nat) (rs : Int32) (mk : Nat) (zt : Nat) (T : Nat) (go : Int32) (th : Nat) (nh : Nat) (mw : Nat) (mc : Nat) (mn : Nat) (mx : Nat) (sm : Nat) (ms : Nat) (se : Int32) (mv : Nat) (kh : Int32) (kg : Int32) (kt : Nat) (ks : Nat) (mq : Nat) (mu : Nat) (hsh : Int64) (rf : Nat → Int32) (p0 : Int32) (p1 : Int32) (hT : T ≤ 6) : kd_MI l yX11_thing wsX11_thing ({ frames := 2, cells := 0, slots := 0, locals := 46 }) [.ref mo, .int p0, .int p1] g [(mo, .inr (11, [.ref mt, .ref mb, .ref mp, .int (nI qn), .ref mr, .int (nI rm), .int rs, .ref mk, .int (nI zt), .int (nI T), .int go, .int (nI th), .int (nI nh), .ref mw, .ref mc, .ref mn, .ref mx, .int (nI sm), .ref ms, .int se, .ref mv, .int kh, .int kg, .int (nI kt), .int (nI ks), .ref mq, .ref mu, .long hsh])), (mw, .inl (g.2.1 0, 36, .inl rf))] sz (fun r (_ : Unit) => r = sp_X11_thing T rf p0 p1) (fun _ => [(mo, .inr (11, [.ref mt, .ref mb, .ref mp, .int (nI qn), .ref mr, .int (nI rm), .int rs, .ref mk, .int (nI zt), .int (nI T), .int go, .int (nI th), .int (nI nh), .ref mw, .ref mc, .ref mn, .ref mx, .int (nI sm), .ref ms, .int se, .ref mv, .int kh, .int kg, .int (nI kt), .int (nI ks), .ref mq, .ref mu, .long hsh])), (mw, .inl (g.2.1 0, 36, .inl rf))]) 0 0 := by
  refine kd_met (l := l) (y := yX11_thing) (ws := wsX11_thing) (rm := { frames := 2, cells := 0, slots := 0, locals := 46 }) (av := [.ref mo, .int p0, .int p1]) (g := g) (WS := [(mo, .inr (11, [.ref mt, .ref mb, .ref mp, .int (nI qn), .ref mr, .int (nI rm), .int rs, .ref mk, .int (nI zt), .int (nI T), .int go, .int (nI th), .int (nI nh), .ref mw, .ref mc, .ref mn, .ref mx, .int (nI sm), .ref ms, .int se, .ref mv, .int kh, .int kg, .int (nI kt), .int (nI ks), .ref mq, .ref mu, .long hsh])), (mw, .inl (g.2.1 0, 36, .inl rf))]) (sz := sz) (mc := 0) (ms := 0) (cc := cX11_thing) (maxL := 3) (ret := (some .int)) (own := RX11) (fun A => va_Qi (fun r (_ : Unit) => r = sp_X11_thing T rf p0 p1) (fun u t => kd_post g A [(mo, .inr (11, [.ref mt, .ref mb, .ref mp, .int (nI qn), .ref mr, .int (nI rm), .int rs, .ref mk, .int (nI zt), .int (nI T), .int go, .int (nI th), .int (nI nh), .ref mw, .ref mc, .ref mn, .ref mx, .int (nI sm), .ref ms, .int se, .ref mv, .int kh, .int kg, .int (nI kt), .int (nI ks), .ref mq, .ref mu, .long hsh])), (mw, .inl (g.2.1 0, 36, .inl rf))] t) A) (by decide) rfl rfl (Nat.le_of_ble_eq_true rfl) ?_
  intro p e s m below meth c A ls hx hb hr hml hts hown hlocks hnm hA hP hK hD hS hE hl
  have hl : lv_has ls 3 [(0, .ref mo), (1, .int p0), (2, .int p1)] := hl
  have hiX11 : ∀ w ∈ u_ws RX11 TX11 28, w ∈ wsX11_thing := by decide +kernel
  refine lv_aload_n hx hb dX11_thing_0 rfl (lv_at hl 0 rfl) ?_
  refine lv_iload_n hx hb dX11_thing_1 rfl (lv_at hl 1 rfl) ?_
  refine kd_callIK (g := g) (wc := [(mo, .inr (11, [.ref mt, .ref mb, .ref mp, .int (nI qn), .ref mr, .int (nI rm), .int rs, .ref mk, .int (nI zt), .int (nI T), .int go, .int (nI th), .int (nI nh), .ref mw, .ref mc, .ref mn, .ref mx, .int (nI sm), .ref ms, .int se, .ref mv, .int kh, .int kg, .int (nI kt), .int (nI ks), .ref mq, .ref mu, .long hsh]))]) (va_runV (mc := 0) (ms := 0) (rm := { frames := 1, cells := 0, slots := 0, locals := 25 }) (As := [.int p0]) (rest := []) ⟨hx, hb, hml, hown, hts⟩ (c_X11_isThing l g s.heap.size mo mt mb mp qn mr rm rs mk zt T go th nh mw mc mn mx sm ms se mv kh kg kt ks mq mu hsh p0 hT) (cwV 1 hts gX11_thing_X11_isThing rfl rfl rfl (by decide +kernel) ⟨Nat.le_of_ble_eq_true rfl, Nat.le_of_ble_eq_true rfl⟩) (kd_preV (wc := [(mo, .inr (11, [.ref mt, .ref mb, .ref mp, .int (nI qn), .ref mr, .int (nI rm), .int rs, .ref mk, .int (nI zt), .int (nI T), .int go, .int (nI th), .int (nI nh), .ref mw, .ref mc, .ref mn, .ref mx, .int (nI sm), .ref ms, .int se, .ref mv, .int kh, .int kg, .int (nI kt), .int (nI ks), .ref mq, .ref mu, .long hsh]))]) (va_recv hK hP (ci := 11) (q0 := 0) rfl rfl) hP hD hS hA hK hE [0] rfl (by decide)) rfl rfl hl.1 rfl (lv_room (Nat.le_of_ble_eq_true rfl)) dX11_thing_2 ⟨Nat.le_of_ble_eq_true rfl, Nat.le_of_ble_eq_true rfl⟩) hP hD hS hA [0] rfl (fun r_2 _ H locs hw hP hS => ?_)
  subst hw
  refine lv_if_ne (tgt := 11) hx hb dX11_thing_5 (by decide) (fun c_5 => ?_) (fun c_5 => ?_)
  · refine lv_iload_n hx hb dX11_thing_11 rfl (lv_at hl 2 rfl) ?_
    refine lv_i2l hx hb dX11_thing_12 rfl ?_
    refine lv_lconst (v := 0) hx hb dX11_thing_13 (by decide) ?_
    refine lv_ldc2 (v := 5) hx hb hown (hts (.constantLong RX11 128 5) (by decide +kernel)) dX11_thing_14 ?_
    refine kd_callIK (g := g) (wc := []) (va_runS (mc := 0) (ms := 0) (rm := { frames := 0, cells := 0, slots := 0, locals := 0 }) (As := [.long p1.toInt64, .long 0, .long 5]) (rest := []) ⟨hx, hb, hml, hown, hts⟩ (c_X11_in l g H.size p1.toInt64 0 5 ) (va_cwS 3 hts gX11_thing_X11_in rfl rfl rfl (by decide +kernel) ⟨Nat.le_of_ble_eq_true rfl, Nat.le_of_ble_eq_true rfl⟩) (kd_preS (wc := []) (av := [.long p1.toInt64, .long 0, .long 5]) hP hD hS hA hK hE [] rfl (by decide)) rfl rfl hl.1 rfl (lv_room (Nat.le_of_ble_eq_true rfl)) dX11_thing_17 ⟨Nat.le_of_ble_eq_true rfl, Nat.le_of_ble_eq_true rfl⟩) hP hD hS hA [] rfl (fun r_17 _ H locs hw hP hS => ?_)
    subst hw
    refine lv_if_eq (tgt := 37) hx hb dX11_thing_20 (by decide) (fun c_20 => ?_) (fun c_20 => ?_)
    · refine lv_bipush (v := (-102)) hx hb dX11_thing_37 (by decide) ?_
      exact kd_iret hx hb hr hlocks hK hS dX11_thing_39 (()) (by rw [sp_X11_thing, if_neg c_5, if_pos c_20]) hP hD
    · obtain ⟨hp0, hq0⟩ := kd_isThing c_5 hT
      obtain ⟨hp1, hq1⟩ := kd_inI (n := 5) c_20 (by decide) (by decide)
      refine lv_aload_n hx hb dX11_thing_23 rfl (lv_at hl 0 rfl) ?_
      refine va_get (ci := 11) (v := .ref mw) (C := RX11) (T := TX11) (N := 28) hx hb hts hiX11 hown hK hP (0) rfl rfl 13 (by decide) (hts (.fieldLink RX11 25 "KingdomAtDiceModel" "rows" "[I") (by decide +kernel)) (fun _ h9 => h9) rfl dX11_thing_24 ?_
      refine lv_bipush (v := 6) hx hb dX11_thing_27 (by decide) ?_
      refine lv_iload_n hx hb dX11_thing_29 rfl (lv_at hl 1 rfl) ?_
      refine kd_top (y := nI p0.toNatClampNeg) (hp0) ?_
      refine lv_imul hx hb dX11_thing_30 ?_
      refine kd_top (pk_mul 6 p0.toNatClampNeg) ?_
      refine lv_iload_n hx hb dX11_thing_31 rfl (lv_at hl 2 rfl) ?_
      refine kd_top (y := nI p1.toNatClampNeg) (hp1) ?_
      refine lv_iadd hx hb dX11_thing_32 ?_
      refine kd_top (nI_add (6 * p0.toNatClampNeg) p1.toNatClampNeg) ?_
      refine kd_iald hx hb hK hP 1 (k := (6 * p0.toNatClampNeg) + p1.toNatClampNeg) rfl (by omega) (by decide) dX11_thing_33 ?_
      refine lv_goto (tgt := 39) hx hb dX11_thing_34 (by decide) ?_
      exact kd_iret hx hb hr hlocks hK hS dX11_thing_39 (()) (by rw [sp_X11_thing, if_neg c_5, if_neg c_20]) hP hD
  · refine lv_bipush (v := (-101)) hx hb dX11_thing_8 (by decide) ?_
    exact kd_iret hx hb hr hlocks hK hS dX11_thing_10 (()) (by rw [sp_X11_thing, if_pos c_5]) hP hD

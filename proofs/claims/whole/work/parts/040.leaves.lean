/-- what KingdomAtDice.isBelow answers and leaves, by its instructions -/
def sp_X10_isBelow (p0 : Int32) (p1 : Int32) : Int32 :=
  if p0 < 0 then
    0
  else
    if p1 ≤ p0 then
      0
    else
      1
theorem zb_X10_isBelow (p0 : Int32) (p1 : Int32) : sp_X10_isBelow p0 p1 = 0 ∨ sp_X10_isBelow p0 p1 = 1 := by
  unfold sp_X10_isBelow
  repeat' split
  all_goals first | exact Or.inl rfl | exact Or.inr rfl | simp
set_option maxHeartbeats 4000000 in
set_option maxRecDepth 100000 in
theorem c_X10_isBelow (l : Launch) (g : kd_G) (sz : Nat) (p0 : Int32) (p1 : Int32)  : kd_MI l yX10_isBelow wsX10_isBelow ({ frames := 0, cells := 0, slots := 0, locals := 0 }) [.int p0, .int p1] g [] sz (fun r (_ : Unit) => r = sp_X10_isBelow p0 p1) (fun _ => []) 0 0 := by
  refine kd_met (l := l) (y := yX10_isBelow) (ws := wsX10_isBelow) (rm := { frames := 0, cells := 0, slots := 0, locals := 0 }) (av := [.int p0, .int p1]) (g := g) (WS := []) (sz := sz) (mc := 0) (ms := 0) (cc := cX10_isBelow) (maxL := 2) (ret := (some .boolean)) (own := RX10) (fun A => va_Qi (fun r (_ : Unit) => r = sp_X10_isBelow p0 p1) (fun u t => kd_post g A [] t) A) (by decide) rfl rfl (Nat.le_of_ble_eq_true rfl) ?_
  intro p e s m below meth c A ls hx hb hr hml hts hown hlocks hnm hA hP hK hD hS hE hl
  have hl : lv_has ls 2 [(0, .int p0), (1, .int p1)] := hl
  refine lv_iload_n hx hb dX10_isBelow_0 rfl (lv_at hl 0 rfl) ?_
  refine lv_if_lt (tgt := 13) hx hb dX10_isBelow_1 (by decide) (fun c_1 => ?_) (fun c_1 => ?_)
  · refine lv_iconst (v := 0) hx hb dX10_isBelow_13 (by decide) ?_
    exact kd_zret hx hb hr hlocks hK hS dX10_isBelow_14 (Or.inl rfl) (()) (by rw [sp_X10_isBelow, if_pos c_1]) hP hD
  · refine lv_iload_n hx hb dX10_isBelow_4 rfl (lv_at hl 0 rfl) ?_
    refine lv_iload_n hx hb dX10_isBelow_5 rfl (lv_at hl 1 rfl) ?_
    refine lv_icmp_ge (tgt := 13) hx hb dX10_isBelow_6 (by decide) (fun c_6 => ?_) (fun c_6 => ?_)
    · refine lv_iconst (v := 0) hx hb dX10_isBelow_13 (by decide) ?_
      exact kd_zret hx hb hr hlocks hK hS dX10_isBelow_14 (Or.inl rfl) (()) (by rw [sp_X10_isBelow, if_neg c_1, if_pos c_6]) hP hD
    · refine lv_iconst (v := 1) hx hb dX10_isBelow_9 (by decide) ?_
      refine lv_goto (tgt := 14) hx hb dX10_isBelow_10 (by decide) ?_
      exact kd_zret hx hb hr hlocks hK hS dX10_isBelow_14 (Or.inr rfl) (()) (by rw [sp_X10_isBelow, if_neg c_1, if_neg c_6]) hP hD
theorem kd_below {x : Int32} {n N : Nat} (h : ¬ sp_X10_isBelow x (nI n) = 0) (hn : n ≤ N) (hN : N < 2 ^ 31) : vp_in x N := by
  unfold sp_X10_isBelow at h
  split at h
  · exact absurd rfl h
  · rename_i h0
    split at h
    · exact absurd rfl h
    · rename_i h1
      obtain ⟨j, hj, rfl⟩ := nI_of h0
      refine vp_in_nI ?_ hN
      rcases Nat.lt_or_ge j n with q | q
      · omega
      · exact absurd (nI_le q hj) h1
theorem kd_belowN {x : Int32} {n : Nat} (h : ¬ sp_X10_isBelow x (nI n) = 0) (hN : n < 2 ^ 31) : vp_in x n := kd_below h (Nat.le_refl n) hN
/-- what KingdomAtDice.isSum answers and leaves, by its instructions -/
def sp_X10_isSum (p0 : Int32) : Int32 :=
  if p0 < 2 then
    0
  else
    if 12 < p0 then
      0
    else
      1
theorem zb_X10_isSum (p0 : Int32) : sp_X10_isSum p0 = 0 ∨ sp_X10_isSum p0 = 1 := by
  unfold sp_X10_isSum
  repeat' split
  all_goals first | exact Or.inl rfl | exact Or.inr rfl | simp
set_option maxHeartbeats 4000000 in
set_option maxRecDepth 100000 in
theorem c_X10_isSum (l : Launch) (g : kd_G) (sz : Nat) (p0 : Int32)  : kd_MI l yX10_isSum wsX10_isSum ({ frames := 0, cells := 0, slots := 0, locals := 0 }) [.int p0] g [] sz (fun r (_ : Unit) => r = sp_X10_isSum p0) (fun _ => []) 0 0 := by
  refine kd_met (l := l) (y := yX10_isSum) (ws := wsX10_isSum) (rm := { frames := 0, cells := 0, slots := 0, locals := 0 }) (av := [.int p0]) (g := g) (WS := []) (sz := sz) (mc := 0) (ms := 0) (cc := cX10_isSum) (maxL := 1) (ret := (some .boolean)) (own := RX10) (fun A => va_Qi (fun r (_ : Unit) => r = sp_X10_isSum p0) (fun u t => kd_post g A [] t) A) (by decide) rfl rfl (Nat.le_of_ble_eq_true rfl) ?_
  intro p e s m below meth c A ls hx hb hr hml hts hown hlocks hnm hA hP hK hD hS hE hl
  have hl : lv_has ls 1 [(0, .int p0)] := hl
  refine lv_iload_n hx hb dX10_isSum_0 rfl (lv_at hl 0 rfl) ?_
  refine lv_iconst (v := 2) hx hb dX10_isSum_1 (by decide) ?_
  refine lv_icmp_lt (tgt := 15) hx hb dX10_isSum_2 (by decide) (fun c_2 => ?_) (fun c_2 => ?_)
  · refine lv_iconst (v := 0) hx hb dX10_isSum_15 (by decide) ?_
    exact kd_zret hx hb hr hlocks hK hS dX10_isSum_16 (Or.inl rfl) (()) (by rw [sp_X10_isSum, if_pos c_2]) hP hD
  · refine lv_iload_n hx hb dX10_isSum_5 rfl (lv_at hl 0 rfl) ?_
    refine lv_bipush (v := 12) hx hb dX10_isSum_6 (by decide) ?_
    refine lv_icmp_gt (tgt := 15) hx hb dX10_isSum_8 (by decide) (fun c_8 => ?_) (fun c_8 => ?_)
    · refine lv_iconst (v := 0) hx hb dX10_isSum_15 (by decide) ?_
      exact kd_zret hx hb hr hlocks hK hS dX10_isSum_16 (Or.inl rfl) (()) (by rw [sp_X10_isSum, if_neg c_2, if_pos c_8]) hP hD
    · refine lv_iconst (v := 1) hx hb dX10_isSum_11 (by decide) ?_
      refine lv_goto (tgt := 16) hx hb dX10_isSum_12 (by decide) ?_
      exact kd_zret hx hb hr hlocks hK hS dX10_isSum_16 (Or.inr rfl) (()) (by rw [sp_X10_isSum, if_neg c_2, if_neg c_8]) hP hD
/-- what KingdomAtDice.mix answers and leaves, by its instructions -/
def sp_X10_mix (a0 : Int64) (a1 : Int64) : Int64 :=
  (31 * a0) + a1
set_option maxHeartbeats 4000000 in
set_option maxRecDepth 100000 in
theorem c_X10_mix (l : Launch) (g : kd_G) (sz : Nat) (a0 : Int64) (a1 : Int64)  : kd_ML l yX10_mix wsX10_mix ({ frames := 0, cells := 0, slots := 0, locals := 0 }) [.long a0, .long a1] g [] sz (fun r (_ : Unit) => r = sp_X10_mix a0 a1) (fun _ => []) 0 0 := by
  refine kd_met (l := l) (y := yX10_mix) (ws := wsX10_mix) (rm := { frames := 0, cells := 0, slots := 0, locals := 0 }) (av := [.long a0, .long a1]) (g := g) (WS := []) (sz := sz) (mc := 0) (ms := 0) (cc := cX10_mix) (maxL := 4) (ret := (some .long)) (own := RX10) (fun A => va_Ql (fun r (_ : Unit) => r = sp_X10_mix a0 a1) (fun u t => kd_post g A [] t) A) (by decide) rfl rfl (Nat.le_of_ble_eq_true rfl) ?_
  intro p e s m below meth c A ls hx hb hr hml hts hown hlocks hnm hA hP hK hD hS hE hl
  have hl : lv_has ls 4 [(0, .long a0), (2, .long a1)] := hl
  refine lv_ldc2 (v := 31) hx hb hown (hts (.constantLong RX10 288 31) (by decide +kernel)) dX10_mix_0 ?_
  refine lv_lload_n hx hb dX10_mix_3 rfl (lv_at hl 0 rfl) ?_
  refine lv_lmul hx hb dX10_mix_4 ?_
  refine lv_lload_n hx hb dX10_mix_5 rfl (lv_at hl 1 rfl) ?_
  refine lv_ladd hx hb dX10_mix_6 ?_
  exact kd_lret hx hb hr hlocks hK hS dX10_mix_7 (()) (rfl) hP hD
/-- what KingdomAtDice$Page.isFull answers and leaves, by its instructions -/
def sp_X6_isFull (pn : Nat) : Int32 :=
  if (nI pn) < 22 then
    0
  else
    1
theorem zb_X6_isFull (pn : Nat) : sp_X6_isFull pn = 0 ∨ sp_X6_isFull pn = 1 := by
  unfold sp_X6_isFull
  repeat' split
  all_goals first | exact Or.inl rfl | exact Or.inr rfl | simp
set_option maxHeartbeats 4000000 in
set_option maxRecDepth 100000 in
theorem c_X6_isFull (l : Launch) (g : kd_G) (sz : Nat) (pg : Nat) (pc : Nat) (pf : Nat → Int32) (pn : Nat) (hpn : pn ≤ 22) : kd_MI l yX6_isFull wsX6_isFull ({ frames := 0, cells := 0, slots := 0, locals := 0 }) [.ref pg] g [(pg, .inr (6, [.ref pc, .int (nI pn)])), (pc, .inl (g.2.1 0, 22, .inl pf))] sz (fun r (_ : Unit) => r = sp_X6_isFull pn) (fun _ => [(pg, .inr (6, [.ref pc, .int (nI pn)])), (pc, .inl (g.2.1 0, 22, .inl pf))]) 0 0 := by
  refine kd_met (l := l) (y := yX6_isFull) (ws := wsX6_isFull) (rm := { frames := 0, cells := 0, slots := 0, locals := 0 }) (av := [.ref pg]) (g := g) (WS := [(pg, .inr (6, [.ref pc, .int (nI pn)])), (pc, .inl (g.2.1 0, 22, .inl pf))]) (sz := sz) (mc := 0) (ms := 0) (cc := cX6_isFull) (maxL := 1) (ret := (some .boolean)) (own := RX6) (fun A => va_Qi (fun r (_ : Unit) => r = sp_X6_isFull pn) (fun u t => kd_post g A [(pg, .inr (6, [.ref pc, .int (nI pn)])), (pc, .inl (g.2.1 0, 22, .inl pf))] t) A) (by decide) rfl rfl (Nat.le_of_ble_eq_true rfl) ?_
  intro p e s m below meth c A ls hx hb hr hml hts hown hlocks hnm hA hP hK hD hS hE hl
  have hl : lv_has ls 1 [(0, .ref pg)] := hl
  have hiX6 : ∀ w ∈ u_ws RX6 TX6 2, w ∈ wsX6_isFull := by decide +kernel
  refine lv_aload_n hx hb dX6_isFull_0 rfl (lv_at hl 0 rfl) ?_
  refine va_get (ci := 6) (v := .int (nI pn)) (C := RX6) (T := TX6) (N := 2) hx hb hts hiX6 hown hK hP (0) rfl rfl 1 (by decide) (hts (.fieldLink RX6 15 "KingdomAtDice$Page" "length" "I") (by decide +kernel)) (fun _ h9 => h9) rfl dX6_isFull_1 ?_
  refine lv_aload_n hx hb dX6_isFull_4 rfl (lv_at hl 0 rfl) ?_
  refine va_get (ci := 6) (v := .ref pc) (C := RX6) (T := TX6) (N := 2) hx hb hts hiX6 hown hK hP (0) rfl rfl 0 (by decide) (hts (.fieldLink RX6 9 "KingdomAtDice$Page" "codes" "[I") (by decide +kernel)) (fun _ h9 => h9) rfl dX6_isFull_5 ?_
  refine va_alen hx hb hK hP 1 0 rfl rfl (v := 22) rfl dX6_isFull_8 ?_
  refine lv_icmp_lt (tgt := 16) hx hb dX6_isFull_9 (by decide) (fun c_9 => ?_) (fun c_9 => ?_)
  · have n_9 : pn < 22 := kd_cl (a := pn) (b := 22) (by omega) (by omega) c_9
    refine lv_iconst (v := 0) hx hb dX6_isFull_16 (by decide) ?_
    exact kd_zret hx hb hr hlocks hK hS dX6_isFull_17 (Or.inl rfl) (()) (by rw [sp_X6_isFull, if_pos c_9]) hP hD
  · have n_9 : 22 ≤ pn := kd_cnl (a := pn) (b := 22) (by omega) (by omega) c_9
    refine lv_iconst (v := 1) hx hb dX6_isFull_12 (by decide) ?_
    refine lv_goto (tgt := 17) hx hb dX6_isFull_13 (by decide) ?_
    exact kd_zret hx hb hr hlocks hK hS dX6_isFull_17 (Or.inr rfl) (()) (by rw [sp_X6_isFull, if_neg c_9]) hP hD
theorem kd_isFull {n : Nat} (h : sp_X6_isFull n = 0) (hn : n ≤ 22) : n < 22 := by
  unfold sp_X6_isFull at h
  split at h
  · rename_i hx
    rcases Nat.lt_or_ge n 22 with q | q
    · exact q
    · exact absurd hx (nI_nlt (b := 22) q (by omega))
  · cases h
/-- what KingdomAtDice$Page.push answers and leaves, by its instructions -/
def sp_X6_push (pf : Nat → Int32) (pn : Nat) (p0 : Int32) : Int32 × (Nat → Int32) × Nat :=
  if (sp_X6_isFull pn) = 0 then
    (nI (pn + 1), upd pf pn p0, pn + 1)
  else
    (nI pn, pf, pn)
set_option maxHeartbeats 4000000 in
set_option maxRecDepth 100000 in
theorem c_X6_push (l : Launch) (g : kd_G) (sz : Nat) (pg : Nat) (pc : Nat) (pf : Nat → Int32) (pn : Nat) (p0 : Int32) (hpn : pn ≤ 22) : kd_MI l yX6_push wsX6_push ({ frames := 1, cells := 0, slots := 0, locals := 20 }) [.ref pg, .int p0] g [(pg, .inr (6, [.ref pc, .int (nI pn)])), (pc, .inl (g.2.1 0, 22, .inl pf))] sz (fun r (u : (Nat → Int32) × Nat) => (r, u) = sp_X6_push pf pn p0) (fun u => [(pg, .inr (6, [.ref pc, .int (nI u.2)])), (pc, .inl (g.2.1 0, 22, .inl u.1))]) 0 0 := by
  refine kd_met (l := l) (y := yX6_push) (ws := wsX6_push) (rm := { frames := 1, cells := 0, slots := 0, locals := 20 }) (av := [.ref pg, .int p0]) (g := g) (WS := [(pg, .inr (6, [.ref pc, .int (nI pn)])), (pc, .inl (g.2.1 0, 22, .inl pf))]) (sz := sz) (mc := 0) (ms := 0) (cc := cX6_push) (maxL := 2) (ret := (some .int)) (own := RX6) (fun A => va_Qi (fun r (u : (Nat → Int32) × Nat) => (r, u) = sp_X6_push pf pn p0) (fun u t => kd_post g A [(pg, .inr (6, [.ref pc, .int (nI u.2)])), (pc, .inl (g.2.1 0, 22, .inl u.1))] t) A) (by decide) rfl rfl (Nat.le_of_ble_eq_true rfl) ?_
  intro p e s m below meth c A ls hx hb hr hml hts hown hlocks hnm hA hP hK hD hS hE hl
  have hl : lv_has ls 2 [(0, .ref pg), (1, .int p0)] := hl
  have hiX6 : ∀ w ∈ u_ws RX6 TX6 2, w ∈ wsX6_push := by decide +kernel
  refine lv_aload_n hx hb dX6_push_0 rfl (lv_at hl 0 rfl) ?_
  refine kd_callIK (g := g) (wc := [(pg, .inr (6, [.ref pc, .int (nI pn)])), (pc, .inl (g.2.1 0, 22, .inl pf))]) (va_runV (mc := 0) (ms := 0) (rm := { frames := 0, cells := 0, slots := 0, locals := 0 }) (As := []) (rest := []) ⟨hx, hb, hml, hown, hts⟩ (c_X6_isFull l g s.heap.size pg pc pf pn hpn) (cwV 0 hts gX6_push_X6_isFull rfl rfl rfl (by decide +kernel) ⟨Nat.le_of_ble_eq_true rfl, Nat.le_of_ble_eq_true rfl⟩) (kd_preV (wc := [(pg, .inr (6, [.ref pc, .int (nI pn)])), (pc, .inl (g.2.1 0, 22, .inl pf))]) (va_recv hK hP (ci := 6) (q0 := 0) rfl rfl) hP hD hS hA hK hE [0, 1] rfl (by decide)) rfl rfl hl.1 rfl (lv_room (Nat.le_of_ble_eq_true rfl)) dX6_push_1 ⟨Nat.le_of_ble_eq_true rfl, Nat.le_of_ble_eq_true rfl⟩) hP hD hS hA [0, 1] rfl (fun r_1 _ H locs hw hP hS => ?_)
  subst hw
  refine lv_if_ne (tgt := 27) hx hb dX6_push_4 (by decide) (fun c_4 => ?_) (fun c_4 => ?_)
  · refine lv_aload_n hx hb dX6_push_27 rfl (lv_at hl 0 rfl) ?_
    refine va_get (ci := 6) (v := .int (nI pn)) (C := RX6) (T := TX6) (N := 2) hx hb hts hiX6 hown hK hP (0) rfl rfl 1 (by decide) (hts (.fieldLink RX6 15 "KingdomAtDice$Page" "length" "I") (by decide +kernel)) (fun _ h9 => h9) rfl dX6_push_28 ?_
    exact kd_iret hx hb hr hlocks hK hS dX6_push_31 ((pf, pn)) (by rw [sp_X6_push, if_neg c_4]) hP hD
  · refine lv_aload_n hx hb dX6_push_7 rfl (lv_at hl 0 rfl) ?_
    refine va_get (ci := 6) (v := .ref pc) (C := RX6) (T := TX6) (N := 2) hx hb hts hiX6 hown hK hP (0) rfl rfl 0 (by decide) (hts (.fieldLink RX6 9 "KingdomAtDice$Page" "codes" "[I") (by decide +kernel)) (fun _ h9 => h9) rfl dX6_push_8 ?_
    refine lv_aload_n hx hb dX6_push_11 rfl (lv_at hl 0 rfl) ?_
    refine va_get (ci := 6) (v := .int (nI pn)) (C := RX6) (T := TX6) (N := 2) hx hb hts hiX6 hown hK hP (0) rfl rfl 1 (by decide) (hts (.fieldLink RX6 15 "KingdomAtDice$Page" "length" "I") (by decide +kernel)) (fun _ h9 => h9) rfl dX6_push_12 ?_
    refine lv_iload_n hx hb dX6_push_15 rfl (lv_at hl 1 rfl) ?_
    refine kd_iast hx hb hK hP hD hS 1 (k := pn) rfl (kd_isFull c_4 hpn) (by decide) dX6_push_16 (fun H locs hP hD hS => ?_)
    have hP : va_P g.1 vwCl [(pg, .inr (6, [.ref pc, .int (nI pn)])), (pc, .inl (g.2.1 0, 22, .inl (upd pf pn p0)))] H := hP
    have hD : va_D A [(pg, .inr (6, [.ref pc, .int (nI pn)])), (pc, .inl (g.2.1 0, 22, .inl (upd pf pn p0)))] := hD
    refine lv_aload_n hx hb dX6_push_17 rfl (lv_at hl 0 rfl) ?_
    refine lv_dup hx hb dX6_push_18 rfl ?_
    refine va_get (ci := 6) (v := .int (nI pn)) (C := RX6) (T := TX6) (N := 2) hx hb hts hiX6 hown hK hP (0) rfl rfl 1 (by decide) (hts (.fieldLink RX6 15 "KingdomAtDice$Page" "length" "I") (by decide +kernel)) (fun _ h9 => h9) rfl dX6_push_19 ?_
    refine lv_iconst (v := 1) hx hb dX6_push_22 (by decide) ?_
    refine lv_iadd hx hb dX6_push_23 ?_
    refine kd_top (nI_add pn 1) ?_
    refine va_put (ci := 6) (v := .int (nI (pn + 1))) (ty := .int) (C := RX6) (T := TX6) (N := 2) hx hb hts hiX6 tyX6 tyX6_ok nmX6 hown hK hP hD hS (0) rfl rfl 1 (by decide) (hts (.fieldLink RX6 15 "KingdomAtDice$Page" "length" "I") (by decide +kernel)) (fun _ h9 => h9) rfl (by decide +kernel) rfl rfl (Nat.le_of_ble_eq_true rfl) dX6_push_24 (fun H locs hP hD hS => ?_)
    have hP : va_P g.1 vwCl [(pg, .inr (6, [.ref pc, .int (nI (pn + 1))])), (pc, .inl (g.2.1 0, 22, .inl (upd pf pn p0)))] H := hP
    have hD : va_D A [(pg, .inr (6, [.ref pc, .int (nI (pn + 1))])), (pc, .inl (g.2.1 0, 22, .inl (upd pf pn p0)))] := hD
    refine lv_aload_n hx hb dX6_push_27 rfl (lv_at hl 0 rfl) ?_
    refine va_get (ci := 6) (v := .int (nI (pn + 1))) (C := RX6) (T := TX6) (N := 2) hx hb hts hiX6 hown hK hP (0) rfl rfl 1 (by decide) (hts (.fieldLink RX6 15 "KingdomAtDice$Page" "length" "I") (by decide +kernel)) (fun _ h9 => h9) rfl dX6_push_28 ?_
    exact kd_iret hx hb hr hlocks hK hS dX6_push_31 ((upd pf pn p0, pn + 1)) (by rw [sp_X6_push, if_pos c_4]) hP hD
/-- what KingdomAtDice$Page.clear answers and leaves, by its instructions -/
def sp_X6_clear (pn : Nat) : Int32 × Nat :=
  (nI pn, 0)
set_option maxHeartbeats 4000000 in
set_option maxRecDepth 100000 in
theorem c_X6_clear (l : Launch) (g : kd_G) (sz : Nat) (pg : Nat) (pc : Nat) (pf : Nat → Int32) (pn : Nat) (hpn : pn ≤ 22) : kd_MI l yX6_clear wsX6_clear ({ frames := 0, cells := 0, slots := 0, locals := 0 }) [.ref pg] g [(pg, .inr (6, [.ref pc, .int (nI pn)])), (pc, .inl (g.2.1 0, 22, .inl pf))] sz (fun r (u : Nat) => (r, u) = sp_X6_clear pn) (fun u => [(pg, .inr (6, [.ref pc, .int (nI u)])), (pc, .inl (g.2.1 0, 22, .inl pf))]) 0 0 := by
  refine kd_met (l := l) (y := yX6_clear) (ws := wsX6_clear) (rm := { frames := 0, cells := 0, slots := 0, locals := 0 }) (av := [.ref pg]) (g := g) (WS := [(pg, .inr (6, [.ref pc, .int (nI pn)])), (pc, .inl (g.2.1 0, 22, .inl pf))]) (sz := sz) (mc := 0) (ms := 0) (cc := cX6_clear) (maxL := 2) (ret := (some .int)) (own := RX6) (fun A => va_Qi (fun r (u : Nat) => (r, u) = sp_X6_clear pn) (fun u t => kd_post g A [(pg, .inr (6, [.ref pc, .int (nI u)])), (pc, .inl (g.2.1 0, 22, .inl pf))] t) A) (by decide) rfl rfl (Nat.le_of_ble_eq_true rfl) ?_
  intro p e s m below meth c A ls hx hb hr hml hts hown hlocks hnm hA hP hK hD hS hE hl
  have hl : lv_has ls 2 [(0, .ref pg)] := hl
  have hiX6 : ∀ w ∈ u_ws RX6 TX6 2, w ∈ wsX6_clear := by decide +kernel
  refine lv_aload_n hx hb dX6_clear_0 rfl (lv_at hl 0 rfl) ?_
  refine va_get (ci := 6) (v := .int (nI pn)) (C := RX6) (T := TX6) (N := 2) hx hb hts hiX6 hown hK hP (0) rfl rfl 1 (by decide) (hts (.fieldLink RX6 15 "KingdomAtDice$Page" "length" "I") (by decide +kernel)) (fun _ h9 => h9) rfl dX6_clear_1 ?_
  refine lv_istore_n (lv' := [(1, .int (nI pn)), (0, .ref pg)]) hx hb dX6_clear_4 rfl hl (by decide) rfl (fun ls hl => ?_)
  refine lv_aload_n hx hb dX6_clear_5 rfl (lv_at hl 1 rfl) ?_
  refine lv_iconst (v := 0) hx hb dX6_clear_6 (by decide) ?_
  refine va_put (ci := 6) (v := .int 0) (ty := .int) (C := RX6) (T := TX6) (N := 2) hx hb hts hiX6 tyX6 tyX6_ok nmX6 hown hK hP hD hS (0) rfl rfl 1 (by decide) (hts (.fieldLink RX6 15 "KingdomAtDice$Page" "length" "I") (by decide +kernel)) (fun _ h9 => h9) rfl (by decide +kernel) rfl rfl (Nat.le_of_ble_eq_true rfl) dX6_clear_7 (fun H locs hP hD hS => ?_)
  have hP : va_P g.1 vwCl [(pg, .inr (6, [.ref pc, .int 0])), (pc, .inl (g.2.1 0, 22, .inl pf))] H := hP
  have hD : va_D A [(pg, .inr (6, [.ref pc, .int 0])), (pc, .inl (g.2.1 0, 22, .inl pf))] := hD
  refine lv_iload_n hx hb dX6_clear_10 rfl (lv_at hl 0 rfl) ?_
  exact kd_iret hx hb hr hlocks hK hS dX6_clear_11 (0) (rfl) hP hD
/-- what KingdomAtDice$Page.codeAt answers and leaves, by its instructions -/
def sp_X6_codeAt (pf : Nat → Int32) (pn : Nat) (p0 : Int32) : Int32 :=
  if (sp_X10_isBelow p0 (nI pn)) = 0 then
    0
  else
    pf p0.toNatClampNeg
set_option maxHeartbeats 4000000 in
set_option maxRecDepth 100000 in
theorem c_X6_codeAt (l : Launch) (g : kd_G) (sz : Nat) (pg : Nat) (pc : Nat) (pf : Nat → Int32) (pn : Nat) (p0 : Int32) (hpn : pn ≤ 22) : kd_MI l yX6_codeAt wsX6_codeAt ({ frames := 1, cells := 0, slots := 0, locals := 21 }) [.ref pg, .int p0] g [(pg, .inr (6, [.ref pc, .int (nI pn)])), (pc, .inl (g.2.1 0, 22, .inl pf))] sz (fun r (_ : Unit) => r = sp_X6_codeAt pf pn p0) (fun _ => [(pg, .inr (6, [.ref pc, .int (nI pn)])), (pc, .inl (g.2.1 0, 22, .inl pf))]) 0 0 := by
  refine kd_met (l := l) (y := yX6_codeAt) (ws := wsX6_codeAt) (rm := { frames := 1, cells := 0, slots := 0, locals := 21 }) (av := [.ref pg, .int p0]) (g := g) (WS := [(pg, .inr (6, [.ref pc, .int (nI pn)])), (pc, .inl (g.2.1 0, 22, .inl pf))]) (sz := sz) (mc := 0) (ms := 0) (cc := cX6_codeAt) (maxL := 2) (ret := (some .int)) (own := RX6) (fun A => va_Qi (fun r (_ : Unit) => r = sp_X6_codeAt pf pn p0) (fun u t => kd_post g A [(pg, .inr (6, [.ref pc, .int (nI pn)])), (pc, .inl (g.2.1 0, 22, .inl pf))] t) A) (by decide) rfl rfl (Nat.le_of_ble_eq_true rfl) ?_
  intro p e s m below meth c A ls hx hb hr hml hts hown hlocks hnm hA hP hK hD hS hE hl
  have hl : lv_has ls 2 [(0, .ref pg), (1, .int p0)] := hl
  have hiX6 : ∀ w ∈ u_ws RX6 TX6 2, w ∈ wsX6_codeAt := by decide +kernel
  refine lv_iload_n hx hb dX6_codeAt_0 rfl (lv_at hl 1 rfl) ?_
  refine lv_aload_n hx hb dX6_codeAt_1 rfl (lv_at hl 0 rfl) ?_
  refine va_get (ci := 6) (v := .int (nI pn)) (C := RX6) (T := TX6) (N := 2) hx hb hts hiX6 hown hK hP (0) rfl rfl 1 (by decide) (hts (.fieldLink RX6 15 "KingdomAtDice$Page" "length" "I") (by decide +kernel)) (fun _ h9 => h9) rfl dX6_codeAt_2 ?_
  refine kd_callIK (g := g) (wc := []) (va_runSN (mc := 0) (ms := 0) (rm := { frames := 0, cells := 0, slots := 0, locals := 0 }) (host := "KingdomAtDice") (As := [.int p0, .int (nI pn)]) (rest := []) ⟨hx, hb, hml, hown, hts⟩ (c_X10_isBelow l g s.heap.size p0 (nI pn) ) ⟨va_cnB 2 hts gX6_codeAt_X10_isBelow_n23 rfl rfl rfl (kd_N hE 9 rfl) (hts (.initialized RX10) (by decide +kernel)) (by decide +kernel) ⟨Nat.le_of_ble_eq_true rfl, Nat.le_of_ble_eq_true rfl⟩, (hts (.static yX10_isBelow) (by decide +kernel)), trivial⟩ (kd_preS (wc := []) (av := [.int p0, .int (nI pn)]) hP hD hS hA hK hE [] rfl (by decide)) rfl rfl hl.1 rfl (lv_room (Nat.le_of_ble_eq_true rfl)) dX6_codeAt_5 ⟨Nat.le_of_ble_eq_true rfl, Nat.le_of_ble_eq_true rfl⟩) hP hD hS hA [] rfl (fun r_5 _ H locs hw hP hS => ?_)
  subst hw
  refine lv_if_eq (tgt := 20) hx hb dX6_codeAt_8 (by decide) (fun c_8 => ?_) (fun c_8 => ?_)
  · refine lv_iconst (v := 0) hx hb dX6_codeAt_20 (by decide) ?_
    exact kd_iret hx hb hr hlocks hK hS dX6_codeAt_21 (()) (by rw [sp_X6_codeAt, if_pos c_8]) hP hD
  · refine lv_aload_n hx hb dX6_codeAt_11 rfl (lv_at hl 0 rfl) ?_
    refine va_get (ci := 6) (v := .ref pc) (C := RX6) (T := TX6) (N := 2) hx hb hts hiX6 hown hK hP (0) rfl rfl 0 (by decide) (hts (.fieldLink RX6 9 "KingdomAtDice$Page" "codes" "[I") (by decide +kernel)) (fun _ h9 => h9) rfl dX6_codeAt_12 ?_
    refine lv_iload_n hx hb dX6_codeAt_15 rfl (lv_at hl 1 rfl) ?_
    refine va_iald hx hb hK hP 1 0 rfl rfl (kd_below c_8 hpn (by decide)) dX6_codeAt_16 ?_
    refine lv_goto (tgt := 21) hx hb dX6_codeAt_17 (by decide) ?_
    exact kd_iret hx hb hr hlocks hK hS dX6_codeAt_21 (()) (by rw [sp_X6_codeAt, if_neg c_8]) hP hD
/-- what KingdomAtDice$Draws.begin answers and leaves, by its instructions -/
def sp_X2_begin (p0 : Int32) : Int64 :=
  p0.toInt64
set_option maxHeartbeats 4000000 in
set_option maxRecDepth 100000 in
theorem c_X2_begin (l : Launch) (g : kd_G) (sz : Nat) (dr : Nat) (sd : Int64) (p0 : Int32)  : kd_MV l yX2_begin wsX2_begin ({ frames := 0, cells := 0, slots := 0, locals := 0 }) [.ref dr, .int p0] g [(dr, .inr (2, [.long sd]))] sz (fun (u : Int64) => u = sp_X2_begin p0) (fun u => [(dr, .inr (2, [.long u]))]) 0 0 := by
  refine kd_met (l := l) (y := yX2_begin) (ws := wsX2_begin) (rm := { frames := 0, cells := 0, slots := 0, locals := 0 }) (av := [.ref dr, .int p0]) (g := g) (WS := [(dr, .inr (2, [.long sd]))]) (sz := sz) (mc := 0) (ms := 0) (cc := cX2_begin) (maxL := 2) (ret := none) (own := RX2) (fun A => va_Qv (fun (u : Int64) => u = sp_X2_begin p0) (fun u t => kd_post g A [(dr, .inr (2, [.long u]))] t) A) (by decide) rfl rfl (Nat.le_of_ble_eq_true rfl) ?_
  intro p e s m below meth c A ls hx hb hr hml hts hown hlocks hnm hA hP hK hD hS hE hl
  have hl : lv_has ls 2 [(0, .ref dr), (1, .int p0)] := hl
  have hiX2 : ∀ w ∈ u_ws RX2 TX2 1, w ∈ wsX2_begin := by decide +kernel
  refine lv_aload_n hx hb dX2_begin_0 rfl (lv_at hl 0 rfl) ?_
  refine lv_iload_n hx hb dX2_begin_1 rfl (lv_at hl 1 rfl) ?_
  refine lv_i2l hx hb dX2_begin_2 rfl ?_
  refine va_put (ci := 2) (v := .long p0.toInt64) (ty := .long) (C := RX2) (T := TX2) (N := 1) hx hb hts hiX2 tyX2 tyX2_ok nmX2 hown hK hP hD hS (0) rfl rfl 0 (by decide) (hts (.fieldLink RX2 7 "KingdomAtDice$Draws" "seed" "J") (by decide +kernel)) (fun _ h9 => h9) rfl (by decide +kernel) rfl rfl (Nat.le_of_ble_eq_true rfl) dX2_begin_3 (fun H locs hP hD hS => ?_)
  have hP : va_P g.1 vwCl [(dr, .inr (2, [.long p0.toInt64]))] H := hP
  have hD : va_D A [(dr, .inr (2, [.long p0.toInt64]))] := hD
  exact kd_vret hx hb hr hlocks hK hS dX2_begin_6 (p0.toInt64) (rfl) hP hD
theorem kd_l0 {x : Int32} (h : ¬ x ≤ 0) : ¬ x.toInt64 = 0 := by
  intro e
  apply h
  have h1 : x.toInt64.toInt = 0 := by rw [e]; rfl
  rw [Int32.toInt_toInt64] at h1
  exact Int32.le_iff_toInt_le.mpr (by rw [h1]; decide)
/-- what KingdomAtDice$Draws.next answers and leaves, by its instructions -/
def sp_X2_next (sd : Int64) (p0 : Int32) : Int32 × Int64 :=
  if p0 ≤ 0 then
    (0, ((1103515245 * sd) + 12345) - ((1103515245 * sd) + 12345) / 2147483648 * 2147483648)
  else
    ((((((1103515245 * sd) + 12345) - ((1103515245 * sd) + 12345) / 2147483648 * 2147483648) / 65536) - ((((1103515245 * sd) + 12345) - ((1103515245 * sd) + 12345) / 2147483648 * 2147483648) / 65536) / p0.toInt64 * p0.toInt64).toInt32, ((1103515245 * sd) + 12345) - ((1103515245 * sd) + 12345) / 2147483648 * 2147483648)
set_option maxHeartbeats 4000000 in
set_option maxRecDepth 100000 in
theorem c_X2_next (l : Launch) (g : kd_G) (sz : Nat) (dr : Nat) (sd : Int64) (p0 : Int32)  : kd_MI l yX2_next wsX2_next ({ frames := 0, cells := 0, slots := 0, locals := 0 }) [.ref dr, .int p0] g [(dr, .inr (2, [.long sd]))] sz (fun r (u : Int64) => (r, u) = sp_X2_next sd p0) (fun u => [(dr, .inr (2, [.long u]))]) 0 0 := by
  refine kd_met (l := l) (y := yX2_next) (ws := wsX2_next) (rm := { frames := 0, cells := 0, slots := 0, locals := 0 }) (av := [.ref dr, .int p0]) (g := g) (WS := [(dr, .inr (2, [.long sd]))]) (sz := sz) (mc := 0) (ms := 0) (cc := cX2_next) (maxL := 2) (ret := (some .int)) (own := RX2) (fun A => va_Qi (fun r (u : Int64) => (r, u) = sp_X2_next sd p0) (fun u t => kd_post g A [(dr, .inr (2, [.long u]))] t) A) (by decide) rfl rfl (Nat.le_of_ble_eq_true rfl) ?_
  intro p e s m below meth c A ls hx hb hr hml hts hown hlocks hnm hA hP hK hD hS hE hl
  have hl : lv_has ls 2 [(0, .ref dr), (1, .int p0)] := hl
  have hiX2 : ∀ w ∈ u_ws RX2 TX2 1, w ∈ wsX2_next := by decide +kernel
  refine lv_aload_n hx hb dX2_next_0 rfl (lv_at hl 0 rfl) ?_
  refine lv_ldc2 (v := 1103515245) hx hb hown (hts (.constantLong RX2 13 1103515245) (by decide +kernel)) dX2_next_1 ?_
  refine lv_aload_n hx hb dX2_next_4 rfl (lv_at hl 0 rfl) ?_
  refine va_get (ci := 2) (v := .long sd) (C := RX2) (T := TX2) (N := 1) hx hb hts hiX2 hown hK hP (0) rfl rfl 0 (by decide) (hts (.fieldLink RX2 7 "KingdomAtDice$Draws" "seed" "J") (by decide +kernel)) (fun _ h9 => h9) rfl dX2_next_5 ?_
  refine lv_lmul hx hb dX2_next_8 ?_
  refine lv_ldc2 (v := 12345) hx hb hown (hts (.constantLong RX2 15 12345) (by decide +kernel)) dX2_next_9 ?_
  refine lv_ladd hx hb dX2_next_12 ?_
  refine lv_ldc2 (v := 2147483648) hx hb hown (hts (.constantLong RX2 17 2147483648) (by decide +kernel)) dX2_next_13 ?_
  refine lv_lrem hx hb dX2_next_16 (by decide) ?_
  refine va_put (ci := 2) (v := .long (((1103515245 * sd) + 12345) - ((1103515245 * sd) + 12345) / 2147483648 * 2147483648)) (ty := .long) (C := RX2) (T := TX2) (N := 1) hx hb hts hiX2 tyX2 tyX2_ok nmX2 hown hK hP hD hS (0) rfl rfl 0 (by decide) (hts (.fieldLink RX2 7 "KingdomAtDice$Draws" "seed" "J") (by decide +kernel)) (fun _ h9 => h9) rfl (by decide +kernel) rfl rfl (Nat.le_of_ble_eq_true rfl) dX2_next_17 (fun H locs hP hD hS => ?_)
  have hP : va_P g.1 vwCl [(dr, .inr (2, [.long (((1103515245 * sd) + 12345) - ((1103515245 * sd) + 12345) / 2147483648 * 2147483648)]))] H := hP
  have hD : va_D A [(dr, .inr (2, [.long (((1103515245 * sd) + 12345) - ((1103515245 * sd) + 12345) / 2147483648 * 2147483648)]))] := hD
  refine lv_iload_n hx hb dX2_next_20 rfl (lv_at hl 1 rfl) ?_
  refine lv_if_le (tgt := 39) hx hb dX2_next_21 (by decide) (fun c_21 => ?_) (fun c_21 => ?_)
  · refine lv_iconst (v := 0) hx hb dX2_next_39 (by decide) ?_
    exact kd_iret hx hb hr hlocks hK hS dX2_next_40 (((1103515245 * sd) + 12345) - ((1103515245 * sd) + 12345) / 2147483648 * 2147483648) (by rw [sp_X2_next, if_pos c_21]) hP hD
  · refine lv_aload_n hx hb dX2_next_24 rfl (lv_at hl 0 rfl) ?_
    refine va_get (ci := 2) (v := .long (((1103515245 * sd) + 12345) - ((1103515245 * sd) + 12345) / 2147483648 * 2147483648)) (C := RX2) (T := TX2) (N := 1) hx hb hts hiX2 hown hK hP (0) rfl rfl 0 (by decide) (hts (.fieldLink RX2 7 "KingdomAtDice$Draws" "seed" "J") (by decide +kernel)) (fun _ h9 => h9) rfl dX2_next_25 ?_
    refine lv_ldc2 (v := 65536) hx hb hown (hts (.constantLong RX2 19 65536) (by decide +kernel)) dX2_next_28 ?_
    refine lv_ldiv hx hb dX2_next_31 (by decide) ?_
    refine lv_iload_n hx hb dX2_next_32 rfl (lv_at hl 1 rfl) ?_
    refine lv_i2l hx hb dX2_next_33 rfl ?_
    refine lv_lrem hx hb dX2_next_34 (kd_l0 c_21) ?_
    refine lv_l2i hx hb dX2_next_35 rfl ?_
    refine lv_goto (tgt := 40) hx hb dX2_next_36 (by decide) ?_
    exact kd_iret hx hb hr hlocks hK hS dX2_next_40 (((1103515245 * sd) + 12345) - ((1103515245 * sd) + 12345) / 2147483648 * 2147483648) (by rw [sp_X2_next, if_neg c_21]) hP hD
/-- what KingdomAtDice$Draws.seedNow answers and leaves, by its instructions -/
def sp_X2_seedNow (sd : Int64) : Int32 :=
  (sd).toInt32
set_option maxHeartbeats 4000000 in
set_option maxRecDepth 100000 in
theorem c_X2_seedNow (l : Launch) (g : kd_G) (sz : Nat) (dr : Nat) (sd : Int64)  : kd_MI l yX2_seedNow wsX2_seedNow ({ frames := 0, cells := 0, slots := 0, locals := 0 }) [.ref dr] g [(dr, .inr (2, [.long sd]))] sz (fun r (_ : Unit) => r = sp_X2_seedNow sd) (fun _ => [(dr, .inr (2, [.long sd]))]) 0 0 := by
  refine kd_met (l := l) (y := yX2_seedNow) (ws := wsX2_seedNow) (rm := { frames := 0, cells := 0, slots := 0, locals := 0 }) (av := [.ref dr]) (g := g) (WS := [(dr, .inr (2, [.long sd]))]) (sz := sz) (mc := 0) (ms := 0) (cc := cX2_seedNow) (maxL := 1) (ret := (some .int)) (own := RX2) (fun A => va_Qi (fun r (_ : Unit) => r = sp_X2_seedNow sd) (fun u t => kd_post g A [(dr, .inr (2, [.long sd]))] t) A) (by decide) rfl rfl (Nat.le_of_ble_eq_true rfl) ?_
  intro p e s m below meth c A ls hx hb hr hml hts hown hlocks hnm hA hP hK hD hS hE hl
  have hl : lv_has ls 1 [(0, .ref dr)] := hl
  have hiX2 : ∀ w ∈ u_ws RX2 TX2 1, w ∈ wsX2_seedNow := by decide +kernel
  refine lv_aload_n hx hb dX2_seedNow_0 rfl (lv_at hl 0 rfl) ?_
  refine va_get (ci := 2) (v := .long sd) (C := RX2) (T := TX2) (N := 1) hx hb hts hiX2 hown hK hP (0) rfl rfl 0 (by decide) (hts (.fieldLink RX2 7 "KingdomAtDice$Draws" "seed" "J") (by decide +kernel)) (fun _ h9 => h9) rfl dX2_seedNow_1 ?_
  refine lv_l2i hx hb dX2_seedNow_4 rfl ?_
  exact kd_iret hx hb hr hlocks hK hS dX2_seedNow_5 (()) (rfl) hP hD
/-- what KingdomAtDice$Thing.begin answers and leaves, by its instructions -/
def sp_X8_begin (R : Nat → Nat → Int32) (t : Nat) (p0 : Int32) (p1 : Int32) : (Nat → Nat → Int32) :=
  kd_up (kd_up (kd_up (kd_up (kd_up (kd_up R t 0 p0) t 1 p1) t 2 1) t 3 (-1)) t 4 (-1)) t 5 0
set_option maxHeartbeats 4000000 in
set_option maxRecDepth 100000 in
theorem c_X8_begin (l : Launch) (g : kd_G) (sz : Nat) (tq : Nat → Nat) (R : Nat → Nat → Int32) (t : Nat) (p0 : Int32) (p1 : Int32) (ht : t < 6) : kd_MV l yX8_begin wsX8_begin ({ frames := 0, cells := 0, slots := 0, locals := 0 }) [.ref (tq t), .int p0, .int p1] g (kd_th tq R) sz (fun (u : (Nat → Nat → Int32)) => u = sp_X8_begin R t p0 p1) (fun u => (kd_th tq u)) 0 0 := by
  refine kd_met (l := l) (y := yX8_begin) (ws := wsX8_begin) (rm := { frames := 0, cells := 0, slots := 0, locals := 0 }) (av := [.ref (tq t), .int p0, .int p1]) (g := g) (WS := (kd_th tq R)) (sz := sz) (mc := 0) (ms := 0) (cc := cX8_begin) (maxL := 3) (ret := none) (own := RX8) (fun A => va_Qv (fun (u : (Nat → Nat → Int32)) => u = sp_X8_begin R t p0 p1) (fun u t => kd_post g A (kd_th tq u) t) A) (by decide) rfl rfl (Nat.le_of_ble_eq_true rfl) ?_
  intro p e s m below meth c A ls hx hb hr hml hts hown hlocks hnm hA hP hK hD hS hE hl
  have hl : lv_has ls 3 [(0, .ref (tq t)), (1, .int p0), (2, .int p1)] := hl
  have hiX8 : ∀ w ∈ u_ws RX8 TX8 6, w ∈ wsX8_begin := by decide +kernel
  refine lv_aload_n hx hb dX8_begin_0 rfl (lv_at hl 0 rfl) ?_
  refine lv_iload_n hx hb dX8_begin_1 rfl (lv_at hl 1 rfl) ?_
  refine va_put (ci := 8) (v := .int p0) (ty := .int) (C := RX8) (T := TX8) (N := 6) hx hb hts hiX8 tyX8 tyX8_ok nmX8 hown hK hP hD hS (t) (kd_th_at0 ht) rfl 0 (by decide) (hts (.fieldLink RX8 9 "KingdomAtDice$Thing" "sort" "I") (by decide +kernel)) (fun _ h9 => h9) rfl (by decide +kernel) rfl rfl (Nat.le_of_ble_eq_true rfl) dX8_begin_2 (fun H locs hP hD hS => ?_)
  have hP : va_P g.1 vwCl (kd_th tq (kd_up R t 0 p0)) H := (congrArg (fun w => va_P g.1 vwCl w H) (kd_th_set0 ht (by decide))).mp hP
  have hD : va_D A (kd_th tq (kd_up R t 0 p0)) := (congrArg (fun w => va_D A w) (kd_th_set0 ht (by decide))).mp hD
  refine lv_aload_n hx hb dX8_begin_5 rfl (lv_at hl 0 rfl) ?_
  refine lv_iload_n hx hb dX8_begin_6 rfl (lv_at hl 2 rfl) ?_
  refine va_put (ci := 8) (v := .int p1) (ty := .int) (C := RX8) (T := TX8) (N := 6) hx hb hts hiX8 tyX8 tyX8_ok nmX8 hown hK hP hD hS (t) (kd_th_at0 ht) rfl 1 (by decide) (hts (.fieldLink RX8 15 "KingdomAtDice$Thing" "worth" "I") (by decide +kernel)) (fun _ h9 => h9) rfl (by decide +kernel) rfl rfl (Nat.le_of_ble_eq_true rfl) dX8_begin_7 (fun H locs hP hD hS => ?_)
  have hP : va_P g.1 vwCl (kd_th tq (kd_up (kd_up R t 0 p0) t 1 p1)) H := (congrArg (fun w => va_P g.1 vwCl w H) (kd_th_set0 ht (by decide))).mp hP
  have hD : va_D A (kd_th tq (kd_up (kd_up R t 0 p0) t 1 p1)) := (congrArg (fun w => va_D A w) (kd_th_set0 ht (by decide))).mp hD
  refine lv_aload_n hx hb dX8_begin_10 rfl (lv_at hl 0 rfl) ?_
  refine lv_iconst (v := 1) hx hb dX8_begin_11 (by decide) ?_
  refine va_put (ci := 8) (v := .int 1) (ty := .boolean) (C := RX8) (T := TX8) (N := 6) hx hb hts hiX8 tyX8 tyX8_ok nmX8 hown hK hP hD hS (t) (kd_th_at0 ht) rfl 2 (by decide) (hts (.fieldLink RX8 18 "KingdomAtDice$Thing" "isKings" "Z") (by decide +kernel)) (fun _ h9 => h9) rfl (by decide +kernel) rfl rfl (Nat.le_of_ble_eq_true rfl) dX8_begin_12 (fun H locs hP hD hS => ?_)
  have hP : va_P g.1 vwCl (kd_th tq (kd_up (kd_up (kd_up R t 0 p0) t 1 p1) t 2 1)) H := (congrArg (fun w => va_P g.1 vwCl w H) (kd_th_set0 ht (by decide))).mp hP
  have hD : va_D A (kd_th tq (kd_up (kd_up (kd_up R t 0 p0) t 1 p1) t 2 1)) := (congrArg (fun w => va_D A w) (kd_th_set0 ht (by decide))).mp hD
  refine lv_aload_n hx hb dX8_begin_15 rfl (lv_at hl 0 rfl) ?_
  refine lv_iconst (v := (-1)) hx hb dX8_begin_16 (by decide) ?_
  refine va_put (ci := 8) (v := .int (-1)) (ty := .int) (C := RX8) (T := TX8) (N := 6) hx hb hts hiX8 tyX8 tyX8_ok nmX8 hown hK hP hD hS (t) (kd_th_at0 ht) rfl 3 (by decide) (hts (.fieldLink RX8 22 "KingdomAtDice$Thing" "lostBy" "I") (by decide +kernel)) (fun _ h9 => h9) rfl (by decide +kernel) rfl rfl (Nat.le_of_ble_eq_true rfl) dX8_begin_17 (fun H locs hP hD hS => ?_)
  have hP : va_P g.1 vwCl (kd_th tq (kd_up (kd_up (kd_up (kd_up R t 0 p0) t 1 p1) t 2 1) t 3 (-1))) H := (congrArg (fun w => va_P g.1 vwCl w H) (kd_th_set0 ht (by decide))).mp hP
  have hD : va_D A (kd_th tq (kd_up (kd_up (kd_up (kd_up R t 0 p0) t 1 p1) t 2 1) t 3 (-1))) := (congrArg (fun w => va_D A w) (kd_th_set0 ht (by decide))).mp hD
  refine lv_aload_n hx hb dX8_begin_20 rfl (lv_at hl 0 rfl) ?_
  refine lv_iconst (v := (-1)) hx hb dX8_begin_21 (by decide) ?_
  refine va_put (ci := 8) (v := .int (-1)) (ty := .int) (C := RX8) (T := TX8) (N := 6) hx hb hts hiX8 tyX8 tyX8_ok nmX8 hown hK hP hD hS (t) (kd_th_at0 ht) rfl 4 (by decide) (hts (.fieldLink RX8 25 "KingdomAtDice$Thing" "rightly" "I") (by decide +kernel)) (fun _ h9 => h9) rfl (by decide +kernel) rfl rfl (Nat.le_of_ble_eq_true rfl) dX8_begin_22 (fun H locs hP hD hS => ?_)
  have hP : va_P g.1 vwCl (kd_th tq (kd_up (kd_up (kd_up (kd_up (kd_up R t 0 p0) t 1 p1) t 2 1) t 3 (-1)) t 4 (-1))) H := (congrArg (fun w => va_P g.1 vwCl w H) (kd_th_set0 ht (by decide))).mp hP
  have hD : va_D A (kd_th tq (kd_up (kd_up (kd_up (kd_up (kd_up R t 0 p0) t 1 p1) t 2 1) t 3 (-1)) t 4 (-1))) := (congrArg (fun w => va_D A w) (kd_th_set0 ht (by decide))).mp hD
  refine lv_aload_n hx hb dX8_begin_25 rfl (lv_at hl 0 rfl) ?_
  refine lv_iconst (v := 0) hx hb dX8_begin_26 (by decide) ?_
  refine va_put (ci := 8) (v := .int 0) (ty := .int) (C := RX8) (T := TX8) (N := 6) hx hb hts hiX8 tyX8 tyX8_ok nmX8 hown hK hP hD hS (t) (kd_th_at0 ht) rfl 5 (by decide) (hts (.fieldLink RX8 28 "KingdomAtDice$Thing" "overs" "I") (by decide +kernel)) (fun _ h9 => h9) rfl (by decide +kernel) rfl rfl (Nat.le_of_ble_eq_true rfl) dX8_begin_27 (fun H locs hP hD hS => ?_)
  have hP : va_P g.1 vwCl (kd_th tq (kd_up (kd_up (kd_up (kd_up (kd_up (kd_up R t 0 p0) t 1 p1) t 2 1) t 3 (-1)) t 4 (-1)) t 5 0)) H := (congrArg (fun w => va_P g.1 vwCl w H) (kd_th_set0 ht (by decide))).mp hP
  have hD : va_D A (kd_th tq (kd_up (kd_up (kd_up (kd_up (kd_up (kd_up R t 0 p0) t 1 p1) t 2 1) t 3 (-1)) t 4 (-1)) t 5 0)) := (congrArg (fun w => va_D A w) (kd_th_set0 ht (by decide))).mp hD
  exact kd_vret hx hb hr hlocks hK hS dX8_begin_30 (kd_up (kd_up (kd_up (kd_up (kd_up (kd_up R t 0 p0) t 1 p1) t 2 1) t 3 (-1)) t 4 (-1)) t 5 0) (rfl) hP hD
/-- what KingdomAtDice$Thing.lose answers and leaves, by its instructions -/
def sp_X8_lose (R : Nat → Nat → Int32) (t : Nat) (p0 : Int32) (p1 : Int32) : (Nat → Nat → Int32) :=
  if p1 = 0 then
    kd_up (kd_up (kd_up (kd_up R t 2 0) t 3 p0) t 4 0) t 5 (((kd_up (kd_up (kd_up R t 2 0) t 3 p0) t 4 0) t 5) + 1)
  else
    kd_up (kd_up (kd_up (kd_up R t 2 0) t 3 p0) t 4 1) t 5 (((kd_up (kd_up (kd_up R t 2 0) t 3 p0) t 4 1) t 5) + 1)
set_option maxHeartbeats 4000000 in
set_option maxRecDepth 100000 in
theorem c_X8_lose (l : Launch) (g : kd_G) (sz : Nat) (tq : Nat → Nat) (R : Nat → Nat → Int32) (t : Nat) (p0 : Int32) (p1 : Int32) (ht : t < 6) : kd_MV l yX8_lose wsX8_lose ({ frames := 0, cells := 0, slots := 0, locals := 0 }) [.ref (tq t), .int p0, .int p1] g (kd_th tq R) sz (fun (u : (Nat → Nat → Int32)) => u = sp_X8_lose R t p0 p1) (fun u => (kd_th tq u)) 0 0 := by
  refine kd_met (l := l) (y := yX8_lose) (ws := wsX8_lose) (rm := { frames := 0, cells := 0, slots := 0, locals := 0 }) (av := [.ref (tq t), .int p0, .int p1]) (g := g) (WS := (kd_th tq R)) (sz := sz) (mc := 0) (ms := 0) (cc := cX8_lose) (maxL := 3) (ret := none) (own := RX8) (fun A => va_Qv (fun (u : (Nat → Nat → Int32)) => u = sp_X8_lose R t p0 p1) (fun u t => kd_post g A (kd_th tq u) t) A) (by decide) rfl rfl (Nat.le_of_ble_eq_true rfl) ?_
  intro p e s m below meth c A ls hx hb hr hml hts hown hlocks hnm hA hP hK hD hS hE hl
  have hl : lv_has ls 3 [(0, .ref (tq t)), (1, .int p0), (2, .int p1)] := hl
  have hiX8 : ∀ w ∈ u_ws RX8 TX8 6, w ∈ wsX8_lose := by decide +kernel
  refine lv_aload_n hx hb dX8_lose_0 rfl (lv_at hl 0 rfl) ?_
  refine lv_iconst (v := 0) hx hb dX8_lose_1 (by decide) ?_
  refine va_put (ci := 8) (v := .int 0) (ty := .boolean) (C := RX8) (T := TX8) (N := 6) hx hb hts hiX8 tyX8 tyX8_ok nmX8 hown hK hP hD hS (t) (kd_th_at0 ht) rfl 2 (by decide) (hts (.fieldLink RX8 18 "KingdomAtDice$Thing" "isKings" "Z") (by decide +kernel)) (fun _ h9 => h9) rfl (by decide +kernel) rfl rfl (Nat.le_of_ble_eq_true rfl) dX8_lose_2 (fun H locs hP hD hS => ?_)
  have hP : va_P g.1 vwCl (kd_th tq (kd_up R t 2 0)) H := (congrArg (fun w => va_P g.1 vwCl w H) (kd_th_set0 ht (by decide))).mp hP
  have hD : va_D A (kd_th tq (kd_up R t 2 0)) := (congrArg (fun w => va_D A w) (kd_th_set0 ht (by decide))).mp hD
  refine lv_aload_n hx hb dX8_lose_5 rfl (lv_at hl 0 rfl) ?_
  refine lv_iload_n hx hb dX8_lose_6 rfl (lv_at hl 1 rfl) ?_
  refine va_put (ci := 8) (v := .int p0) (ty := .int) (C := RX8) (T := TX8) (N := 6) hx hb hts hiX8 tyX8 tyX8_ok nmX8 hown hK hP hD hS (t) (kd_th_at0 ht) rfl 3 (by decide) (hts (.fieldLink RX8 22 "KingdomAtDice$Thing" "lostBy" "I") (by decide +kernel)) (fun _ h9 => h9) rfl (by decide +kernel) rfl rfl (Nat.le_of_ble_eq_true rfl) dX8_lose_7 (fun H locs hP hD hS => ?_)
  have hP : va_P g.1 vwCl (kd_th tq (kd_up (kd_up R t 2 0) t 3 p0)) H := (congrArg (fun w => va_P g.1 vwCl w H) (kd_th_set0 ht (by decide))).mp hP
  have hD : va_D A (kd_th tq (kd_up (kd_up R t 2 0) t 3 p0)) := (congrArg (fun w => va_D A w) (kd_th_set0 ht (by decide))).mp hD
  refine lv_aload_n hx hb dX8_lose_10 rfl (lv_at hl 0 rfl) ?_
  refine lv_iload_n hx hb dX8_lose_11 rfl (lv_at hl 2 rfl) ?_
  refine lv_if_eq (tgt := 19) hx hb dX8_lose_12 (by decide) (fun c_12 => ?_) (fun c_12 => ?_)
  · refine lv_iconst (v := 0) hx hb dX8_lose_19 (by decide) ?_
    refine va_put (ci := 8) (v := .int 0) (ty := .int) (C := RX8) (T := TX8) (N := 6) hx hb hts hiX8 tyX8 tyX8_ok nmX8 hown hK hP hD hS (t) (kd_th_at0 ht) rfl 4 (by decide) (hts (.fieldLink RX8 25 "KingdomAtDice$Thing" "rightly" "I") (by decide +kernel)) (fun _ h9 => h9) rfl (by decide +kernel) rfl rfl (Nat.le_of_ble_eq_true rfl) dX8_lose_20 (fun H locs hP hD hS => ?_)
    have hP : va_P g.1 vwCl (kd_th tq (kd_up (kd_up (kd_up R t 2 0) t 3 p0) t 4 0)) H := (congrArg (fun w => va_P g.1 vwCl w H) (kd_th_set0 ht (by decide))).mp hP
    have hD : va_D A (kd_th tq (kd_up (kd_up (kd_up R t 2 0) t 3 p0) t 4 0)) := (congrArg (fun w => va_D A w) (kd_th_set0 ht (by decide))).mp hD
    refine lv_aload_n hx hb dX8_lose_23 rfl (lv_at hl 0 rfl) ?_
    refine lv_dup hx hb dX8_lose_24 rfl ?_
    refine va_get (ci := 8) (v := .int ((kd_up (kd_up (kd_up R t 2 0) t 3 p0) t 4 0) t 5)) (C := RX8) (T := TX8) (N := 6) hx hb hts hiX8 hown hK hP (t) (kd_th_at0 ht) rfl 5 (by decide) (hts (.fieldLink RX8 28 "KingdomAtDice$Thing" "overs" "I") (by decide +kernel)) (fun _ h9 => h9) rfl dX8_lose_25 ?_
    refine lv_iconst (v := 1) hx hb dX8_lose_28 (by decide) ?_
    refine lv_iadd hx hb dX8_lose_29 ?_
    refine va_put (ci := 8) (v := .int (((kd_up (kd_up (kd_up R t 2 0) t 3 p0) t 4 0) t 5) + 1)) (ty := .int) (C := RX8) (T := TX8) (N := 6) hx hb hts hiX8 tyX8 tyX8_ok nmX8 hown hK hP hD hS (t) (kd_th_at0 ht) rfl 5 (by decide) (hts (.fieldLink RX8 28 "KingdomAtDice$Thing" "overs" "I") (by decide +kernel)) (fun _ h9 => h9) rfl (by decide +kernel) rfl rfl (Nat.le_of_ble_eq_true rfl) dX8_lose_30 (fun H locs hP hD hS => ?_)
    have hP : va_P g.1 vwCl (kd_th tq (kd_up (kd_up (kd_up (kd_up R t 2 0) t 3 p0) t 4 0) t 5 (((kd_up (kd_up (kd_up R t 2 0) t 3 p0) t 4 0) t 5) + 1))) H := (congrArg (fun w => va_P g.1 vwCl w H) (kd_th_set0 ht (by decide))).mp hP
    have hD : va_D A (kd_th tq (kd_up (kd_up (kd_up (kd_up R t 2 0) t 3 p0) t 4 0) t 5 (((kd_up (kd_up (kd_up R t 2 0) t 3 p0) t 4 0) t 5) + 1))) := (congrArg (fun w => va_D A w) (kd_th_set0 ht (by decide))).mp hD
    exact kd_vret hx hb hr hlocks hK hS dX8_lose_33 (kd_up (kd_up (kd_up (kd_up R t 2 0) t 3 p0) t 4 0) t 5 (((kd_up (kd_up (kd_up R t 2 0) t 3 p0) t 4 0) t 5) + 1)) (by rw [sp_X8_lose, if_pos c_12]) hP hD
  · refine lv_iconst (v := 1) hx hb dX8_lose_15 (by decide) ?_
    refine lv_goto (tgt := 20) hx hb dX8_lose_16 (by decide) ?_
    refine va_put (ci := 8) (v := .int 1) (ty := .int) (C := RX8) (T := TX8) (N := 6) hx hb hts hiX8 tyX8 tyX8_ok nmX8 hown hK hP hD hS (t) (kd_th_at0 ht) rfl 4 (by decide) (hts (.fieldLink RX8 25 "KingdomAtDice$Thing" "rightly" "I") (by decide +kernel)) (fun _ h9 => h9) rfl (by decide +kernel) rfl rfl (Nat.le_of_ble_eq_true rfl) dX8_lose_20 (fun H locs hP hD hS => ?_)
    have hP : va_P g.1 vwCl (kd_th tq (kd_up (kd_up (kd_up R t 2 0) t 3 p0) t 4 1)) H := (congrArg (fun w => va_P g.1 vwCl w H) (kd_th_set0 ht (by decide))).mp hP
    have hD : va_D A (kd_th tq (kd_up (kd_up (kd_up R t 2 0) t 3 p0) t 4 1)) := (congrArg (fun w => va_D A w) (kd_th_set0 ht (by decide))).mp hD
    refine lv_aload_n hx hb dX8_lose_23 rfl (lv_at hl 0 rfl) ?_
    refine lv_dup hx hb dX8_lose_24 rfl ?_
    refine va_get (ci := 8) (v := .int ((kd_up (kd_up (kd_up R t 2 0) t 3 p0) t 4 1) t 5)) (C := RX8) (T := TX8) (N := 6) hx hb hts hiX8 hown hK hP (t) (kd_th_at0 ht) rfl 5 (by decide) (hts (.fieldLink RX8 28 "KingdomAtDice$Thing" "overs" "I") (by decide +kernel)) (fun _ h9 => h9) rfl dX8_lose_25 ?_
    refine lv_iconst (v := 1) hx hb dX8_lose_28 (by decide) ?_
    refine lv_iadd hx hb dX8_lose_29 ?_
    refine va_put (ci := 8) (v := .int (((kd_up (kd_up (kd_up R t 2 0) t 3 p0) t 4 1) t 5) + 1)) (ty := .int) (C := RX8) (T := TX8) (N := 6) hx hb hts hiX8 tyX8 tyX8_ok nmX8 hown hK hP hD hS (t) (kd_th_at0 ht) rfl 5 (by decide) (hts (.fieldLink RX8 28 "KingdomAtDice$Thing" "overs" "I") (by decide +kernel)) (fun _ h9 => h9) rfl (by decide +kernel) rfl rfl (Nat.le_of_ble_eq_true rfl) dX8_lose_30 (fun H locs hP hD hS => ?_)
    have hP : va_P g.1 vwCl (kd_th tq (kd_up (kd_up (kd_up (kd_up R t 2 0) t 3 p0) t 4 1) t 5 (((kd_up (kd_up (kd_up R t 2 0) t 3 p0) t 4 1) t 5) + 1))) H := (congrArg (fun w => va_P g.1 vwCl w H) (kd_th_set0 ht (by decide))).mp hP
    have hD : va_D A (kd_th tq (kd_up (kd_up (kd_up (kd_up R t 2 0) t 3 p0) t 4 1) t 5 (((kd_up (kd_up (kd_up R t 2 0) t 3 p0) t 4 1) t 5) + 1))) := (congrArg (fun w => va_D A w) (kd_th_set0 ht (by decide))).mp hD
    exact kd_vret hx hb hr hlocks hK hS dX8_lose_33 (kd_up (kd_up (kd_up (kd_up R t 2 0) t 3 p0) t 4 1) t 5 (((kd_up (kd_up (kd_up R t 2 0) t 3 p0) t 4 1) t 5) + 1)) (by rw [sp_X8_lose, if_neg c_12]) hP hD
/-- what KingdomAtDice$Thing.comeBack answers and leaves, by its instructions -/
def sp_X8_comeBack (R : Nat → Nat → Int32) (t : Nat) : (Nat → Nat → Int32) :=
  kd_up (kd_up R t 2 1) t 5 (((kd_up R t 2 1) t 5) + 1)
set_option maxHeartbeats 4000000 in
set_option maxRecDepth 100000 in
theorem c_X8_comeBack (l : Launch) (g : kd_G) (sz : Nat) (tq : Nat → Nat) (R : Nat → Nat → Int32) (t : Nat) (ht : t < 6) : kd_MV l yX8_comeBack wsX8_comeBack ({ frames := 0, cells := 0, slots := 0, locals := 0 }) [.ref (tq t)] g (kd_th tq R) sz (fun (u : (Nat → Nat → Int32)) => u = sp_X8_comeBack R t) (fun u => (kd_th tq u)) 0 0 := by
  refine kd_met (l := l) (y := yX8_comeBack) (ws := wsX8_comeBack) (rm := { frames := 0, cells := 0, slots := 0, locals := 0 }) (av := [.ref (tq t)]) (g := g) (WS := (kd_th tq R)) (sz := sz) (mc := 0) (ms := 0) (cc := cX8_comeBack) (maxL := 1) (ret := none) (own := RX8) (fun A => va_Qv (fun (u : (Nat → Nat → Int32)) => u = sp_X8_comeBack R t) (fun u t => kd_post g A (kd_th tq u) t) A) (by decide) rfl rfl (Nat.le_of_ble_eq_true rfl) ?_
  intro p e s m below meth c A ls hx hb hr hml hts hown hlocks hnm hA hP hK hD hS hE hl
  have hl : lv_has ls 1 [(0, .ref (tq t))] := hl
  have hiX8 : ∀ w ∈ u_ws RX8 TX8 6, w ∈ wsX8_comeBack := by decide +kernel
  refine lv_aload_n hx hb dX8_comeBack_0 rfl (lv_at hl 0 rfl) ?_
  refine lv_iconst (v := 1) hx hb dX8_comeBack_1 (by decide) ?_
  refine va_put (ci := 8) (v := .int 1) (ty := .boolean) (C := RX8) (T := TX8) (N := 6) hx hb hts hiX8 tyX8 tyX8_ok nmX8 hown hK hP hD hS (t) (kd_th_at0 ht) rfl 2 (by decide) (hts (.fieldLink RX8 18 "KingdomAtDice$Thing" "isKings" "Z") (by decide +kernel)) (fun _ h9 => h9) rfl (by decide +kernel) rfl rfl (Nat.le_of_ble_eq_true rfl) dX8_comeBack_2 (fun H locs hP hD hS => ?_)
  have hP : va_P g.1 vwCl (kd_th tq (kd_up R t 2 1)) H := (congrArg (fun w => va_P g.1 vwCl w H) (kd_th_set0 ht (by decide))).mp hP
  have hD : va_D A (kd_th tq (kd_up R t 2 1)) := (congrArg (fun w => va_D A w) (kd_th_set0 ht (by decide))).mp hD
  refine lv_aload_n hx hb dX8_comeBack_5 rfl (lv_at hl 0 rfl) ?_
  refine lv_dup hx hb dX8_comeBack_6 rfl ?_
  refine va_get (ci := 8) (v := .int ((kd_up R t 2 1) t 5)) (C := RX8) (T := TX8) (N := 6) hx hb hts hiX8 hown hK hP (t) (kd_th_at0 ht) rfl 5 (by decide) (hts (.fieldLink RX8 28 "KingdomAtDice$Thing" "overs" "I") (by decide +kernel)) (fun _ h9 => h9) rfl dX8_comeBack_7 ?_
  refine lv_iconst (v := 1) hx hb dX8_comeBack_10 (by decide) ?_
  refine lv_iadd hx hb dX8_comeBack_11 ?_
  refine va_put (ci := 8) (v := .int (((kd_up R t 2 1) t 5) + 1)) (ty := .int) (C := RX8) (T := TX8) (N := 6) hx hb hts hiX8 tyX8 tyX8_ok nmX8 hown hK hP hD hS (t) (kd_th_at0 ht) rfl 5 (by decide) (hts (.fieldLink RX8 28 "KingdomAtDice$Thing" "overs" "I") (by decide +kernel)) (fun _ h9 => h9) rfl (by decide +kernel) rfl rfl (Nat.le_of_ble_eq_true rfl) dX8_comeBack_12 (fun H locs hP hD hS => ?_)
  have hP : va_P g.1 vwCl (kd_th tq (kd_up (kd_up R t 2 1) t 5 (((kd_up R t 2 1) t 5) + 1))) H := (congrArg (fun w => va_P g.1 vwCl w H) (kd_th_set0 ht (by decide))).mp hP
  have hD : va_D A (kd_th tq (kd_up (kd_up R t 2 1) t 5 (((kd_up R t 2 1) t 5) + 1))) := (congrArg (fun w => va_D A w) (kd_th_set0 ht (by decide))).mp hD
  exact kd_vret hx hb hr hlocks hK hS dX8_comeBack_15 (kd_up (kd_up R t 2 1) t 5 (((kd_up R t 2 1) t 5) + 1)) (rfl) hP hD
/-- what KingdomAtDice$Thing.isWronglyLost answers and leaves, by its instructions -/
def sp_X8_isWronglyLost (R : Nat → Nat → Int32) (t : Nat) : Int32 :=
  if (R t 2) = 0 then
    if (R t 4) = 0 then
      1
    else
      0
  else
    0
theorem zb_X8_isWronglyLost (R : Nat → Nat → Int32) (t : Nat) : sp_X8_isWronglyLost R t = 0 ∨ sp_X8_isWronglyLost R t = 1 := by
  unfold sp_X8_isWronglyLost
  repeat' split
  all_goals first | exact Or.inl rfl | exact Or.inr rfl | simp
set_option maxHeartbeats 4000000 in
set_option maxRecDepth 100000 in
theorem c_X8_isWronglyLost (l : Launch) (g : kd_G) (sz : Nat) (tq : Nat → Nat) (R : Nat → Nat → Int32) (t : Nat) (ht : t < 6) : kd_MI l yX8_isWronglyLost wsX8_isWronglyLost ({ frames := 0, cells := 0, slots := 0, locals := 0 }) [.ref (tq t)] g (kd_th tq R) sz (fun r (_ : Unit) => r = sp_X8_isWronglyLost R t) (fun _ => (kd_th tq R)) 0 0 := by
  refine kd_met (l := l) (y := yX8_isWronglyLost) (ws := wsX8_isWronglyLost) (rm := { frames := 0, cells := 0, slots := 0, locals := 0 }) (av := [.ref (tq t)]) (g := g) (WS := (kd_th tq R)) (sz := sz) (mc := 0) (ms := 0) (cc := cX8_isWronglyLost) (maxL := 1) (ret := (some .boolean)) (own := RX8) (fun A => va_Qi (fun r (_ : Unit) => r = sp_X8_isWronglyLost R t) (fun u t => kd_post g A (kd_th tq R) t) A) (by decide) rfl rfl (Nat.le_of_ble_eq_true rfl) ?_
  intro p e s m below meth c A ls hx hb hr hml hts hown hlocks hnm hA hP hK hD hS hE hl
  have hl : lv_has ls 1 [(0, .ref (tq t))] := hl
  have hiX8 : ∀ w ∈ u_ws RX8 TX8 6, w ∈ wsX8_isWronglyLost := by decide +kernel
  refine lv_aload_n hx hb dX8_isWronglyLost_0 rfl (lv_at hl 0 rfl) ?_
  refine va_get (ci := 8) (v := .int (R t 2)) (C := RX8) (T := TX8) (N := 6) hx hb hts hiX8 hown hK hP (t) (kd_th_at0 ht) rfl 2 (by decide) (hts (.fieldLink RX8 18 "KingdomAtDice$Thing" "isKings" "Z") (by decide +kernel)) (fun _ h9 => h9) rfl dX8_isWronglyLost_1 ?_
  refine lv_if_ne (tgt := 18) hx hb dX8_isWronglyLost_4 (by decide) (fun c_4 => ?_) (fun c_4 => ?_)
  · refine lv_iconst (v := 0) hx hb dX8_isWronglyLost_18 (by decide) ?_
    exact kd_zret hx hb hr hlocks hK hS dX8_isWronglyLost_19 (Or.inl rfl) (()) (by rw [sp_X8_isWronglyLost, if_neg c_4]) hP hD
  · refine lv_aload_n hx hb dX8_isWronglyLost_7 rfl (lv_at hl 0 rfl) ?_
    refine va_get (ci := 8) (v := .int (R t 4)) (C := RX8) (T := TX8) (N := 6) hx hb hts hiX8 hown hK hP (t) (kd_th_at0 ht) rfl 4 (by decide) (hts (.fieldLink RX8 25 "KingdomAtDice$Thing" "rightly" "I") (by decide +kernel)) (fun _ h9 => h9) rfl dX8_isWronglyLost_8 ?_
    refine lv_if_ne (tgt := 18) hx hb dX8_isWronglyLost_11 (by decide) (fun c_11 => ?_) (fun c_11 => ?_)
    · refine lv_iconst (v := 0) hx hb dX8_isWronglyLost_18 (by decide) ?_
      exact kd_zret hx hb hr hlocks hK hS dX8_isWronglyLost_19 (Or.inl rfl) (()) (by rw [sp_X8_isWronglyLost, if_pos c_4, if_neg c_11]) hP hD
    · refine lv_iconst (v := 1) hx hb dX8_isWronglyLost_14 (by decide) ?_
      refine lv_goto (tgt := 19) hx hb dX8_isWronglyLost_15 (by decide) ?_
      exact kd_zret hx hb hr hlocks hK hS dX8_isWronglyLost_19 (Or.inr rfl) (()) (by rw [sp_X8_isWronglyLost, if_pos c_4, if_pos c_11]) hP hD
/-- what KingdomAtDice$Thing.isKingsBy answers and leaves, by its instructions -/
def sp_X8_isKingsBy (R : Nat → Nat → Int32) (t : Nat) (p0 : Int32) : Int32 :=
  if (R t 2) = 0 then
    if (p0 &&& 1) = 0 then
      if (p0 &&& 2) = 0 then
        0
      else
        if (R t 0) = 1 then
          1
        else
          0
    else
      if (sp_X8_isWronglyLost R t) = 0 then
        if (p0 &&& 2) = 0 then
          0
        else
          if (R t 0) = 1 then
            1
          else
            0
      else
        1
  else
    1
theorem zb_X8_isKingsBy (R : Nat → Nat → Int32) (t : Nat) (p0 : Int32) : sp_X8_isKingsBy R t p0 = 0 ∨ sp_X8_isKingsBy R t p0 = 1 := by
  unfold sp_X8_isKingsBy
  repeat' split
  all_goals first | exact Or.inl rfl | exact Or.inr rfl | simp
set_option maxHeartbeats 4000000 in
set_option maxRecDepth 100000 in
theorem c_X8_isKingsBy (l : Launch) (g : kd_G) (sz : Nat) (tq : Nat → Nat) (R : Nat → Nat → Int32) (t : Nat) (p0 : Int32) (ht : t < 6) : kd_MI l yX8_isKingsBy wsX8_isKingsBy ({ frames := 1, cells := 0, slots := 0, locals := 20 }) [.ref (tq t), .int p0] g (kd_th tq R) sz (fun r (_ : Unit) => r = sp_X8_isKingsBy R t p0) (fun _ => (kd_th tq R)) 0 0 := by
  refine kd_met (l := l) (y := yX8_isKingsBy) (ws := wsX8_isKingsBy) (rm := { frames := 1, cells := 0, slots := 0, locals := 20 }) (av := [.ref (tq t), .int p0]) (g := g) (WS := (kd_th tq R)) (sz := sz) (mc := 0) (ms := 0) (cc := cX8_isKingsBy) (maxL := 2) (ret := (some .boolean)) (own := RX8) (fun A => va_Qi (fun r (_ : Unit) => r = sp_X8_isKingsBy R t p0) (fun u t => kd_post g A (kd_th tq R) t) A) (by decide) rfl rfl (Nat.le_of_ble_eq_true rfl) ?_
  intro p e s m below meth c A ls hx hb hr hml hts hown hlocks hnm hA hP hK hD hS hE hl
  have hl : lv_has ls 2 [(0, .ref (tq t)), (1, .int p0)] := hl
  have hiX8 : ∀ w ∈ u_ws RX8 TX8 6, w ∈ wsX8_isKingsBy := by decide +kernel
  refine lv_aload_n hx hb dX8_isKingsBy_0 rfl (lv_at hl 0 rfl) ?_
  refine va_get (ci := 8) (v := .int (R t 2)) (C := RX8) (T := TX8) (N := 6) hx hb hts hiX8 hown hK hP (t) (kd_th_at0 ht) rfl 2 (by decide) (hts (.fieldLink RX8 18 "KingdomAtDice$Thing" "isKings" "Z") (by decide +kernel)) (fun _ h9 => h9) rfl dX8_isKingsBy_1 ?_
  refine lv_if_ne (tgt := 34) hx hb dX8_isKingsBy_4 (by decide) (fun c_4 => ?_) (fun c_4 => ?_)
  · refine lv_iconst (v := 1) hx hb dX8_isKingsBy_34 (by decide) ?_
    refine lv_goto (tgt := 39) hx hb dX8_isKingsBy_35 (by decide) ?_
    exact kd_zret hx hb hr hlocks hK hS dX8_isKingsBy_39 (Or.inr rfl) (()) (by rw [sp_X8_isKingsBy, if_neg c_4]) hP hD
  · refine lv_iload_n hx hb dX8_isKingsBy_7 rfl (lv_at hl 1 rfl) ?_
    refine lv_iconst (v := 1) hx hb dX8_isKingsBy_8 (by decide) ?_
    refine lv_iand hx hb dX8_isKingsBy_9 ?_
    refine lv_if_eq (tgt := 20) hx hb dX8_isKingsBy_10 (by decide) (fun c_10 => ?_) (fun c_10 => ?_)
    · refine lv_iload_n hx hb dX8_isKingsBy_20 rfl (lv_at hl 1 rfl) ?_
      refine lv_iconst (v := 2) hx hb dX8_isKingsBy_21 (by decide) ?_
      refine lv_iand hx hb dX8_isKingsBy_22 ?_
      refine lv_if_eq (tgt := 38) hx hb dX8_isKingsBy_23 (by decide) (fun c_23 => ?_) (fun c_23 => ?_)
      · refine lv_iconst (v := 0) hx hb dX8_isKingsBy_38 (by decide) ?_
        exact kd_zret hx hb hr hlocks hK hS dX8_isKingsBy_39 (Or.inl rfl) (()) (by rw [sp_X8_isKingsBy, if_pos c_4, if_pos c_10, if_pos c_23]) hP hD
      · refine lv_aload_n hx hb dX8_isKingsBy_26 rfl (lv_at hl 0 rfl) ?_
        refine va_get (ci := 8) (v := .int (R t 0)) (C := RX8) (T := TX8) (N := 6) hx hb hts hiX8 hown hK hP (t) (kd_th_at0 ht) rfl 0 (by decide) (hts (.fieldLink RX8 9 "KingdomAtDice$Thing" "sort" "I") (by decide +kernel)) (fun _ h9 => h9) rfl dX8_isKingsBy_27 ?_
        refine lv_iconst (v := 1) hx hb dX8_isKingsBy_30 (by decide) ?_
        refine lv_icmp_ne (tgt := 38) hx hb dX8_isKingsBy_31 (by decide) (fun c_31 => ?_) (fun c_31 => ?_)
        · refine lv_iconst (v := 0) hx hb dX8_isKingsBy_38 (by decide) ?_
          exact kd_zret hx hb hr hlocks hK hS dX8_isKingsBy_39 (Or.inl rfl) (()) (by rw [sp_X8_isKingsBy, if_pos c_4, if_pos c_10, if_neg c_23, if_neg c_31]) hP hD
        · refine lv_iconst (v := 1) hx hb dX8_isKingsBy_34 (by decide) ?_
          refine lv_goto (tgt := 39) hx hb dX8_isKingsBy_35 (by decide) ?_
          exact kd_zret hx hb hr hlocks hK hS dX8_isKingsBy_39 (Or.inr rfl) (()) (by rw [sp_X8_isKingsBy, if_pos c_4, if_pos c_10, if_neg c_23, if_pos c_31]) hP hD
    · refine lv_aload_n hx hb dX8_isKingsBy_13 rfl (lv_at hl 0 rfl) ?_
      refine kd_callIK (g := g) (wc := (kd_th tq R)) (va_runV (mc := 0) (ms := 0) (rm := { frames := 0, cells := 0, slots := 0, locals := 0 }) (As := []) (rest := []) ⟨hx, hb, hml, hown, hts⟩ (c_X8_isWronglyLost l g s.heap.size tq R t ht) (cwV 0 hts gX8_isKingsBy_X8_isWronglyLost rfl rfl rfl (by decide +kernel) ⟨Nat.le_of_ble_eq_true rfl, Nat.le_of_ble_eq_true rfl⟩) (kd_preV (wc := (kd_th tq R)) (va_recv hK hP (ci := 8) (q0 := t) rfl (kd_th_at0 ht)) hP hD hS hA hK hE [0, 1, 2, 3, 4, 5] rfl (by decide)) rfl rfl hl.1 rfl (lv_room (Nat.le_of_ble_eq_true rfl)) dX8_isKingsBy_14 ⟨Nat.le_of_ble_eq_true rfl, Nat.le_of_ble_eq_true rfl⟩) hP hD hS hA [0, 1, 2, 3, 4, 5] rfl (fun r_14 _ H locs hw hP hS => ?_)
      subst hw
      refine lv_if_ne (tgt := 34) hx hb dX8_isKingsBy_17 (by decide) (fun c_17 => ?_) (fun c_17 => ?_)
      · refine lv_iconst (v := 1) hx hb dX8_isKingsBy_34 (by decide) ?_
        refine lv_goto (tgt := 39) hx hb dX8_isKingsBy_35 (by decide) ?_
        exact kd_zret hx hb hr hlocks hK hS dX8_isKingsBy_39 (Or.inr rfl) (()) (by rw [sp_X8_isKingsBy, if_pos c_4, if_neg c_10, if_neg c_17]) hP hD
      · refine lv_iload_n hx hb dX8_isKingsBy_20 rfl (lv_at hl 1 rfl) ?_
        refine lv_iconst (v := 2) hx hb dX8_isKingsBy_21 (by decide) ?_
        refine lv_iand hx hb dX8_isKingsBy_22 ?_
        refine lv_if_eq (tgt := 38) hx hb dX8_isKingsBy_23 (by decide) (fun c_23 => ?_) (fun c_23 => ?_)
        · refine lv_iconst (v := 0) hx hb dX8_isKingsBy_38 (by decide) ?_
          exact kd_zret hx hb hr hlocks hK hS dX8_isKingsBy_39 (Or.inl rfl) (()) (by rw [sp_X8_isKingsBy, if_pos c_4, if_neg c_10, if_pos c_17, if_pos c_23]) hP hD
        · refine lv_aload_n hx hb dX8_isKingsBy_26 rfl (lv_at hl 0 rfl) ?_
          refine va_get (ci := 8) (v := .int (R t 0)) (C := RX8) (T := TX8) (N := 6) hx hb hts hiX8 hown hK hP (t) (kd_th_at0 ht) rfl 0 (by decide) (hts (.fieldLink RX8 9 "KingdomAtDice$Thing" "sort" "I") (by decide +kernel)) (fun _ h9 => h9) rfl dX8_isKingsBy_27 ?_
          refine lv_iconst (v := 1) hx hb dX8_isKingsBy_30 (by decide) ?_
          refine lv_icmp_ne (tgt := 38) hx hb dX8_isKingsBy_31 (by decide) (fun c_31 => ?_) (fun c_31 => ?_)
          · refine lv_iconst (v := 0) hx hb dX8_isKingsBy_38 (by decide) ?_
            exact kd_zret hx hb hr hlocks hK hS dX8_isKingsBy_39 (Or.inl rfl) (()) (by rw [sp_X8_isKingsBy, if_pos c_4, if_neg c_10, if_pos c_17, if_neg c_23, if_neg c_31]) hP hD
          · refine lv_iconst (v := 1) hx hb dX8_isKingsBy_34 (by decide) ?_
            refine lv_goto (tgt := 39) hx hb dX8_isKingsBy_35 (by decide) ?_
            exact kd_zret hx hb hr hlocks hK hS dX8_isKingsBy_39 (Or.inr rfl) (()) (by rw [sp_X8_isKingsBy, if_pos c_4, if_neg c_10, if_pos c_17, if_neg c_23, if_pos c_31]) hP hD
/-- what KingdomAtDice$Thing.tell answers and leaves, by its instructions -/
def sp_X8_tell (R : Nat → Nat → Int32) (t : Nat) (p0 : Int32) : Int32 :=
  if p0 = 0 then
    R t 0
  else
    if p0 = 1 then
      R t 1
    else
      if p0 = 2 then
        if (R t 2) = 0 then
          1
        else
          0
      else
        if p0 = 3 then
          R t 3
        else
          if p0 = 4 then
            R t 4
          else
            R t 5
set_option maxHeartbeats 4000000 in
set_option maxRecDepth 100000 in
theorem c_X8_tell (l : Launch) (g : kd_G) (sz : Nat) (tq : Nat → Nat) (R : Nat → Nat → Int32) (t : Nat) (p0 : Int32) (ht : t < 6) : kd_MI l yX8_tell wsX8_tell ({ frames := 0, cells := 0, slots := 0, locals := 0 }) [.ref (tq t), .int p0] g (kd_th tq R) sz (fun r (_ : Unit) => r = sp_X8_tell R t p0) (fun _ => (kd_th tq R)) 0 0 := by
  refine kd_met (l := l) (y := yX8_tell) (ws := wsX8_tell) (rm := { frames := 0, cells := 0, slots := 0, locals := 0 }) (av := [.ref (tq t), .int p0]) (g := g) (WS := (kd_th tq R)) (sz := sz) (mc := 0) (ms := 0) (cc := cX8_tell) (maxL := 2) (ret := (some .int)) (own := RX8) (fun A => va_Qi (fun r (_ : Unit) => r = sp_X8_tell R t p0) (fun u t => kd_post g A (kd_th tq R) t) A) (by decide) rfl rfl (Nat.le_of_ble_eq_true rfl) ?_
  intro p e s m below meth c A ls hx hb hr hml hts hown hlocks hnm hA hP hK hD hS hE hl
  have hl : lv_has ls 2 [(0, .ref (tq t)), (1, .int p0)] := hl
  have hiX8 : ∀ w ∈ u_ws RX8 TX8 6, w ∈ wsX8_tell := by decide +kernel
  refine lv_iload_n hx hb dX8_tell_0 rfl (lv_at hl 1 rfl) ?_
  by_cases c_1_0 : p0 = 0
  · refine lv_tableIn (off := 35) (tgt := 36) hx hb dX8_tell_1 (by rw [c_1_0]; decide) (by rw [c_1_0]; decide) (by rw [c_1_0]; rfl) (by decide) ?_
    refine lv_aload_n hx hb dX8_tell_36 rfl (lv_at hl 0 rfl) ?_
    refine va_get (ci := 8) (v := .int (R t 0)) (C := RX8) (T := TX8) (N := 6) hx hb hts hiX8 hown hK hP (t) (kd_th_at0 ht) rfl 0 (by decide) (hts (.fieldLink RX8 9 "KingdomAtDice$Thing" "sort" "I") (by decide +kernel)) (fun _ h9 => h9) rfl dX8_tell_37 ?_
    exact kd_iret hx hb hr hlocks hK hS dX8_tell_40 (()) (by rw [sp_X8_tell, if_pos c_1_0]) hP hD
  · by_cases c_1_1 : p0 = 1
    · refine lv_tableIn (off := 40) (tgt := 41) hx hb dX8_tell_1 (by rw [c_1_1]; decide) (by rw [c_1_1]; decide) (by rw [c_1_1]; rfl) (by decide) ?_
      refine lv_aload_n hx hb dX8_tell_41 rfl (lv_at hl 0 rfl) ?_
      refine va_get (ci := 8) (v := .int (R t 1)) (C := RX8) (T := TX8) (N := 6) hx hb hts hiX8 hown hK hP (t) (kd_th_at0 ht) rfl 1 (by decide) (hts (.fieldLink RX8 15 "KingdomAtDice$Thing" "worth" "I") (by decide +kernel)) (fun _ h9 => h9) rfl dX8_tell_42 ?_
      exact kd_iret hx hb hr hlocks hK hS dX8_tell_45 (()) (by rw [sp_X8_tell, if_neg c_1_0, if_pos c_1_1]) hP hD
    · by_cases c_1_2 : p0 = 2
      · refine lv_tableIn (off := 45) (tgt := 46) hx hb dX8_tell_1 (by rw [c_1_2]; decide) (by rw [c_1_2]; decide) (by rw [c_1_2]; rfl) (by decide) ?_
        refine lv_aload_n hx hb dX8_tell_46 rfl (lv_at hl 0 rfl) ?_
        refine va_get (ci := 8) (v := .int (R t 2)) (C := RX8) (T := TX8) (N := 6) hx hb hts hiX8 hown hK hP (t) (kd_th_at0 ht) rfl 2 (by decide) (hts (.fieldLink RX8 18 "KingdomAtDice$Thing" "isKings" "Z") (by decide +kernel)) (fun _ h9 => h9) rfl dX8_tell_47 ?_
        refine lv_if_eq (tgt := 57) hx hb dX8_tell_50 (by decide) (fun c_50 => ?_) (fun c_50 => ?_)
        · refine lv_iconst (v := 1) hx hb dX8_tell_57 (by decide) ?_
          exact kd_iret hx hb hr hlocks hK hS dX8_tell_58 (()) (by rw [sp_X8_tell, if_neg c_1_0, if_neg c_1_1, if_pos c_1_2, if_pos c_50]) hP hD
        · refine lv_iconst (v := 0) hx hb dX8_tell_53 (by decide) ?_
          refine lv_goto (tgt := 58) hx hb dX8_tell_54 (by decide) ?_
          exact kd_iret hx hb hr hlocks hK hS dX8_tell_58 (()) (by rw [sp_X8_tell, if_neg c_1_0, if_neg c_1_1, if_pos c_1_2, if_neg c_50]) hP hD
      · by_cases c_1_3 : p0 = 3
        · refine lv_tableIn (off := 58) (tgt := 59) hx hb dX8_tell_1 (by rw [c_1_3]; decide) (by rw [c_1_3]; decide) (by rw [c_1_3]; rfl) (by decide) ?_
          refine lv_aload_n hx hb dX8_tell_59 rfl (lv_at hl 0 rfl) ?_
          refine va_get (ci := 8) (v := .int (R t 3)) (C := RX8) (T := TX8) (N := 6) hx hb hts hiX8 hown hK hP (t) (kd_th_at0 ht) rfl 3 (by decide) (hts (.fieldLink RX8 22 "KingdomAtDice$Thing" "lostBy" "I") (by decide +kernel)) (fun _ h9 => h9) rfl dX8_tell_60 ?_
          exact kd_iret hx hb hr hlocks hK hS dX8_tell_63 (()) (by rw [sp_X8_tell, if_neg c_1_0, if_neg c_1_1, if_neg c_1_2, if_pos c_1_3]) hP hD
        · by_cases c_1_4 : p0 = 4
          · refine lv_tableIn (off := 63) (tgt := 64) hx hb dX8_tell_1 (by rw [c_1_4]; decide) (by rw [c_1_4]; decide) (by rw [c_1_4]; rfl) (by decide) ?_
            refine lv_aload_n hx hb dX8_tell_64 rfl (lv_at hl 0 rfl) ?_
            refine va_get (ci := 8) (v := .int (R t 4)) (C := RX8) (T := TX8) (N := 6) hx hb hts hiX8 hown hK hP (t) (kd_th_at0 ht) rfl 4 (by decide) (hts (.fieldLink RX8 25 "KingdomAtDice$Thing" "rightly" "I") (by decide +kernel)) (fun _ h9 => h9) rfl dX8_tell_65 ?_
            exact kd_iret hx hb hr hlocks hK hS dX8_tell_68 (()) (by rw [sp_X8_tell, if_neg c_1_0, if_neg c_1_1, if_neg c_1_2, if_neg c_1_3, if_pos c_1_4]) hP hD
          · refine lv_tableOut (tgt := 69) hx hb dX8_tell_1 (by have z0 := kd_ne2 c_1_0 (k := 0) (by decide); have z1 := kd_ne2 c_1_1 (k := 1) (by decide); have z2 := kd_ne2 c_1_2 (k := 2) (by decide); have z3 := kd_ne2 c_1_3 (k := 3) (by decide); have z4 := kd_ne2 c_1_4 (k := 4) (by decide); omega) (by decide) ?_
            refine lv_aload_n hx hb dX8_tell_69 rfl (lv_at hl 0 rfl) ?_
            refine va_get (ci := 8) (v := .int (R t 5)) (C := RX8) (T := TX8) (N := 6) hx hb hts hiX8 hown hK hP (t) (kd_th_at0 ht) rfl 5 (by decide) (hts (.fieldLink RX8 28 "KingdomAtDice$Thing" "overs" "I") (by decide +kernel)) (fun _ h9 => h9) rfl dX8_tell_70 ?_
            exact kd_iret hx hb hr hlocks hK hS dX8_tell_73 (()) (by rw [sp_X8_tell, if_neg c_1_0, if_neg c_1_1, if_neg c_1_2, if_neg c_1_3, if_neg c_1_4]) hP hD

/-- what KingdomAtDice$Odds.outcomeOf answers and leaves, by its instructions -/
def sp_X5_outcomeOf (p0 : Int32) (p1 : Int32) : Int32 :=
  if p0 = p1 then
    2
  else
    if p0 ≤ p1 then
      1
    else
      0
set_option maxHeartbeats 4000000 in
set_option maxRecDepth 100000 in
theorem c_X5_outcomeOf (l : Launch) (g : kd_G) (sz : Nat) (p0 : Int32) (p1 : Int32)  : kd_MI l yX5_outcomeOf wsX5_outcomeOf ({ frames := 0, cells := 0, slots := 0, locals := 0 }) [.int p0, .int p1] g [] sz (fun r (_ : Unit) => r = sp_X5_outcomeOf p0 p1) (fun _ => []) 0 0 := by
  refine kd_met (l := l) (y := yX5_outcomeOf) (ws := wsX5_outcomeOf) (rm := { frames := 0, cells := 0, slots := 0, locals := 0 }) (av := [.int p0, .int p1]) (g := g) (WS := []) (sz := sz) (mc := 0) (ms := 0) (cc := cX5_outcomeOf) (maxL := 2) (ret := (some .int)) (own := RX5) (fun A => va_Qi (fun r (_ : Unit) => r = sp_X5_outcomeOf p0 p1) (fun u t => kd_post g A [] t) A) (by decide) rfl rfl (Nat.le_of_ble_eq_true rfl) ?_
  intro p e s m below meth c A ls hx hb hr hml hts hown hlocks hnm hA hP hK hD hS hE hl
  have hl : lv_has ls 2 [(0, .int p0), (1, .int p1)] := hl
  refine lv_iload_n hx hb dX5_outcomeOf_0 rfl (lv_at hl 0 rfl) ?_
  refine lv_iload_n hx hb dX5_outcomeOf_1 rfl (lv_at hl 1 rfl) ?_
  refine lv_icmp_ne (tgt := 7) hx hb dX5_outcomeOf_2 (by decide) (fun c_2 => ?_) (fun c_2 => ?_)
  · refine lv_iload_n hx hb dX5_outcomeOf_7 rfl (lv_at hl 0 rfl) ?_
    refine lv_iload_n hx hb dX5_outcomeOf_8 rfl (lv_at hl 1 rfl) ?_
    refine lv_icmp_le (tgt := 16) hx hb dX5_outcomeOf_9 (by decide) (fun c_9 => ?_) (fun c_9 => ?_)
    · refine lv_iconst (v := 1) hx hb dX5_outcomeOf_16 (by decide) ?_
      exact kd_iret hx hb hr hlocks hK hS dX5_outcomeOf_17 (()) (by rw [sp_X5_outcomeOf, if_neg c_2, if_pos c_9]) hP hD
    · refine lv_iconst (v := 0) hx hb dX5_outcomeOf_12 (by decide) ?_
      refine lv_goto (tgt := 17) hx hb dX5_outcomeOf_13 (by decide) ?_
      exact kd_iret hx hb hr hlocks hK hS dX5_outcomeOf_17 (()) (by rw [sp_X5_outcomeOf, if_neg c_2, if_neg c_9]) hP hD
  · refine lv_iconst (v := 2) hx hb dX5_outcomeOf_5 (by decide) ?_
    exact kd_iret hx hb hr hlocks hK hS dX5_outcomeOf_6 (()) (by rw [sp_X5_outcomeOf, if_pos c_2]) hP hD
theorem kd_oc (x y : Int32) : vp_in (sp_X5_outcomeOf x y) 3 := by
  unfold sp_X5_outcomeOf
  repeat' split
  all_goals first | exact vp_in_nI (n := 0) (by decide) (by decide) | exact vp_in_nI (n := 1) (by decide) (by decide) | exact vp_in_nI (n := 2) (by decide) (by decide)
/-- what KingdomAtDice$Odds.waysTo answers and leaves, by its instructions -/
def sp_X5_waysTo (wf : Nat → Int32) (p0 : Int32) : Int32 :=
  if (sp_X10_isBelow p0 3) = 0 then
    0
  else
    wf p0.toNatClampNeg
set_option maxHeartbeats 4000000 in
set_option maxRecDepth 100000 in
theorem c_X5_waysTo (l : Launch) (g : kd_G) (sz : Nat) (od : Nat) (ow : Nat) (wf : Nat → Int32) (wt : Int32) (p0 : Int32)  : kd_MI l yX5_waysTo wsX5_waysTo ({ frames := 1, cells := 0, slots := 0, locals := 21 }) [.ref od, .int p0] g [(od, .inr (5, [.ref ow, .int wt])), (ow, .inl (g.2.1 0, 3, .inl wf))] sz (fun r (_ : Unit) => r = sp_X5_waysTo wf p0) (fun _ => [(od, .inr (5, [.ref ow, .int wt])), (ow, .inl (g.2.1 0, 3, .inl wf))]) 0 0 := by
  refine kd_met (l := l) (y := yX5_waysTo) (ws := wsX5_waysTo) (rm := { frames := 1, cells := 0, slots := 0, locals := 21 }) (av := [.ref od, .int p0]) (g := g) (WS := [(od, .inr (5, [.ref ow, .int wt])), (ow, .inl (g.2.1 0, 3, .inl wf))]) (sz := sz) (mc := 0) (ms := 0) (cc := cX5_waysTo) (maxL := 2) (ret := (some .int)) (own := RX5) (fun A => va_Qi (fun r (_ : Unit) => r = sp_X5_waysTo wf p0) (fun u t => kd_post g A [(od, .inr (5, [.ref ow, .int wt])), (ow, .inl (g.2.1 0, 3, .inl wf))] t) A) (by decide) rfl rfl (Nat.le_of_ble_eq_true rfl) ?_
  intro p e s m below meth c A ls hx hb hr hml hts hown hlocks hnm hA hP hK hD hS hE hl
  have hl : lv_has ls 2 [(0, .ref od), (1, .int p0)] := hl
  have hiX5 : ∀ w ∈ u_ws RX5 TX5 2, w ∈ wsX5_waysTo := by decide +kernel
  refine lv_iload_n hx hb dX5_waysTo_0 rfl (lv_at hl 1 rfl) ?_
  refine lv_aload_n hx hb dX5_waysTo_1 rfl (lv_at hl 0 rfl) ?_
  refine va_get (ci := 5) (v := .ref ow) (C := RX5) (T := TX5) (N := 2) hx hb hts hiX5 hown hK hP (0) rfl rfl 0 (by decide) (hts (.fieldLink RX5 9 "KingdomAtDice$Odds" "ways" "[I") (by decide +kernel)) (fun _ h9 => h9) rfl dX5_waysTo_2 ?_
  refine va_alen hx hb hK hP 1 0 rfl rfl (v := 3) rfl dX5_waysTo_5 ?_
  refine kd_callIK (g := g) (wc := []) (va_runSN (mc := 0) (ms := 0) (rm := { frames := 0, cells := 0, slots := 0, locals := 0 }) (host := "KingdomAtDice") (As := [.int p0, .int 3]) (rest := []) ⟨hx, hb, hml, hown, hts⟩ (c_X10_isBelow l g s.heap.size p0 3 ) ⟨va_cnB 2 hts gX5_waysTo_X10_isBelow_n33 rfl rfl rfl (kd_N hE 30 rfl) (hts (.initialized RX10) (by decide +kernel)) (by decide +kernel) ⟨Nat.le_of_ble_eq_true rfl, Nat.le_of_ble_eq_true rfl⟩, (hts (.static yX10_isBelow) (by decide +kernel)), trivial⟩ (kd_preS (wc := []) (av := [.int p0, .int 3]) hP hD hS hA hK hE [] rfl (by decide)) rfl rfl hl.1 rfl (lv_room (Nat.le_of_ble_eq_true rfl)) dX5_waysTo_6 ⟨Nat.le_of_ble_eq_true rfl, Nat.le_of_ble_eq_true rfl⟩) hP hD hS hA [] rfl (fun r_6 _ H locs hw hP hS => ?_)
  subst hw
  refine lv_if_eq (tgt := 21) hx hb dX5_waysTo_9 (by decide) (fun c_9 => ?_) (fun c_9 => ?_)
  · refine lv_iconst (v := 0) hx hb dX5_waysTo_21 (by decide) ?_
    exact kd_iret hx hb hr hlocks hK hS dX5_waysTo_22 (()) (by rw [sp_X5_waysTo, if_pos c_9]) hP hD
  · refine lv_aload_n hx hb dX5_waysTo_12 rfl (lv_at hl 0 rfl) ?_
    refine va_get (ci := 5) (v := .ref ow) (C := RX5) (T := TX5) (N := 2) hx hb hts hiX5 hown hK hP (0) rfl rfl 0 (by decide) (hts (.fieldLink RX5 9 "KingdomAtDice$Odds" "ways" "[I") (by decide +kernel)) (fun _ h9 => h9) rfl dX5_waysTo_13 ?_
    refine lv_iload_n hx hb dX5_waysTo_16 rfl (lv_at hl 1 rfl) ?_
    refine va_iald hx hb hK hP 1 0 rfl rfl (kd_belowN (n := 3) c_9 (by decide)) dX5_waysTo_17 ?_
    refine lv_goto (tgt := 22) hx hb dX5_waysTo_18 (by decide) ?_
    exact kd_iret hx hb hr hlocks hK hS dX5_waysTo_22 (()) (by rw [sp_X5_waysTo, if_neg c_9]) hP hD
def kd_z (wf : Nat → Int32) : Nat → Nat → Int32
  | 0 => wf
  | i + 1 => upd (kd_z wf i) i 0
def kd_ri (k0 k1 : Nat) (f : Nat → Int32) (a : Nat) : Nat → Nat → Int32
  | 0 => f
  | i + 1 => upd (kd_ri k0 k1 f a i) (sp_X5_outcomeOf (nI a) (nI (2 + i))).toNatClampNeg ((kd_ri k0 k1 f a i (sp_X5_outcomeOf (nI a) (nI (2 + i))).toNatClampNeg) + ((kd_w k0 (nI a)) * (kd_w k1 (nI (2 + i)))))
def kd_ro (k0 k1 : Nat) (f : Nat → Int32) : Nat → Nat → Int32
  | 0 => f
  | i + 1 => kd_ri k0 k1 (kd_ro k0 k1 f i) (2 + i) 11
set_option maxHeartbeats 4000000 in
set_option maxRecDepth 100000 in
theorem c_X5_reckon (l : Launch) (g : kd_G) (sz : Nat) (od : Nat) (ow : Nat) (wf : Nat → Int32) (wt : Int32) (dq : Nat → Nat) (k0 : Nat) (k1 : Nat) (hk0 : k0 < 5) (hk1 : k1 < 5) : kd_MV l yX5_reckon wsX5_reckon ({ frames := 2, cells := 0, slots := 0, locals := 44 }) [.ref od, .ref (dq k0), .ref (dq k1)] g ([(od, .inr (5, [.ref ow, .int wt])), (ow, .inl (g.2.1 0, 3, .inl wf))] ++ (kd_dc dq)) sz (fun (u : (Nat → Int32) × Int32) => u = (kd_ro k0 k1 (kd_z wf 3) 11, kd_wm k0 * kd_wm k1)) (fun u => ([(od, .inr (5, [.ref ow, .int u.2])), (ow, .inl (g.2.1 0, 3, .inl u.1))] ++ (kd_dc dq))) 0 0 := by
  refine kd_met (l := l) (y := yX5_reckon) (ws := wsX5_reckon) (rm := { frames := 2, cells := 0, slots := 0, locals := 44 }) (av := [.ref od, .ref (dq k0), .ref (dq k1)]) (g := g) (WS := ([(od, .inr (5, [.ref ow, .int wt])), (ow, .inl (g.2.1 0, 3, .inl wf))] ++ (kd_dc dq))) (sz := sz) (mc := 0) (ms := 0) (cc := cX5_reckon) (maxL := 5) (ret := none) (own := RX5) (fun A => va_Qv (fun (u : (Nat → Int32) × Int32) => u = (kd_ro k0 k1 (kd_z wf 3) 11, kd_wm k0 * kd_wm k1)) (fun u t => kd_post g A ([(od, .inr (5, [.ref ow, .int u.2])), (ow, .inl (g.2.1 0, 3, .inl u.1))] ++ (kd_dc dq)) t) A) (by decide) rfl rfl (Nat.le_of_ble_eq_true rfl) ?_
  intro p e s m below meth c A ls hx hb hr hml hts hown hlocks hnm hA hP hK hD hS hE hl
  have hl : lv_has ls 5 [(0, .ref od), (1, .ref (dq k0)), (2, .ref (dq k1))] := hl
  have hiX5 : ∀ w ∈ u_ws RX5 TX5 2, w ∈ wsX5_reckon := by decide +kernel
  refine lv_iconst (v := 0) hx hb dX5_reckon_0 (by decide) ?_
  refine lv_istore_n (lv' := [(3, .int 0), (0, .ref od), (1, .ref (dq k0)), (2, .ref (dq k1))]) hx hb dX5_reckon_1 rfl hl (by decide) rfl (fun ls hl => ?_)
  have loop_2 : ∀ (n_2 : Nat) (i : Nat) (f0 : Nat → Int32), (i ≤ 3) → (f0 = kd_z wf i) → (3 - i) < n_2 → ∀ (H : Heap) (locs : List Loc), va_P g.1 vwCl ([(od, .inr (5, [.ref ow, .int wt])), (ow, .inl (g.2.1 0, 3, .inl f0))] ++ (kd_dc dq)) H → va_D A ([(od, .inr (5, [.ref ow, .int wt])), (ow, .inl (g.2.1 0, 3, .inl f0))] ++ (kd_dc dq)) → va_S A s.heap H locs → ∀ (ls : Array Slot), lv_has ls 5 [(0, .ref od), (1, .ref (dq k0)), (2, .ref (dq k1)), (3, .int (nI i))] → W p l e ({ frames := 2, cells := 0, slots := 0, locals := 44 } : Room) s m ([.ref od, .ref (dq k0), .ref (dq k1)] : List Value).toArray below meth c H locs 0 0 (MQ below (va_Qv (fun (u : (Nat → Int32) × Int32) => u = (kd_ro k0 k1 (kd_z wf 3) 11, kd_wm k0 * kd_wm k1)) (fun u t => kd_post g A ([(od, .inr (5, [.ref ow, .int u.2])), (ow, .inl (g.2.1 0, 3, .inl u.1))] ++ (kd_dc dq)) t) A) ([.ref od, .ref (dq k0), .ref (dq k1)] : List Value).toArray s 0 0 A) (F0 m 2 ls []) := by
    intro n_2
    induction n_2 with
    | zero => intro i f0 _ _ hm_2; exact absurd hm_2 (Nat.not_lt_zero _)
    | succ n_2 ih_2 =>
      intro i f0 hi hf0 hm_2 H locs hP hD hS ls hl
      refine lv_iload_n hx hb dX5_reckon_2 rfl (lv_at hl 3 rfl) ?_
      refine lv_aload_n hx hb dX5_reckon_3 rfl (lv_at hl 0 rfl) ?_
      refine va_get (ci := 5) (v := .ref ow) (C := RX5) (T := TX5) (N := 2) hx hb hts hiX5 hown hK hP (0) rfl rfl 0 (by decide) (hts (.fieldLink RX5 9 "KingdomAtDice$Odds" "ways" "[I") (by decide +kernel)) (fun _ h9 => h9) rfl dX5_reckon_4 ?_
      refine va_alen hx hb hK hP 1 0 rfl rfl (v := 3) rfl dX5_reckon_7 ?_
      refine lv_icmp_ge (tgt := 24) hx hb dX5_reckon_8 (by decide) (fun c_8 => ?_) (fun c_8 => ?_)
      · have n_8 : 3 ≤ i := kd_ce (a := 3) (b := i) (by omega) (by omega) c_8
        refine lv_iconst (v := 2) hx hb dX5_reckon_24 (by decide) ?_
        refine lv_istore_n (lv' := [(3, .int 2), (0, .ref od), (1, .ref (dq k0)), (2, .ref (dq k1))]) hx hb dX5_reckon_25 rfl hl (by decide) rfl (fun ls hl => ?_)
        have loop_26 : ∀ (n_26 : Nat) (a : Nat) (f1 : Nat → Int32), (2 ≤ a) → (a ≤ 13) → (f1 = kd_ro k0 k1 (kd_z wf 3) (a - 2)) → (13 - a) < n_26 → ∀ (H : Heap) (locs : List Loc), va_P g.1 vwCl ([(od, .inr (5, [.ref ow, .int wt])), (ow, .inl (g.2.1 0, 3, .inl f1))] ++ (kd_dc dq)) H → va_D A ([(od, .inr (5, [.ref ow, .int wt])), (ow, .inl (g.2.1 0, 3, .inl f1))] ++ (kd_dc dq)) → va_S A s.heap H locs → ∀ (ls : Array Slot), lv_has ls 5 [(0, .ref od), (1, .ref (dq k0)), (2, .ref (dq k1)), (3, .int (nI a))] → W p l e ({ frames := 2, cells := 0, slots := 0, locals := 44 } : Room) s m ([.ref od, .ref (dq k0), .ref (dq k1)] : List Value).toArray below meth c H locs 0 0 (MQ below (va_Qv (fun (u : (Nat → Int32) × Int32) => u = (kd_ro k0 k1 (kd_z wf 3) 11, kd_wm k0 * kd_wm k1)) (fun u t => kd_post g A ([(od, .inr (5, [.ref ow, .int u.2])), (ow, .inl (g.2.1 0, 3, .inl u.1))] ++ (kd_dc dq)) t) A) ([.ref od, .ref (dq k0), .ref (dq k1)] : List Value).toArray s 0 0 A) (F0 m 26 ls []) := by
          intro n_26
          induction n_26 with
          | zero => intro a f1 _ _ _ hm_26; exact absurd hm_26 (Nat.not_lt_zero _)
          | succ n_26 ih_26 =>
            intro a f1 ha ha2 hf hm_26 H locs hP hD hS ls hl
            refine lv_iload_n hx hb dX5_reckon_26 rfl (lv_at hl 3 rfl) ?_
            refine lv_bipush (v := 12) hx hb dX5_reckon_27 (by decide) ?_
            refine lv_icmp_gt (tgt := 80) hx hb dX5_reckon_29 (by decide) (fun c_29 => ?_) (fun c_29 => ?_)
            · have n_29 : 12 < a := kd_cl (a := 12) (b := a) (by omega) (by omega) c_29
              refine lv_aload_n hx hb dX5_reckon_80 rfl (lv_at hl 0 rfl) ?_
              refine lv_aload_n hx hb dX5_reckon_81 rfl (lv_at hl 1 rfl) ?_
              have run_82 : ∀ k_82 : Nat, k_82 < 5 → va_Run p l e ({ frames := 2, cells := 0, slots := 0, locals := 44 } : Room) s m ([.ref od, .ref (dq k0), .ref (dq k1)] : List Value).toArray below meth c H locs 0 0 0 0 (F0 m 82 ls [.ref (dq k_82), .ref od]) [.ref od] (va_Qi (fun r (_ : Unit) => r = kd_wm k_82) (fun _ t => kd_post g (va_A (kd_dc dq) H.size) (kd_dc dq) t) (va_A (kd_dc dq) H.size) (.ref (dq k_82) :: []).toArray) (va_A (kd_dc dq) H.size) := by
                intro k_82 hk
                rcases (show k_82 = 0 ∨ k_82 = 1 ∨ k_82 = 2 ∨ k_82 = 3 ∨ k_82 = 4 by omega) with rfl | rfl | rfl | rfl | rfl
                · exact va_runV (mc := 0) (ms := 0) (rm := { frames := 1, cells := 0, slots := 0, locals := 20 }) (As := []) (rest := [.ref od]) ⟨hx, hb, hml, hown, hts⟩ (c_wayMany_0 l g H.size dq ) (cwV 0 hts gX5_reckon_X1_wayMany rfl rfl rfl (by decide +kernel) ⟨Nat.le_of_ble_eq_true rfl, Nat.le_of_ble_eq_true rfl⟩) (kd_preV (wc := (kd_dc dq)) (va_recv hK hP (ci := 1) (q0 := 2) rfl rfl) hP hD hS hA hK hE [2, 3, 4, 5, 6] rfl (by decide)) rfl rfl hl.1 rfl (lv_room (Nat.le_of_ble_eq_true rfl)) dX5_reckon_82 ⟨Nat.le_of_ble_eq_true rfl, Nat.le_of_ble_eq_true rfl⟩
                · exact va_runU (mc := 0) (ms := 0) (rm := { frames := 1, cells := 0, slots := 0, locals := 20 }) (C := RX3) (As := []) (rest := [.ref od]) ⟨hx, hb, hml, hown, hts⟩ (c_wayMany_1 l g H.size dq ) (va_cwU 0 hts gX5_reckon_X1_wayMany_u29X3 rfl rfl rfl rfl (by decide +kernel) ⟨Nat.le_of_ble_eq_true rfl, Nat.le_of_ble_eq_true rfl⟩) (kd_preV (wc := (kd_dc dq)) (va_recv hK hP (ci := 3) (q0 := 3) rfl rfl) hP hD hS hA hK hE [2, 3, 4, 5, 6] rfl (by decide)) rfl rfl hl.1 rfl (lv_room (Nat.le_of_ble_eq_true rfl)) dX5_reckon_82 ⟨Nat.le_of_ble_eq_true rfl, Nat.le_of_ble_eq_true rfl⟩
                · exact va_runU (mc := 0) (ms := 0) (rm := { frames := 1, cells := 0, slots := 0, locals := 20 }) (C := RX9) (As := []) (rest := [.ref od]) ⟨hx, hb, hml, hown, hts⟩ (c_wayMany_2 l g H.size dq ) (va_cwO 0 hts gX5_reckon_X9_wayMany_u29X9 rfl rfl rfl (show Cond.code yX1_wayMany cX1_wayMany 1 (some .int) ∈ _ by decide +kernel) (by decide +kernel) ⟨Nat.le_of_ble_eq_true rfl, Nat.le_of_ble_eq_true rfl⟩) (kd_preV (wc := (kd_dc dq)) (va_recv hK hP (ci := 9) (q0 := 4) rfl rfl) hP hD hS hA hK hE [2, 3, 4, 5, 6] rfl (by decide)) rfl rfl hl.1 rfl (lv_room (Nat.le_of_ble_eq_true rfl)) dX5_reckon_82 ⟨Nat.le_of_ble_eq_true rfl, Nat.le_of_ble_eq_true rfl⟩
                · exact va_runU (mc := 0) (ms := 0) (rm := { frames := 1, cells := 0, slots := 0, locals := 20 }) (C := RX4) (As := []) (rest := [.ref od]) ⟨hx, hb, hml, hown, hts⟩ (c_wayMany_3 l g H.size dq ) (va_cwU 0 hts gX5_reckon_X1_wayMany_u29X4 rfl rfl rfl rfl (by decide +kernel) ⟨Nat.le_of_ble_eq_true rfl, Nat.le_of_ble_eq_true rfl⟩) (kd_preV (wc := (kd_dc dq)) (va_recv hK hP (ci := 4) (q0 := 5) rfl rfl) hP hD hS hA hK hE [2, 3, 4, 5, 6] rfl (by decide)) rfl rfl hl.1 rfl (lv_room (Nat.le_of_ble_eq_true rfl)) dX5_reckon_82 ⟨Nat.le_of_ble_eq_true rfl, Nat.le_of_ble_eq_true rfl⟩
                · exact va_runU (mc := 0) (ms := 0) (rm := { frames := 1, cells := 0, slots := 0, locals := 20 }) (C := RX0) (As := []) (rest := [.ref od]) ⟨hx, hb, hml, hown, hts⟩ (c_wayMany_4 l g H.size dq ) (va_cwU 0 hts gX5_reckon_X1_wayMany_u29X0 rfl rfl rfl rfl (by decide +kernel) ⟨Nat.le_of_ble_eq_true rfl, Nat.le_of_ble_eq_true rfl⟩) (kd_preV (wc := (kd_dc dq)) (va_recv hK hP (ci := 0) (q0 := 6) rfl rfl) hP hD hS hA hK hE [2, 3, 4, 5, 6] rfl (by decide)) rfl rfl hl.1 rfl (lv_room (Nat.le_of_ble_eq_true rfl)) dX5_reckon_82 ⟨Nat.le_of_ble_eq_true rfl, Nat.le_of_ble_eq_true rfl⟩
              refine kd_callIK (g := g) (wc := (kd_dc dq)) (run_82 k0 hk0) hP hD hS hA [2, 3, 4, 5, 6] rfl (fun r_82 _ H locs hw hP hS => ?_)
              subst hw
              refine lv_aload_n hx hb dX5_reckon_85 rfl (lv_at hl 2 rfl) ?_
              have run_86 : ∀ k_86 : Nat, k_86 < 5 → va_Run p l e ({ frames := 2, cells := 0, slots := 0, locals := 44 } : Room) s m ([.ref od, .ref (dq k0), .ref (dq k1)] : List Value).toArray below meth c H locs 0 0 0 0 (F0 m 86 ls [.ref (dq k_86), .int (kd_wm k0), .ref od]) [.int (kd_wm k0), .ref od] (va_Qi (fun r (_ : Unit) => r = kd_wm k_86) (fun _ t => kd_post g (va_A (kd_dc dq) H.size) (kd_dc dq) t) (va_A (kd_dc dq) H.size) (.ref (dq k_86) :: []).toArray) (va_A (kd_dc dq) H.size) := by
                intro k_86 hk
                rcases (show k_86 = 0 ∨ k_86 = 1 ∨ k_86 = 2 ∨ k_86 = 3 ∨ k_86 = 4 by omega) with rfl | rfl | rfl | rfl | rfl
                · exact va_runV (mc := 0) (ms := 0) (rm := { frames := 1, cells := 0, slots := 0, locals := 20 }) (As := []) (rest := [.int (kd_wm k0), .ref od]) ⟨hx, hb, hml, hown, hts⟩ (c_wayMany_0 l g H.size dq ) (cwV 0 hts gX5_reckon_X1_wayMany rfl rfl rfl (by decide +kernel) ⟨Nat.le_of_ble_eq_true rfl, Nat.le_of_ble_eq_true rfl⟩) (kd_preV (wc := (kd_dc dq)) (va_recv hK hP (ci := 1) (q0 := 2) rfl rfl) hP hD hS hA hK hE [2, 3, 4, 5, 6] rfl (by decide)) rfl rfl hl.1 rfl (lv_room (Nat.le_of_ble_eq_true rfl)) dX5_reckon_86 ⟨Nat.le_of_ble_eq_true rfl, Nat.le_of_ble_eq_true rfl⟩
                · exact va_runU (mc := 0) (ms := 0) (rm := { frames := 1, cells := 0, slots := 0, locals := 20 }) (C := RX3) (As := []) (rest := [.int (kd_wm k0), .ref od]) ⟨hx, hb, hml, hown, hts⟩ (c_wayMany_1 l g H.size dq ) (va_cwU 0 hts gX5_reckon_X1_wayMany_u29X3 rfl rfl rfl rfl (by decide +kernel) ⟨Nat.le_of_ble_eq_true rfl, Nat.le_of_ble_eq_true rfl⟩) (kd_preV (wc := (kd_dc dq)) (va_recv hK hP (ci := 3) (q0 := 3) rfl rfl) hP hD hS hA hK hE [2, 3, 4, 5, 6] rfl (by decide)) rfl rfl hl.1 rfl (lv_room (Nat.le_of_ble_eq_true rfl)) dX5_reckon_86 ⟨Nat.le_of_ble_eq_true rfl, Nat.le_of_ble_eq_true rfl⟩
                · exact va_runU (mc := 0) (ms := 0) (rm := { frames := 1, cells := 0, slots := 0, locals := 20 }) (C := RX9) (As := []) (rest := [.int (kd_wm k0), .ref od]) ⟨hx, hb, hml, hown, hts⟩ (c_wayMany_2 l g H.size dq ) (va_cwO 0 hts gX5_reckon_X9_wayMany_u29X9 rfl rfl rfl (show Cond.code yX1_wayMany cX1_wayMany 1 (some .int) ∈ _ by decide +kernel) (by decide +kernel) ⟨Nat.le_of_ble_eq_true rfl, Nat.le_of_ble_eq_true rfl⟩) (kd_preV (wc := (kd_dc dq)) (va_recv hK hP (ci := 9) (q0 := 4) rfl rfl) hP hD hS hA hK hE [2, 3, 4, 5, 6] rfl (by decide)) rfl rfl hl.1 rfl (lv_room (Nat.le_of_ble_eq_true rfl)) dX5_reckon_86 ⟨Nat.le_of_ble_eq_true rfl, Nat.le_of_ble_eq_true rfl⟩
                · exact va_runU (mc := 0) (ms := 0) (rm := { frames := 1, cells := 0, slots := 0, locals := 20 }) (C := RX4) (As := []) (rest := [.int (kd_wm k0), .ref od]) ⟨hx, hb, hml, hown, hts⟩ (c_wayMany_3 l g H.size dq ) (va_cwU 0 hts gX5_reckon_X1_wayMany_u29X4 rfl rfl rfl rfl (by decide +kernel) ⟨Nat.le_of_ble_eq_true rfl, Nat.le_of_ble_eq_true rfl⟩) (kd_preV (wc := (kd_dc dq)) (va_recv hK hP (ci := 4) (q0 := 5) rfl rfl) hP hD hS hA hK hE [2, 3, 4, 5, 6] rfl (by decide)) rfl rfl hl.1 rfl (lv_room (Nat.le_of_ble_eq_true rfl)) dX5_reckon_86 ⟨Nat.le_of_ble_eq_true rfl, Nat.le_of_ble_eq_true rfl⟩
                · exact va_runU (mc := 0) (ms := 0) (rm := { frames := 1, cells := 0, slots := 0, locals := 20 }) (C := RX0) (As := []) (rest := [.int (kd_wm k0), .ref od]) ⟨hx, hb, hml, hown, hts⟩ (c_wayMany_4 l g H.size dq ) (va_cwU 0 hts gX5_reckon_X1_wayMany_u29X0 rfl rfl rfl rfl (by decide +kernel) ⟨Nat.le_of_ble_eq_true rfl, Nat.le_of_ble_eq_true rfl⟩) (kd_preV (wc := (kd_dc dq)) (va_recv hK hP (ci := 0) (q0 := 6) rfl rfl) hP hD hS hA hK hE [2, 3, 4, 5, 6] rfl (by decide)) rfl rfl hl.1 rfl (lv_room (Nat.le_of_ble_eq_true rfl)) dX5_reckon_86 ⟨Nat.le_of_ble_eq_true rfl, Nat.le_of_ble_eq_true rfl⟩
              refine kd_callIK (g := g) (wc := (kd_dc dq)) (run_86 k1 hk1) hP hD hS hA [2, 3, 4, 5, 6] rfl (fun r_86 _ H locs hw hP hS => ?_)
              subst hw
              refine lv_imul hx hb dX5_reckon_89 ?_
              refine va_put (ci := 5) (v := .int ((kd_wm k0) * (kd_wm k1))) (ty := .int) (C := RX5) (T := TX5) (N := 2) hx hb hts hiX5 tyX5 tyX5_ok nmX5 hown hK hP hD hS (0) rfl rfl 1 (by decide) (hts (.fieldLink RX5 15 "KingdomAtDice$Odds" "total" "I") (by decide +kernel)) (fun _ h9 => h9) rfl (by decide +kernel) rfl rfl (Nat.le_of_ble_eq_true rfl) dX5_reckon_90 (fun H locs hP hD hS => ?_)
              have hP : va_P g.1 vwCl ([(od, .inr (5, [.ref ow, .int ((kd_wm k0) * (kd_wm k1))])), (ow, .inl (g.2.1 0, 3, .inl f1))] ++ (kd_dc dq)) H := hP
              have hD : va_D A ([(od, .inr (5, [.ref ow, .int ((kd_wm k0) * (kd_wm k1))])), (ow, .inl (g.2.1 0, 3, .inl f1))] ++ (kd_dc dq)) := hD
              exact kd_vret hx hb hr hlocks hK hS dX5_reckon_93 ((f1, (kd_wm k0) * (kd_wm k1))) (by rw [hf, show a = 13 by omega]) hP hD
            · have n_29 : a ≤ 12 := kd_cnl (a := 12) (b := a) (by omega) (by omega) c_29
              refine lv_iconst (v := 2) hx hb dX5_reckon_32 (by decide) ?_
              refine lv_istore (lv' := [(4, .int 2), (0, .ref od), (1, .ref (dq k0)), (2, .ref (dq k1)), (3, .int (nI a))]) hx hb dX5_reckon_33 hl (by decide) rfl (fun ls hl => ?_)
              have loop_35 : ∀ (n_35 : Nat) (b : Nat) (f2 : Nat → Int32), (2 ≤ b) → (b ≤ 13) → (f2 = kd_ri k0 k1 f1 a (b - 2)) → (13 - b) < n_35 → ∀ (H : Heap) (locs : List Loc), va_P g.1 vwCl ([(od, .inr (5, [.ref ow, .int wt])), (ow, .inl (g.2.1 0, 3, .inl f2))] ++ (kd_dc dq)) H → va_D A ([(od, .inr (5, [.ref ow, .int wt])), (ow, .inl (g.2.1 0, 3, .inl f2))] ++ (kd_dc dq)) → va_S A s.heap H locs → ∀ (ls : Array Slot), lv_has ls 5 [(0, .ref od), (1, .ref (dq k0)), (2, .ref (dq k1)), (3, .int (nI a)), (4, .int (nI b))] → W p l e ({ frames := 2, cells := 0, slots := 0, locals := 44 } : Room) s m ([.ref od, .ref (dq k0), .ref (dq k1)] : List Value).toArray below meth c H locs 0 0 (MQ below (va_Qv (fun (u : (Nat → Int32) × Int32) => u = (kd_ro k0 k1 (kd_z wf 3) 11, kd_wm k0 * kd_wm k1)) (fun u t => kd_post g A ([(od, .inr (5, [.ref ow, .int u.2])), (ow, .inl (g.2.1 0, 3, .inl u.1))] ++ (kd_dc dq)) t) A) ([.ref od, .ref (dq k0), .ref (dq k1)] : List Value).toArray s 0 0 A) (F0 m 35 ls []) := by
                intro n_35
                induction n_35 with
                | zero => intro b f2 _ _ _ hm_35; exact absurd hm_35 (Nat.not_lt_zero _)
                | succ n_35 ih_35 =>
                  intro b f2 hb_ hb2 hf2 hm_35 H locs hP hD hS ls hl
                  refine lv_iload hx hb dX5_reckon_35 (lv_at hl 4 rfl) ?_
                  refine lv_bipush (v := 12) hx hb dX5_reckon_37 (by decide) ?_
                  refine lv_icmp_gt (tgt := 74) hx hb dX5_reckon_39 (by decide) (fun c_39 => ?_) (fun c_39 => ?_)
                  · have n_39 : 12 < b := kd_cl (a := 12) (b := b) (by omega) (by omega) c_39
                    refine lv_iinc (v := nI (a + 1)) (lv' := [(3, .int (nI (a + 1))), (0, .ref od), (1, .ref (dq k0)), (2, .ref (dq k1)), (4, .int (nI b))]) hx hb dX5_reckon_74 hl (k := 3) rfl (nI_1 _) (by decide) rfl (fun ls hl => ?_)
                    refine lv_goto (tgt := 26) hx hb dX5_reckon_77 (by decide) ?_
                    exact ih_26 (a + 1) f2 (by omega) (by omega) (by rw [show a + 1 - 2 = (a - 2) + 1 by omega, kd_ro, show 2 + (a - 2) = a by omega, ← hf, hf2, show b = 13 by omega]) (by omega) _ _ hP hD hS ls (lv_sub hl [1, 2, 3, 0] rfl)
                  · have n_39 : b ≤ 12 := kd_cnl (a := 12) (b := b) (by omega) (by omega) c_39
                    refine lv_aload_n hx hb dX5_reckon_42 rfl (lv_at hl 0 rfl) ?_
                    refine va_get (ci := 5) (v := .ref ow) (C := RX5) (T := TX5) (N := 2) hx hb hts hiX5 hown hK hP (0) rfl rfl 0 (by decide) (hts (.fieldLink RX5 9 "KingdomAtDice$Odds" "ways" "[I") (by decide +kernel)) (fun _ h9 => h9) rfl dX5_reckon_43 ?_
                    refine lv_iload_n hx hb dX5_reckon_46 rfl (lv_at hl 3 rfl) ?_
                    refine lv_iload hx hb dX5_reckon_47 (lv_at hl 4 rfl) ?_
                    refine kd_callIK (g := g) (wc := []) (va_runS (mc := 0) (ms := 0) (rm := { frames := 0, cells := 0, slots := 0, locals := 0 }) (As := [.int (nI a), .int (nI b)]) (rest := [.ref ow]) ⟨hx, hb, hml, hown, hts⟩ (c_X5_outcomeOf l g H.size (nI a) (nI b) ) (va_cwS 2 hts gX5_reckon_X5_outcomeOf rfl rfl rfl (by decide +kernel) ⟨Nat.le_of_ble_eq_true rfl, Nat.le_of_ble_eq_true rfl⟩) (kd_preS (wc := []) (av := [.int (nI a), .int (nI b)]) hP hD hS hA hK hE [] rfl (by decide)) rfl rfl hl.1 rfl (lv_room (Nat.le_of_ble_eq_true rfl)) dX5_reckon_49 ⟨Nat.le_of_ble_eq_true rfl, Nat.le_of_ble_eq_true rfl⟩) hP hD hS hA [] rfl (fun r_49 _ H locs hw hP hS => ?_)
                    subst hw
                    refine lv_dup2_11 hx hb dX5_reckon_52 rfl rfl ?_
                    refine va_iald hx hb hK hP 1 0 rfl rfl (kd_oc _ _) dX5_reckon_53 ?_
                    refine lv_aload_n hx hb dX5_reckon_54 rfl (lv_at hl 1 rfl) ?_
                    refine lv_iload_n hx hb dX5_reckon_55 rfl (lv_at hl 3 rfl) ?_
                    have run_56 : ∀ k_56 : Nat, k_56 < 5 → va_Run p l e ({ frames := 2, cells := 0, slots := 0, locals := 44 } : Room) s m ([.ref od, .ref (dq k0), .ref (dq k1)] : List Value).toArray below meth c H locs 0 0 0 0 (F0 m 56 ls [.int (nI a), .ref (dq k_56), .int (f2 (sp_X5_outcomeOf (nI a) (nI b)).toNatClampNeg), .int (sp_X5_outcomeOf (nI a) (nI b)), .ref ow]) [.int (f2 (sp_X5_outcomeOf (nI a) (nI b)).toNatClampNeg), .int (sp_X5_outcomeOf (nI a) (nI b)), .ref ow] (va_Qi (fun r (_ : Unit) => r = kd_w k_56 (nI a)) (fun _ t => kd_post g (va_A (kd_dc dq) H.size) (kd_dc dq) t) (va_A (kd_dc dq) H.size) (.ref (dq k_56) :: [.int (nI a)]).toArray) (va_A (kd_dc dq) H.size) := by
                      intro k_56 hk
                      rcases (show k_56 = 0 ∨ k_56 = 1 ∨ k_56 = 2 ∨ k_56 = 3 ∨ k_56 = 4 by omega) with rfl | rfl | rfl | rfl | rfl
                      · exact va_runV (mc := 0) (ms := 0) (rm := { frames := 1, cells := 0, slots := 0, locals := 20 }) (As := [.int (nI a)]) (rest := [.int (f2 (sp_X5_outcomeOf (nI a) (nI b)).toNatClampNeg), .int (sp_X5_outcomeOf (nI a) (nI b)), .ref ow]) ⟨hx, hb, hml, hown, hts⟩ (c_waysOf_0 l g H.size dq (nI a) ) (cwV 1 hts gX5_reckon_X1_waysOf rfl rfl rfl (by decide +kernel) ⟨Nat.le_of_ble_eq_true rfl, Nat.le_of_ble_eq_true rfl⟩) (kd_preV (wc := (kd_dc dq)) (va_recv hK hP (ci := 1) (q0 := 2) rfl rfl) hP hD hS hA hK hE [2, 3, 4, 5, 6] rfl (by decide)) rfl rfl hl.1 rfl (lv_room (Nat.le_of_ble_eq_true rfl)) dX5_reckon_56 ⟨Nat.le_of_ble_eq_true rfl, Nat.le_of_ble_eq_true rfl⟩
                      · exact va_runU (mc := 0) (ms := 0) (rm := { frames := 1, cells := 0, slots := 0, locals := 20 }) (C := RX3) (As := [.int (nI a)]) (rest := [.int (f2 (sp_X5_outcomeOf (nI a) (nI b)).toNatClampNeg), .int (sp_X5_outcomeOf (nI a) (nI b)), .ref ow]) ⟨hx, hb, hml, hown, hts⟩ (c_waysOf_1 l g H.size dq (nI a) ) (va_cwU 1 hts gX5_reckon_X1_waysOf_u23X3 rfl rfl rfl rfl (by decide +kernel) ⟨Nat.le_of_ble_eq_true rfl, Nat.le_of_ble_eq_true rfl⟩) (kd_preV (wc := (kd_dc dq)) (va_recv hK hP (ci := 3) (q0 := 3) rfl rfl) hP hD hS hA hK hE [2, 3, 4, 5, 6] rfl (by decide)) rfl rfl hl.1 rfl (lv_room (Nat.le_of_ble_eq_true rfl)) dX5_reckon_56 ⟨Nat.le_of_ble_eq_true rfl, Nat.le_of_ble_eq_true rfl⟩
                      · exact va_runU (mc := 0) (ms := 0) (rm := { frames := 1, cells := 0, slots := 0, locals := 20 }) (C := RX9) (As := [.int (nI a)]) (rest := [.int (f2 (sp_X5_outcomeOf (nI a) (nI b)).toNatClampNeg), .int (sp_X5_outcomeOf (nI a) (nI b)), .ref ow]) ⟨hx, hb, hml, hown, hts⟩ (c_waysOf_2 l g H.size dq (nI a) ) (va_cwO 1 hts gX5_reckon_X9_waysOf_u23X9 rfl rfl rfl (show Cond.code yX1_waysOf cX1_waysOf 5 (some .int) ∈ _ by decide +kernel) (by decide +kernel) ⟨Nat.le_of_ble_eq_true rfl, Nat.le_of_ble_eq_true rfl⟩) (kd_preV (wc := (kd_dc dq)) (va_recv hK hP (ci := 9) (q0 := 4) rfl rfl) hP hD hS hA hK hE [2, 3, 4, 5, 6] rfl (by decide)) rfl rfl hl.1 rfl (lv_room (Nat.le_of_ble_eq_true rfl)) dX5_reckon_56 ⟨Nat.le_of_ble_eq_true rfl, Nat.le_of_ble_eq_true rfl⟩
                      · exact va_runU (mc := 0) (ms := 0) (rm := { frames := 1, cells := 0, slots := 0, locals := 20 }) (C := RX4) (As := [.int (nI a)]) (rest := [.int (f2 (sp_X5_outcomeOf (nI a) (nI b)).toNatClampNeg), .int (sp_X5_outcomeOf (nI a) (nI b)), .ref ow]) ⟨hx, hb, hml, hown, hts⟩ (c_waysOf_3 l g H.size dq (nI a) ) (va_cwU 1 hts gX5_reckon_X1_waysOf_u23X4 rfl rfl rfl rfl (by decide +kernel) ⟨Nat.le_of_ble_eq_true rfl, Nat.le_of_ble_eq_true rfl⟩) (kd_preV (wc := (kd_dc dq)) (va_recv hK hP (ci := 4) (q0 := 5) rfl rfl) hP hD hS hA hK hE [2, 3, 4, 5, 6] rfl (by decide)) rfl rfl hl.1 rfl (lv_room (Nat.le_of_ble_eq_true rfl)) dX5_reckon_56 ⟨Nat.le_of_ble_eq_true rfl, Nat.le_of_ble_eq_true rfl⟩
                      · exact va_runU (mc := 0) (ms := 0) (rm := { frames := 1, cells := 0, slots := 0, locals := 20 }) (C := RX0) (As := [.int (nI a)]) (rest := [.int (f2 (sp_X5_outcomeOf (nI a) (nI b)).toNatClampNeg), .int (sp_X5_outcomeOf (nI a) (nI b)), .ref ow]) ⟨hx, hb, hml, hown, hts⟩ (c_waysOf_4 l g H.size dq (nI a) ) (va_cwU 1 hts gX5_reckon_X1_waysOf_u23X0 rfl rfl rfl rfl (by decide +kernel) ⟨Nat.le_of_ble_eq_true rfl, Nat.le_of_ble_eq_true rfl⟩) (kd_preV (wc := (kd_dc dq)) (va_recv hK hP (ci := 0) (q0 := 6) rfl rfl) hP hD hS hA hK hE [2, 3, 4, 5, 6] rfl (by decide)) rfl rfl hl.1 rfl (lv_room (Nat.le_of_ble_eq_true rfl)) dX5_reckon_56 ⟨Nat.le_of_ble_eq_true rfl, Nat.le_of_ble_eq_true rfl⟩
                    refine kd_callIK (g := g) (wc := (kd_dc dq)) (run_56 k0 hk0) hP hD hS hA [2, 3, 4, 5, 6] rfl (fun r_56 _ H locs hw hP hS => ?_)
                    subst hw
                    refine lv_aload_n hx hb dX5_reckon_59 rfl (lv_at hl 2 rfl) ?_
                    refine lv_iload hx hb dX5_reckon_60 (lv_at hl 4 rfl) ?_
                    have run_62 : ∀ k_62 : Nat, k_62 < 5 → va_Run p l e ({ frames := 2, cells := 0, slots := 0, locals := 44 } : Room) s m ([.ref od, .ref (dq k0), .ref (dq k1)] : List Value).toArray below meth c H locs 0 0 0 0 (F0 m 62 ls [.int (nI b), .ref (dq k_62), .int (kd_w k0 (nI a)), .int (f2 (sp_X5_outcomeOf (nI a) (nI b)).toNatClampNeg), .int (sp_X5_outcomeOf (nI a) (nI b)), .ref ow]) [.int (kd_w k0 (nI a)), .int (f2 (sp_X5_outcomeOf (nI a) (nI b)).toNatClampNeg), .int (sp_X5_outcomeOf (nI a) (nI b)), .ref ow] (va_Qi (fun r (_ : Unit) => r = kd_w k_62 (nI b)) (fun _ t => kd_post g (va_A (kd_dc dq) H.size) (kd_dc dq) t) (va_A (kd_dc dq) H.size) (.ref (dq k_62) :: [.int (nI b)]).toArray) (va_A (kd_dc dq) H.size) := by
                      intro k_62 hk
                      rcases (show k_62 = 0 ∨ k_62 = 1 ∨ k_62 = 2 ∨ k_62 = 3 ∨ k_62 = 4 by omega) with rfl | rfl | rfl | rfl | rfl
                      · exact va_runV (mc := 0) (ms := 0) (rm := { frames := 1, cells := 0, slots := 0, locals := 20 }) (As := [.int (nI b)]) (rest := [.int (kd_w k0 (nI a)), .int (f2 (sp_X5_outcomeOf (nI a) (nI b)).toNatClampNeg), .int (sp_X5_outcomeOf (nI a) (nI b)), .ref ow]) ⟨hx, hb, hml, hown, hts⟩ (c_waysOf_0 l g H.size dq (nI b) ) (cwV 1 hts gX5_reckon_X1_waysOf rfl rfl rfl (by decide +kernel) ⟨Nat.le_of_ble_eq_true rfl, Nat.le_of_ble_eq_true rfl⟩) (kd_preV (wc := (kd_dc dq)) (va_recv hK hP (ci := 1) (q0 := 2) rfl rfl) hP hD hS hA hK hE [2, 3, 4, 5, 6] rfl (by decide)) rfl rfl hl.1 rfl (lv_room (Nat.le_of_ble_eq_true rfl)) dX5_reckon_62 ⟨Nat.le_of_ble_eq_true rfl, Nat.le_of_ble_eq_true rfl⟩
                      · exact va_runU (mc := 0) (ms := 0) (rm := { frames := 1, cells := 0, slots := 0, locals := 20 }) (C := RX3) (As := [.int (nI b)]) (rest := [.int (kd_w k0 (nI a)), .int (f2 (sp_X5_outcomeOf (nI a) (nI b)).toNatClampNeg), .int (sp_X5_outcomeOf (nI a) (nI b)), .ref ow]) ⟨hx, hb, hml, hown, hts⟩ (c_waysOf_1 l g H.size dq (nI b) ) (va_cwU 1 hts gX5_reckon_X1_waysOf_u23X3 rfl rfl rfl rfl (by decide +kernel) ⟨Nat.le_of_ble_eq_true rfl, Nat.le_of_ble_eq_true rfl⟩) (kd_preV (wc := (kd_dc dq)) (va_recv hK hP (ci := 3) (q0 := 3) rfl rfl) hP hD hS hA hK hE [2, 3, 4, 5, 6] rfl (by decide)) rfl rfl hl.1 rfl (lv_room (Nat.le_of_ble_eq_true rfl)) dX5_reckon_62 ⟨Nat.le_of_ble_eq_true rfl, Nat.le_of_ble_eq_true rfl⟩
                      · exact va_runU (mc := 0) (ms := 0) (rm := { frames := 1, cells := 0, slots := 0, locals := 20 }) (C := RX9) (As := [.int (nI b)]) (rest := [.int (kd_w k0 (nI a)), .int (f2 (sp_X5_outcomeOf (nI a) (nI b)).toNatClampNeg), .int (sp_X5_outcomeOf (nI a) (nI b)), .ref ow]) ⟨hx, hb, hml, hown, hts⟩ (c_waysOf_2 l g H.size dq (nI b) ) (va_cwO 1 hts gX5_reckon_X9_waysOf_u23X9 rfl rfl rfl (show Cond.code yX1_waysOf cX1_waysOf 5 (some .int) ∈ _ by decide +kernel) (by decide +kernel) ⟨Nat.le_of_ble_eq_true rfl, Nat.le_of_ble_eq_true rfl⟩) (kd_preV (wc := (kd_dc dq)) (va_recv hK hP (ci := 9) (q0 := 4) rfl rfl) hP hD hS hA hK hE [2, 3, 4, 5, 6] rfl (by decide)) rfl rfl hl.1 rfl (lv_room (Nat.le_of_ble_eq_true rfl)) dX5_reckon_62 ⟨Nat.le_of_ble_eq_true rfl, Nat.le_of_ble_eq_true rfl⟩
                      · exact va_runU (mc := 0) (ms := 0) (rm := { frames := 1, cells := 0, slots := 0, locals := 20 }) (C := RX4) (As := [.int (nI b)]) (rest := [.int (kd_w k0 (nI a)), .int (f2 (sp_X5_outcomeOf (nI a) (nI b)).toNatClampNeg), .int (sp_X5_outcomeOf (nI a) (nI b)), .ref ow]) ⟨hx, hb, hml, hown, hts⟩ (c_waysOf_3 l g H.size dq (nI b) ) (va_cwU 1 hts gX5_reckon_X1_waysOf_u23X4 rfl rfl rfl rfl (by decide +kernel) ⟨Nat.le_of_ble_eq_true rfl, Nat.le_of_ble_eq_true rfl⟩) (kd_preV (wc := (kd_dc dq)) (va_recv hK hP (ci := 4) (q0 := 5) rfl rfl) hP hD hS hA hK hE [2, 3, 4, 5, 6] rfl (by decide)) rfl rfl hl.1 rfl (lv_room (Nat.le_of_ble_eq_true rfl)) dX5_reckon_62 ⟨Nat.le_of_ble_eq_true rfl, Nat.le_of_ble_eq_true rfl⟩
                      · exact va_runU (mc := 0) (ms := 0) (rm := { frames := 1, cells := 0, slots := 0, locals := 20 }) (C := RX0) (As := [.int (nI b)]) (rest := [.int (kd_w k0 (nI a)), .int (f2 (sp_X5_outcomeOf (nI a) (nI b)).toNatClampNeg), .int (sp_X5_outcomeOf (nI a) (nI b)), .ref ow]) ⟨hx, hb, hml, hown, hts⟩ (c_waysOf_4 l g H.size dq (nI b) ) (va_cwU 1 hts gX5_reckon_X1_waysOf_u23X0 rfl rfl rfl rfl (by decide +kernel) ⟨Nat.le_of_ble_eq_true rfl, Nat.le_of_ble_eq_true rfl⟩) (kd_preV (wc := (kd_dc dq)) (va_recv hK hP (ci := 0) (q0 := 6) rfl rfl) hP hD hS hA hK hE [2, 3, 4, 5, 6] rfl (by decide)) rfl rfl hl.1 rfl (lv_room (Nat.le_of_ble_eq_true rfl)) dX5_reckon_62 ⟨Nat.le_of_ble_eq_true rfl, Nat.le_of_ble_eq_true rfl⟩
                    refine kd_callIK (g := g) (wc := (kd_dc dq)) (run_62 k1 hk1) hP hD hS hA [2, 3, 4, 5, 6] rfl (fun r_62 _ H locs hw hP hS => ?_)
                    subst hw
                    refine lv_imul hx hb dX5_reckon_65 ?_
                    refine lv_iadd hx hb dX5_reckon_66 ?_
                    refine va_iast hx hb hK hP hD hS 1 0 rfl rfl (kd_oc _ _) dX5_reckon_67 (fun H locs hP hD hS => ?_)
                    have hP : va_P g.1 vwCl ([(od, .inr (5, [.ref ow, .int wt])), (ow, .inl (g.2.1 0, 3, .inl (upd f2 (sp_X5_outcomeOf (nI a) (nI b)).toNatClampNeg ((f2 (sp_X5_outcomeOf (nI a) (nI b)).toNatClampNeg) + ((kd_w k0 (nI a)) * (kd_w k1 (nI b)))))))] ++ (kd_dc dq)) H := hP
                    have hD : va_D A ([(od, .inr (5, [.ref ow, .int wt])), (ow, .inl (g.2.1 0, 3, .inl (upd f2 (sp_X5_outcomeOf (nI a) (nI b)).toNatClampNeg ((f2 (sp_X5_outcomeOf (nI a) (nI b)).toNatClampNeg) + ((kd_w k0 (nI a)) * (kd_w k1 (nI b)))))))] ++ (kd_dc dq)) := hD
                    refine lv_iinc (v := nI (b + 1)) (lv' := [(4, .int (nI (b + 1))), (0, .ref od), (1, .ref (dq k0)), (2, .ref (dq k1)), (3, .int (nI a))]) hx hb dX5_reckon_68 hl (k := 4) rfl (nI_1 _) (by decide) rfl (fun ls hl => ?_)
                    refine lv_goto (tgt := 35) hx hb dX5_reckon_71 (by decide) ?_
                    exact ih_35 (b + 1) (upd f2 (sp_X5_outcomeOf (nI a) (nI b)).toNatClampNeg ((f2 (sp_X5_outcomeOf (nI a) (nI b)).toNatClampNeg) + ((kd_w k0 (nI a)) * (kd_w k1 (nI b))))) (by omega) (by omega) (by rw [show b + 1 - 2 = (b - 2) + 1 by omega, kd_ri, show 2 + (b - 2) = b by omega, ← hf2]) (by omega) _ _ hP hD hS ls (lv_sub hl [1, 2, 3, 4, 0] rfl)
              exact loop_35 ((13 - 2) + 1) 2 f1 (by decide) (by decide) rfl (Nat.lt_succ_self _) _ _ hP hD hS ls (lv_sub hl [1, 2, 3, 4, 0] rfl)
        exact loop_26 ((13 - 2) + 1) 2 f0 (by decide) (by decide) (by rw [hf0, show i = 3 by omega]; rfl) (Nat.lt_succ_self _) _ _ hP hD hS ls (lv_sub hl [1, 2, 3, 0] rfl)
      · have n_8 : i < 3 := kd_cne (a := 3) (b := i) (by omega) (by omega) c_8
        refine lv_aload_n hx hb dX5_reckon_11 rfl (lv_at hl 0 rfl) ?_
        refine va_get (ci := 5) (v := .ref ow) (C := RX5) (T := TX5) (N := 2) hx hb hts hiX5 hown hK hP (0) rfl rfl 0 (by decide) (hts (.fieldLink RX5 9 "KingdomAtDice$Odds" "ways" "[I") (by decide +kernel)) (fun _ h9 => h9) rfl dX5_reckon_12 ?_
        refine lv_iload_n hx hb dX5_reckon_15 rfl (lv_at hl 3 rfl) ?_
        refine lv_iconst (v := 0) hx hb dX5_reckon_16 (by decide) ?_
        refine kd_iast hx hb hK hP hD hS 1 (k := i) rfl (by omega) (by decide) dX5_reckon_17 (fun H locs hP hD hS => ?_)
        have hP : va_P g.1 vwCl ([(od, .inr (5, [.ref ow, .int wt])), (ow, .inl (g.2.1 0, 3, .inl (upd f0 i 0)))] ++ (kd_dc dq)) H := hP
        have hD : va_D A ([(od, .inr (5, [.ref ow, .int wt])), (ow, .inl (g.2.1 0, 3, .inl (upd f0 i 0)))] ++ (kd_dc dq)) := hD
        refine lv_iinc (v := nI (i + 1)) (lv' := [(3, .int (nI (i + 1))), (0, .ref od), (1, .ref (dq k0)), (2, .ref (dq k1))]) hx hb dX5_reckon_18 hl (k := 3) rfl (nI_1 _) (by decide) rfl (fun ls hl => ?_)
        refine lv_goto (tgt := 2) hx hb dX5_reckon_21 (by decide) ?_
        exact ih_2 (i + 1) (upd f0 i 0) (by omega) (by rw [hf0]; rfl) (by omega) _ _ hP hD hS ls (lv_sub hl [1, 2, 3, 0] rfl)
  exact loop_2 ((3 - 0) + 1) 0 wf (by omega) rfl (Nat.lt_succ_self _) _ _ hP hD hS ls (lv_sub hl [1, 2, 3, 0] rfl)
def kd_pw (b : Int64) : Nat → Int64
  | 0 => 1
  | i + 1 => kd_pw b i * b
def kd_cd : Nat → Int64 → Int64 → Int64
  | 0, a, _ => a
  | k + 1, a, b => if lg_cmp b 0 = 0 then a else kd_cd k b (a - a / b * b)
theorem kd_lc0 {b : Int64} (h : ¬ lg_cmp b 0 = 0) : ¬ b = 0 := fun e => h (by rw [e]; decide)
theorem kd_lcl {b : Int64} (h : ¬ lg_cmp b 0 ≤ 0) : ¬ b = 0 := fun e => h (by rw [e]; decide)
set_option maxHeartbeats 4000000 in
set_option maxRecDepth 100000 in
theorem c_X10_power (l : Launch) (g : kd_G) (sz : Nat) (a0 : Int64) (n : Nat) (hn : n ≤ 100) : kd_ML l yX10_power wsX10_power ({ frames := 0, cells := 0, slots := 0, locals := 0 }) [.long a0, .int (nI n)] g [] sz (fun r (_ : Unit) => r = kd_pw a0 n) (fun _ => []) 0 0 := by
  refine kd_met (l := l) (y := yX10_power) (ws := wsX10_power) (rm := { frames := 0, cells := 0, slots := 0, locals := 0 }) (av := [.long a0, .int (nI n)]) (g := g) (WS := []) (sz := sz) (mc := 0) (ms := 0) (cc := cX10_power) (maxL := 6) (ret := (some .long)) (own := RX10) (fun A => va_Ql (fun r (_ : Unit) => r = kd_pw a0 n) (fun u t => kd_post g A [] t) A) (by decide) rfl rfl (Nat.le_of_ble_eq_true rfl) ?_
  intro p e s m below meth c A ls hx hb hr hml hts hown hlocks hnm hA hP hK hD hS hE hl
  have hl : lv_has ls 6 [(0, .long a0), (2, .int (nI n))] := hl
  refine lv_lconst (v := 1) hx hb dX10_power_0 (by decide) ?_
  refine lv_lstore_n (lv' := [(3, .long 1), (0, .long a0), (2, .int (nI n))]) hx hb dX10_power_1 rfl hl (by decide) rfl (fun ls hl => ?_)
  refine lv_iconst (v := 0) hx hb dX10_power_2 (by decide) ?_
  refine lv_istore (lv' := [(5, .int 0), (3, .long 1), (0, .long a0), (2, .int (nI n))]) hx hb dX10_power_3 hl (by decide) rfl (fun ls hl => ?_)
  have loop_5 : ∀ (n_5 : Nat) (i : Nat) (a : Int64), (i ≤ n) → (a = kd_pw a0 i) → (n - i) < n_5 → ∀ (H : Heap) (locs : List Loc), va_P g.1 vwCl [] H → va_D A [] → va_S A s.heap H locs → ∀ (ls : Array Slot), lv_has ls 6 [(0, .long a0), (2, .int (nI n)), (3, .long a), (5, .int (nI i))] → W p l e ({ frames := 0, cells := 0, slots := 0, locals := 0 } : Room) s m ([.long a0, .int (nI n)] : List Value).toArray below meth c H locs 0 0 (MQ below (va_Ql (fun r (_ : Unit) => r = kd_pw a0 n) (fun u t => kd_post g A [] t) A) ([.long a0, .int (nI n)] : List Value).toArray s 0 0 A) (F0 m 5 ls []) := by
    intro n_5
    induction n_5 with
    | zero => intro i a _ _ hm_5; exact absurd hm_5 (Nat.not_lt_zero _)
    | succ n_5 ih_5 =>
      intro i a hi ha hm_5 H locs hP hD hS ls hl
      refine lv_iload hx hb dX10_power_5 (lv_at hl 3 rfl) ?_
      refine lv_iload_n hx hb dX10_power_7 rfl (lv_at hl 1 rfl) ?_
      refine lv_icmp_ge (tgt := 21) hx hb dX10_power_8 (by decide) (fun c_8 => ?_) (fun c_8 => ?_)
      · have n_8 : n ≤ i := kd_ce (a := n) (b := i) (by omega) (by omega) c_8
        refine lv_lload_n hx hb dX10_power_21 rfl (lv_at hl 2 rfl) ?_
        exact kd_lret hx hb hr hlocks hK hS dX10_power_22 (()) (by rw [ha, show i = n by omega]) hP hD
      · have n_8 : i < n := kd_cne (a := n) (b := i) (by omega) (by omega) c_8
        refine lv_lload_n hx hb dX10_power_11 rfl (lv_at hl 2 rfl) ?_
        refine lv_lload_n hx hb dX10_power_12 rfl (lv_at hl 0 rfl) ?_
        refine lv_lmul hx hb dX10_power_13 ?_
        refine lv_lstore_n (lv' := [(3, .long (a * a0)), (0, .long a0), (2, .int (nI n)), (5, .int (nI i))]) hx hb dX10_power_14 rfl hl (by decide) rfl (fun ls hl => ?_)
        refine lv_iinc (v := nI (i + 1)) (lv' := [(5, .int (nI (i + 1))), (3, .long (a * a0)), (0, .long a0), (2, .int (nI n))]) hx hb dX10_power_15 hl (k := 3) rfl (nI_1 _) (by decide) rfl (fun ls hl => ?_)
        refine lv_goto (tgt := 5) hx hb dX10_power_18 (by decide) ?_
        exact ih_5 (i + 1) (a * a0) (by omega) (by rw [ha]; rfl) (by omega) _ _ hP hD hS ls (lv_sub hl [2, 3, 1, 0] rfl)
  exact loop_5 ((n - 0) + 1) 0 1 (by omega) rfl (Nat.lt_succ_self _) _ _ hP hD hS ls (lv_sub hl [2, 3, 1, 0] rfl)
set_option maxHeartbeats 4000000 in
set_option maxRecDepth 100000 in
theorem c_X10_commonDivisor (l : Launch) (g : kd_G) (sz : Nat) (a0 : Int64) (a1 : Int64)  : kd_ML l yX10_commonDivisor wsX10_commonDivisor ({ frames := 0, cells := 0, slots := 0, locals := 0 }) [.long a0, .long a1] g [] sz (fun r (_ : Unit) => r = kd_cd 100 a0 a1) (fun _ => []) 0 0 := by
  refine kd_met (l := l) (y := yX10_commonDivisor) (ws := wsX10_commonDivisor) (rm := { frames := 0, cells := 0, slots := 0, locals := 0 }) (av := [.long a0, .long a1]) (g := g) (WS := []) (sz := sz) (mc := 0) (ms := 0) (cc := cX10_commonDivisor) (maxL := 11) (ret := (some .long)) (own := RX10) (fun A => va_Ql (fun r (_ : Unit) => r = kd_cd 100 a0 a1) (fun u t => kd_post g A [] t) A) (by decide) rfl rfl (Nat.le_of_ble_eq_true rfl) ?_
  intro p e s m below meth c A ls hx hb hr hml hts hown hlocks hnm hA hP hK hD hS hE hl
  have hl : lv_has ls 11 [(0, .long a0), (2, .long a1)] := hl
  refine lv_lload_n hx hb dX10_commonDivisor_0 rfl (lv_at hl 0 rfl) ?_
  refine lv_lstore (lv' := [(4, .long a0), (0, .long a0), (2, .long a1)]) hx hb dX10_commonDivisor_1 hl (by decide) rfl (fun ls hl => ?_)
  refine lv_lload_n hx hb dX10_commonDivisor_3 rfl (lv_at hl 2 rfl) ?_
  refine lv_lstore (lv' := [(6, .long a1), (4, .long a0), (0, .long a0), (2, .long a1)]) hx hb dX10_commonDivisor_4 hl (by decide) rfl (fun ls hl => ?_)
  refine lv_iconst (v := 0) hx hb dX10_commonDivisor_6 (by decide) ?_
  refine lv_istore (lv' := [(8, .int 0), (6, .long a1), (4, .long a0), (0, .long a0), (2, .long a1)]) hx hb dX10_commonDivisor_7 hl (by decide) rfl (fun ls hl => ?_)
  have loop_9 : ∀ (n_9 : Nat) (i : Nat) (k : Nat) (x : Int64) (y : Int64), (i + k = 100) → (kd_cd 100 a0 a1 = kd_cd k x y) → (k) < n_9 → ∀ (H : Heap) (locs : List Loc), va_P g.1 vwCl [] H → va_D A [] → va_S A s.heap H locs → ∀ (ls : Array Slot), lv_has ls 11 [(0, .long a0), (2, .long a1), (4, .long x), (6, .long y), (8, .int (nI i))] → W p l e ({ frames := 0, cells := 0, slots := 0, locals := 0 } : Room) s m ([.long a0, .long a1] : List Value).toArray below meth c H locs 0 0 (MQ below (va_Ql (fun r (_ : Unit) => r = kd_cd 100 a0 a1) (fun u t => kd_post g A [] t) A) ([.long a0, .long a1] : List Value).toArray s 0 0 A) (F0 m 9 ls []) := by
    intro n_9
    induction n_9 with
    | zero => intro i k x y _ _ hm_9; exact absurd hm_9 (Nat.not_lt_zero _)
    | succ n_9 ih_9 =>
      intro i k x y hik hq hm_9 H locs hP hD hS ls hl
      refine lv_iload hx hb dX10_commonDivisor_9 (lv_at hl 4 rfl) ?_
      refine lv_bipush (v := 100) hx hb dX10_commonDivisor_11 (by decide) ?_
      refine lv_icmp_ge (tgt := 44) hx hb dX10_commonDivisor_13 (by decide) (fun c_13 => ?_) (fun c_13 => ?_)
      · have n_13 : 100 ≤ i := kd_ce (a := 100) (b := i) (by omega) (by omega) c_13
        refine lv_lload hx hb dX10_commonDivisor_44 (lv_at hl 2 rfl) ?_
        exact kd_lret hx hb hr hlocks hK hS dX10_commonDivisor_46 (()) (by first | (rw [hq, kd_cd, if_pos c_20]; done) | (rw [hq, show k = 0 by omega]; rfl)) hP hD
      · have n_13 : i < 100 := kd_cne (a := 100) (b := i) (by omega) (by omega) c_13
        obtain ⟨k, rfl⟩ : ∃ z, k = z + 1 := ⟨k - 1, by omega⟩
        refine lv_lload hx hb dX10_commonDivisor_16 (lv_at hl 3 rfl) ?_
        refine lv_lconst (v := 0) hx hb dX10_commonDivisor_18 (by decide) ?_
        refine W.lcmp hx hb dX10_commonDivisor_19 ?_
        refine lv_if_eq (tgt := 44) hx hb dX10_commonDivisor_20 (by decide) (fun c_20 => ?_) (fun c_20 => ?_)
        · refine lv_lload hx hb dX10_commonDivisor_44 (lv_at hl 2 rfl) ?_
          exact kd_lret hx hb hr hlocks hK hS dX10_commonDivisor_46 (()) (by first | (rw [hq, kd_cd, if_pos c_20]; done) | (rw [hq, show k = 0 by omega]; rfl)) hP hD
        · refine lv_lload hx hb dX10_commonDivisor_23 (lv_at hl 2 rfl) ?_
          refine lv_lload hx hb dX10_commonDivisor_25 (lv_at hl 3 rfl) ?_
          refine lv_lrem hx hb dX10_commonDivisor_27 (kd_lc0 c_20) ?_
          refine lv_lstore (lv' := [(9, .long (x - x / y * y)), (0, .long a0), (2, .long a1), (4, .long x), (6, .long y), (8, .int (nI i))]) hx hb dX10_commonDivisor_28 hl (by decide) rfl (fun ls hl => ?_)
          refine lv_lload hx hb dX10_commonDivisor_30 (lv_at hl 4 rfl) ?_
          refine lv_lstore (lv' := [(4, .long y), (9, .long (x - x / y * y)), (0, .long a0), (2, .long a1), (6, .long y), (8, .int (nI i))]) hx hb dX10_commonDivisor_32 hl (by decide) rfl (fun ls hl => ?_)
          refine lv_lload hx hb dX10_commonDivisor_34 (lv_at hl 1 rfl) ?_
          refine lv_lstore (lv' := [(6, .long (x - x / y * y)), (4, .long y), (9, .long (x - x / y * y)), (0, .long a0), (2, .long a1), (8, .int (nI i))]) hx hb dX10_commonDivisor_36 hl (by decide) rfl (fun ls hl => ?_)
          refine lv_iinc (v := nI (i + 1)) (lv' := [(8, .int (nI (i + 1))), (6, .long (x - x / y * y)), (4, .long y), (9, .long (x - x / y * y)), (0, .long a0), (2, .long a1)]) hx hb dX10_commonDivisor_38 hl (k := 5) rfl (nI_1 _) (by decide) rfl (fun ls hl => ?_)
          refine lv_goto (tgt := 9) hx hb dX10_commonDivisor_41 (by decide) ?_
          exact ih_9 (i + 1) k y (x - x / y * y) (by omega) (by rw [hq, kd_cd, if_neg c_20]) (by omega) _ _ hP hD hS ls (lv_sub hl [4, 5, 2, 1, 0] rfl)
  exact loop_9 (100 + 1) 0 100 a0 a1 (by omega) rfl (Nat.lt_succ_self _) _ _ hP hD hS ls (lv_sub hl [3, 4, 2, 1, 0] rfl)
/-- what KingdomAtDice.lowestTerm answers and leaves, by its instructions -/
def sp_X10_lowestTerm (a0 : Int64) (a1 : Int64) (p0 : Int32) : Int64 :=
  if p0 = 0 then
    if (lg_cmp (kd_cd 100 a0 a1) 0) ≤ 0 then
      a0
    else
      a0 / (kd_cd 100 a0 a1)
  else
    if (lg_cmp (kd_cd 100 a0 a1) 0) ≤ 0 then
      a1
    else
      a1 / (kd_cd 100 a0 a1)
set_option maxHeartbeats 4000000 in
set_option maxRecDepth 100000 in
theorem c_X10_lowestTerm (l : Launch) (g : kd_G) (sz : Nat) (a0 : Int64) (a1 : Int64) (p0 : Int32)  : kd_ML l yX10_lowestTerm wsX10_lowestTerm ({ frames := 1, cells := 0, slots := 0, locals := 30 }) [.long a0, .long a1, .int p0] g [] sz (fun r (_ : Unit) => r = sp_X10_lowestTerm a0 a1 p0) (fun _ => []) 0 0 := by
  refine kd_met (l := l) (y := yX10_lowestTerm) (ws := wsX10_lowestTerm) (rm := { frames := 1, cells := 0, slots := 0, locals := 30 }) (av := [.long a0, .long a1, .int p0]) (g := g) (WS := []) (sz := sz) (mc := 0) (ms := 0) (cc := cX10_lowestTerm) (maxL := 9) (ret := (some .long)) (own := RX10) (fun A => va_Ql (fun r (_ : Unit) => r = sp_X10_lowestTerm a0 a1 p0) (fun u t => kd_post g A [] t) A) (by decide) rfl rfl (Nat.le_of_ble_eq_true rfl) ?_
  intro p e s m below meth c A ls hx hb hr hml hts hown hlocks hnm hA hP hK hD hS hE hl
  have hl : lv_has ls 9 [(0, .long a0), (2, .long a1), (4, .int p0)] := hl
  refine lv_lload_n hx hb dX10_lowestTerm_0 rfl (lv_at hl 0 rfl) ?_
  refine lv_lload_n hx hb dX10_lowestTerm_1 rfl (lv_at hl 1 rfl) ?_
  refine kd_callLK (g := g) (wc := []) (va_runS (mc := 0) (ms := 0) (rm := { frames := 0, cells := 0, slots := 0, locals := 0 }) (As := [.long a0, .long a1]) (rest := []) ⟨hx, hb, hml, hown, hts⟩ (c_X10_commonDivisor l g s.heap.size a0 a1 ) (va_cwS 2 hts gX10_lowestTerm_X10_commonDivisor rfl rfl rfl (by decide +kernel) ⟨Nat.le_of_ble_eq_true rfl, Nat.le_of_ble_eq_true rfl⟩) (kd_preS (wc := []) (av := [.long a0, .long a1]) hP hD hS hA hK hE [] rfl (by decide)) rfl rfl hl.1 rfl (lv_room (Nat.le_of_ble_eq_true rfl)) dX10_lowestTerm_2 ⟨Nat.le_of_ble_eq_true rfl, Nat.le_of_ble_eq_true rfl⟩) hP hD hS hA [] rfl (fun r_2 _ H locs hw hP hS => ?_)
  subst hw
  refine lv_lstore (lv' := [(5, .long (kd_cd 100 a0 a1)), (0, .long a0), (2, .long a1), (4, .int p0)]) hx hb dX10_lowestTerm_5 hl (by decide) rfl (fun ls hl => ?_)
  refine lv_iload hx hb dX10_lowestTerm_7 (lv_at hl 3 rfl) ?_
  refine lv_if_ne (tgt := 16) hx hb dX10_lowestTerm_9 (by decide) (fun c_9 => ?_) (fun c_9 => ?_)
  · refine lv_lload_n hx hb dX10_lowestTerm_16 rfl (lv_at hl 2 rfl) ?_
    refine lv_lstore (lv' := [(7, .long a1), (5, .long (kd_cd 100 a0 a1)), (0, .long a0), (2, .long a1), (4, .int p0)]) hx hb dX10_lowestTerm_17 hl (by decide) rfl (fun ls hl => ?_)
    refine lv_lload hx hb dX10_lowestTerm_19 (lv_at hl 1 rfl) ?_
    refine lv_lconst (v := 0) hx hb dX10_lowestTerm_21 (by decide) ?_
    refine W.lcmp hx hb dX10_lowestTerm_22 ?_
    refine lv_if_le (tgt := 34) hx hb dX10_lowestTerm_23 (by decide) (fun c_23 => ?_) (fun c_23 => ?_)
    · refine lv_lload hx hb dX10_lowestTerm_34 (lv_at hl 0 rfl) ?_
      exact kd_lret hx hb hr hlocks hK hS dX10_lowestTerm_36 (()) (by rw [sp_X10_lowestTerm, if_neg c_9, if_pos c_23]) hP hD
    · refine lv_lload hx hb dX10_lowestTerm_26 (lv_at hl 0 rfl) ?_
      refine lv_lload hx hb dX10_lowestTerm_28 (lv_at hl 1 rfl) ?_
      refine lv_ldiv hx hb dX10_lowestTerm_30 (kd_lcl c_23) ?_
      refine lv_goto (tgt := 36) hx hb dX10_lowestTerm_31 (by decide) ?_
      exact kd_lret hx hb hr hlocks hK hS dX10_lowestTerm_36 (()) (by rw [sp_X10_lowestTerm, if_neg c_9, if_neg c_23]) hP hD
  · refine lv_lload_n hx hb dX10_lowestTerm_12 rfl (lv_at hl 1 rfl) ?_
    refine lv_goto (tgt := 17) hx hb dX10_lowestTerm_13 (by decide) ?_
    refine lv_lstore (lv' := [(7, .long a0), (5, .long (kd_cd 100 a0 a1)), (0, .long a0), (2, .long a1), (4, .int p0)]) hx hb dX10_lowestTerm_17 hl (by decide) rfl (fun ls hl => ?_)
    refine lv_lload hx hb dX10_lowestTerm_19 (lv_at hl 1 rfl) ?_
    refine lv_lconst (v := 0) hx hb dX10_lowestTerm_21 (by decide) ?_
    refine W.lcmp hx hb dX10_lowestTerm_22 ?_
    refine lv_if_le (tgt := 34) hx hb dX10_lowestTerm_23 (by decide) (fun c_23 => ?_) (fun c_23 => ?_)
    · refine lv_lload hx hb dX10_lowestTerm_34 (lv_at hl 0 rfl) ?_
      exact kd_lret hx hb hr hlocks hK hS dX10_lowestTerm_36 (()) (by rw [sp_X10_lowestTerm, if_pos c_9, if_pos c_23]) hP hD
    · refine lv_lload hx hb dX10_lowestTerm_26 (lv_at hl 0 rfl) ?_
      refine lv_lload hx hb dX10_lowestTerm_28 (lv_at hl 1 rfl) ?_
      refine lv_ldiv hx hb dX10_lowestTerm_30 (kd_lcl c_23) ?_
      refine lv_goto (tgt := 36) hx hb dX10_lowestTerm_31 (by decide) ?_
      exact kd_lret hx hb hr hlocks hK hS dX10_lowestTerm_36 (()) (by rw [sp_X10_lowestTerm, if_pos c_9, if_neg c_23]) hP hD
/-- what KingdomAtDice.waysBack answers and leaves, by its instructions -/
def sp_waysBack_0  : Int64 :=
  0
set_option maxHeartbeats 4000000 in
set_option maxRecDepth 100000 in
theorem c_waysBack_0 (l : Launch) (g : kd_G) (sz : Nat) (od : Nat) (ow : Nat) (wf : Nat → Int32) (wt : Int32) (k : Nat) (hk : k ≤ 6) : kd_ML l yX10_waysBack wsX10_waysBack ({ frames := 0, cells := 0, slots := 0, locals := 0 }) [.ref od, .int 0, .int (nI k)] g [(od, .inr (5, [.ref ow, .int wt])), (ow, .inl (g.2.1 0, 3, .inl wf))] sz (fun r (_ : Unit) => r = sp_waysBack_0) (fun _ => [(od, .inr (5, [.ref ow, .int wt])), (ow, .inl (g.2.1 0, 3, .inl wf))]) 0 0 := by
  refine kd_met (l := l) (y := yX10_waysBack) (ws := wsX10_waysBack) (rm := { frames := 0, cells := 0, slots := 0, locals := 0 }) (av := [.ref od, .int 0, .int (nI k)]) (g := g) (WS := [(od, .inr (5, [.ref ow, .int wt])), (ow, .inl (g.2.1 0, 3, .inl wf))]) (sz := sz) (mc := 0) (ms := 0) (cc := cX10_waysBack) (maxL := 3) (ret := (some .long)) (own := RX10) (fun A => va_Ql (fun r (_ : Unit) => r = sp_waysBack_0) (fun u t => kd_post g A [(od, .inr (5, [.ref ow, .int wt])), (ow, .inl (g.2.1 0, 3, .inl wf))] t) A) (by decide) rfl rfl (Nat.le_of_ble_eq_true rfl) ?_
  intro p e s m below meth c A ls hx hb hr hml hts hown hlocks hnm hA hP hK hD hS hE hl
  have hl : lv_has ls 3 [(0, .ref od), (1, .int 0), (2, .int (nI k))] := hl
  refine lv_iload_n hx hb dX10_waysBack_0 rfl (lv_at hl 1 rfl) ?_
  refine lv_iconst (v := 1) hx hb dX10_waysBack_1 (by decide) ?_
  refine lv_icmp_lt (tgt := 15) hx hb dX10_waysBack_2 (by decide) (fun _ => ?_) (fun z => absurd (by decide) z)
  refine lv_lconst (v := 0) hx hb dX10_waysBack_15 (by decide) ?_
  exact kd_lret hx hb hr hlocks hK hS dX10_waysBack_16 (()) (rfl) hP hD
/-- what KingdomAtDice.waysBack answers and leaves, by its instructions -/
def sp_waysBack_1 (wf : Nat → Int32) (wt : Int32) (k : Nat) : Int64 :=
  if 1 ≤ (nI k) then
    ((((sp_X5_waysTo wf 0).toInt64) * (kd_pw wt.toInt64 0)) + (((sp_X5_waysTo wf 1).toInt64) * sp_waysBack_0)) + (((sp_X5_waysTo wf 2).toInt64) * sp_waysBack_0)
  else
    0
set_option maxHeartbeats 4000000 in
set_option maxRecDepth 100000 in
theorem c_waysBack_1 (l : Launch) (g : kd_G) (sz : Nat) (od : Nat) (ow : Nat) (wf : Nat → Int32) (wt : Int32) (k : Nat) (hk : k ≤ 6) : kd_ML l yX10_waysBack wsX10_waysBack ({ frames := 2, cells := 0, slots := 0, locals := 42 }) [.ref od, .int 1, .int (nI k)] g [(od, .inr (5, [.ref ow, .int wt])), (ow, .inl (g.2.1 0, 3, .inl wf))] sz (fun r (_ : Unit) => r = sp_waysBack_1 wf wt k) (fun _ => [(od, .inr (5, [.ref ow, .int wt])), (ow, .inl (g.2.1 0, 3, .inl wf))]) 0 0 := by
  refine kd_met (l := l) (y := yX10_waysBack) (ws := wsX10_waysBack) (rm := { frames := 2, cells := 0, slots := 0, locals := 42 }) (av := [.ref od, .int 1, .int (nI k)]) (g := g) (WS := [(od, .inr (5, [.ref ow, .int wt])), (ow, .inl (g.2.1 0, 3, .inl wf))]) (sz := sz) (mc := 0) (ms := 0) (cc := cX10_waysBack) (maxL := 3) (ret := (some .long)) (own := RX10) (fun A => va_Ql (fun r (_ : Unit) => r = sp_waysBack_1 wf wt k) (fun u t => kd_post g A [(od, .inr (5, [.ref ow, .int wt])), (ow, .inl (g.2.1 0, 3, .inl wf))] t) A) (by decide) rfl rfl (Nat.le_of_ble_eq_true rfl) ?_
  intro p e s m below meth c A ls hx hb hr hml hts hown hlocks hnm hA hP hK hD hS hE hl
  have hl : lv_has ls 3 [(0, .ref od), (1, .int 1), (2, .int (nI k))] := hl
  have hiX5 : ∀ w ∈ u_ws RX5 TX5 2, w ∈ wsX10_waysBack := by decide +kernel
  refine lv_iload_n hx hb dX10_waysBack_0 rfl (lv_at hl 1 rfl) ?_
  refine lv_iconst (v := 1) hx hb dX10_waysBack_1 (by decide) ?_
  refine lv_icmp_lt (tgt := 15) hx hb dX10_waysBack_2 (by decide) (fun z => absurd z (by decide)) (fun _ => ?_)
  refine lv_iload_n hx hb dX10_waysBack_5 rfl (lv_at hl 1 rfl) ?_
  refine lv_iconst (v := 5) hx hb dX10_waysBack_6 (by decide) ?_
  refine lv_icmp_gt (tgt := 15) hx hb dX10_waysBack_7 (by decide) (fun z => absurd z (by decide)) (fun _ => ?_)
  refine lv_iload_n hx hb dX10_waysBack_10 rfl (lv_at hl 2 rfl) ?_
  refine lv_iconst (v := 1) hx hb dX10_waysBack_11 (by decide) ?_
  refine lv_icmp_ge (tgt := 17) hx hb dX10_waysBack_12 (by decide) (fun c_12 => ?_) (fun c_12 => ?_)
  · have n_12 : 1 ≤ k := kd_ce (a := 1) (b := k) (by omega) (by omega) c_12
    refine lv_aload_n hx hb dX10_waysBack_17 rfl (lv_at hl 0 rfl) ?_
    refine lv_iconst (v := 0) hx hb dX10_waysBack_18 (by decide) ?_
    refine kd_callIK (g := g) (wc := [(od, .inr (5, [.ref ow, .int wt])), (ow, .inl (g.2.1 0, 3, .inl wf))]) (va_runVN (mc := 0) (ms := 0) (rm := { frames := 1, cells := 0, slots := 0, locals := 21 }) (C := RX5) (host := "KingdomAtDice") (As := [.int 0]) (rest := []) ⟨hx, hb, hml, hown, hts⟩ (c_X5_waysTo l g s.heap.size od ow wf wt 0 ) ⟨va_cnB 1 hts gX10_waysBack_X5_waysTo_n164 rfl rfl rfl (kd_N hE 29 rfl) (hts (.initialized RX5) (by decide +kernel)) (by decide +kernel) ⟨Nat.le_of_ble_eq_true rfl, Nat.le_of_ble_eq_true rfl⟩, (hts (.instanceMethod yX5_waysTo) (by decide +kernel)), (hts (.selects RX5 yX5_waysTo yX5_waysTo) (by decide +kernel))⟩ (kd_preV (wc := [(od, .inr (5, [.ref ow, .int wt])), (ow, .inl (g.2.1 0, 3, .inl wf))]) (va_recv hK hP (ci := 5) (q0 := 0) rfl rfl) hP hD hS hA hK hE [0, 1] rfl (by decide)) rfl rfl hl.1 rfl (lv_room (Nat.le_of_ble_eq_true rfl)) dX10_waysBack_19 ⟨Nat.le_of_ble_eq_true rfl, Nat.le_of_ble_eq_true rfl⟩) hP hD hS hA [0, 1] rfl (fun r_19 _ H locs hw hP hS => ?_)
    subst hw
    refine lv_i2l hx hb dX10_waysBack_22 rfl ?_
    refine lv_aload_n hx hb dX10_waysBack_23 rfl (lv_at hl 0 rfl) ?_
    refine va_getN (ci := 5) (v := .int wt) (C := RX5) (T := TX5) (N := 2) hx hb hts hiX5 hown hK hP (0) rfl rfl 1 (by decide) (kd_Nb hE 48 rfl) (fun _ h9 => h9) rfl dX10_waysBack_24 ?_
    refine lv_i2l hx hb dX10_waysBack_27 rfl ?_
    refine lv_iload_n hx hb dX10_waysBack_28 rfl (lv_at hl 1 rfl) ?_
    refine lv_iconst (v := 1) hx hb dX10_waysBack_29 (by decide) ?_
    refine lv_isub hx hb dX10_waysBack_30 ?_
    refine kd_top (y := 0) (by decide) ?_
    refine kd_callLK (g := g) (wc := []) (va_runS (mc := 0) (ms := 0) (rm := { frames := 0, cells := 0, slots := 0, locals := 0 }) (As := [.long wt.toInt64, .int 0]) (rest := [.long ((sp_X5_waysTo wf 0).toInt64)]) ⟨hx, hb, hml, hown, hts⟩ (c_X10_power l g H.size wt.toInt64 0 (by omega)) (va_cwS 2 hts gX10_waysBack_X10_power rfl rfl rfl (by decide +kernel) ⟨Nat.le_of_ble_eq_true rfl, Nat.le_of_ble_eq_true rfl⟩) (kd_preS (wc := []) (av := [.long wt.toInt64, .int 0]) hP hD hS hA hK hE [] rfl (by decide)) rfl rfl hl.1 rfl (lv_room (Nat.le_of_ble_eq_true rfl)) dX10_waysBack_31 ⟨Nat.le_of_ble_eq_true rfl, Nat.le_of_ble_eq_true rfl⟩) hP hD hS hA [] rfl (fun r_31 _ H locs hw hP hS => ?_)
    subst hw
    refine lv_lmul hx hb dX10_waysBack_34 ?_
    refine lv_aload_n hx hb dX10_waysBack_35 rfl (lv_at hl 0 rfl) ?_
    refine lv_iconst (v := 1) hx hb dX10_waysBack_36 (by decide) ?_
    refine kd_callIK (g := g) (wc := [(od, .inr (5, [.ref ow, .int wt])), (ow, .inl (g.2.1 0, 3, .inl wf))]) (va_runVN (mc := 0) (ms := 0) (rm := { frames := 1, cells := 0, slots := 0, locals := 21 }) (C := RX5) (host := "KingdomAtDice") (As := [.int 1]) (rest := [.long (((sp_X5_waysTo wf 0).toInt64) * (kd_pw wt.toInt64 0))]) ⟨hx, hb, hml, hown, hts⟩ (c_X5_waysTo l g H.size od ow wf wt 1 ) ⟨va_cnB 1 hts gX10_waysBack_X5_waysTo_n164 rfl rfl rfl (kd_N hE 29 rfl) (hts (.initialized RX5) (by decide +kernel)) (by decide +kernel) ⟨Nat.le_of_ble_eq_true rfl, Nat.le_of_ble_eq_true rfl⟩, (hts (.instanceMethod yX5_waysTo) (by decide +kernel)), (hts (.selects RX5 yX5_waysTo yX5_waysTo) (by decide +kernel))⟩ (kd_preV (wc := [(od, .inr (5, [.ref ow, .int wt])), (ow, .inl (g.2.1 0, 3, .inl wf))]) (va_recv hK hP (ci := 5) (q0 := 0) rfl rfl) hP hD hS hA hK hE [0, 1] rfl (by decide)) rfl rfl hl.1 rfl (lv_room (Nat.le_of_ble_eq_true rfl)) dX10_waysBack_37 ⟨Nat.le_of_ble_eq_true rfl, Nat.le_of_ble_eq_true rfl⟩) hP hD hS hA [0, 1] rfl (fun r_37 _ H locs hw hP hS => ?_)
    subst hw
    refine lv_i2l hx hb dX10_waysBack_40 rfl ?_
    refine lv_aload_n hx hb dX10_waysBack_41 rfl (lv_at hl 0 rfl) ?_
    refine lv_iload_n hx hb dX10_waysBack_42 rfl (lv_at hl 1 rfl) ?_
    refine lv_iconst (v := 1) hx hb dX10_waysBack_43 (by decide) ?_
    refine lv_isub hx hb dX10_waysBack_44 ?_
    refine kd_top (y := 0) (by decide) ?_
    refine lv_iload_n hx hb dX10_waysBack_45 rfl (lv_at hl 2 rfl) ?_
    refine lv_iconst (v := 1) hx hb dX10_waysBack_46 (by decide) ?_
    refine lv_isub hx hb dX10_waysBack_47 ?_
    refine kd_top (y := nI (k - 1)) (pk_sub (a := k) (b := 1) (by omega)) ?_
    refine kd_callLK (g := g) (wc := [(od, .inr (5, [.ref ow, .int wt])), (ow, .inl (g.2.1 0, 3, .inl wf))]) (va_runS (mc := 0) (ms := 0) (rm := { frames := 0, cells := 0, slots := 0, locals := 0 }) (As := [.ref od, .int 0, .int (nI (k - 1))]) (rest := [.long ((sp_X5_waysTo wf 1).toInt64), .long (((sp_X5_waysTo wf 0).toInt64) * (kd_pw wt.toInt64 0))]) ⟨hx, hb, hml, hown, hts⟩ (c_waysBack_0 l g H.size od ow wf wt (k - 1) (by omega)) (va_cwS 3 hts gX10_waysBack_X10_waysBack rfl rfl rfl (by decide +kernel) ⟨Nat.le_of_ble_eq_true rfl, Nat.le_of_ble_eq_true rfl⟩) (kd_preS (wc := [(od, .inr (5, [.ref ow, .int wt])), (ow, .inl (g.2.1 0, 3, .inl wf))]) (av := [.ref od, .int 0, .int (nI (k - 1))]) hP hD hS hA hK hE [0, 1] rfl (by decide)) rfl rfl hl.1 rfl (lv_room (Nat.le_of_ble_eq_true rfl)) dX10_waysBack_48 ⟨Nat.le_of_ble_eq_true rfl, Nat.le_of_ble_eq_true rfl⟩) hP hD hS hA [0, 1] rfl (fun r_48 _ H locs hw hP hS => ?_)
    subst hw
    refine lv_lmul hx hb dX10_waysBack_51 ?_
    refine lv_ladd hx hb dX10_waysBack_52 ?_
    refine lv_aload_n hx hb dX10_waysBack_53 rfl (lv_at hl 0 rfl) ?_
    refine lv_iconst (v := 2) hx hb dX10_waysBack_54 (by decide) ?_
    refine kd_callIK (g := g) (wc := [(od, .inr (5, [.ref ow, .int wt])), (ow, .inl (g.2.1 0, 3, .inl wf))]) (va_runVN (mc := 0) (ms := 0) (rm := { frames := 1, cells := 0, slots := 0, locals := 21 }) (C := RX5) (host := "KingdomAtDice") (As := [.int 2]) (rest := [.long ((((sp_X5_waysTo wf 0).toInt64) * (kd_pw wt.toInt64 0)) + (((sp_X5_waysTo wf 1).toInt64) * sp_waysBack_0))]) ⟨hx, hb, hml, hown, hts⟩ (c_X5_waysTo l g H.size od ow wf wt 2 ) ⟨va_cnB 1 hts gX10_waysBack_X5_waysTo_n164 rfl rfl rfl (kd_N hE 29 rfl) (hts (.initialized RX5) (by decide +kernel)) (by decide +kernel) ⟨Nat.le_of_ble_eq_true rfl, Nat.le_of_ble_eq_true rfl⟩, (hts (.instanceMethod yX5_waysTo) (by decide +kernel)), (hts (.selects RX5 yX5_waysTo yX5_waysTo) (by decide +kernel))⟩ (kd_preV (wc := [(od, .inr (5, [.ref ow, .int wt])), (ow, .inl (g.2.1 0, 3, .inl wf))]) (va_recv hK hP (ci := 5) (q0 := 0) rfl rfl) hP hD hS hA hK hE [0, 1] rfl (by decide)) rfl rfl hl.1 rfl (lv_room (Nat.le_of_ble_eq_true rfl)) dX10_waysBack_55 ⟨Nat.le_of_ble_eq_true rfl, Nat.le_of_ble_eq_true rfl⟩) hP hD hS hA [0, 1] rfl (fun r_55 _ H locs hw hP hS => ?_)
    subst hw
    refine lv_i2l hx hb dX10_waysBack_58 rfl ?_
    refine lv_aload_n hx hb dX10_waysBack_59 rfl (lv_at hl 0 rfl) ?_
    refine lv_iload_n hx hb dX10_waysBack_60 rfl (lv_at hl 1 rfl) ?_
    refine lv_iconst (v := 1) hx hb dX10_waysBack_61 (by decide) ?_
    refine lv_isub hx hb dX10_waysBack_62 ?_
    refine kd_top (y := 0) (by decide) ?_
    refine lv_iload_n hx hb dX10_waysBack_63 rfl (lv_at hl 2 rfl) ?_
    refine kd_callLK (g := g) (wc := [(od, .inr (5, [.ref ow, .int wt])), (ow, .inl (g.2.1 0, 3, .inl wf))]) (va_runS (mc := 0) (ms := 0) (rm := { frames := 0, cells := 0, slots := 0, locals := 0 }) (As := [.ref od, .int 0, .int (nI k)]) (rest := [.long ((sp_X5_waysTo wf 2).toInt64), .long ((((sp_X5_waysTo wf 0).toInt64) * (kd_pw wt.toInt64 0)) + (((sp_X5_waysTo wf 1).toInt64) * sp_waysBack_0))]) ⟨hx, hb, hml, hown, hts⟩ (c_waysBack_0 l g H.size od ow wf wt k hk) (va_cwS 3 hts gX10_waysBack_X10_waysBack rfl rfl rfl (by decide +kernel) ⟨Nat.le_of_ble_eq_true rfl, Nat.le_of_ble_eq_true rfl⟩) (kd_preS (wc := [(od, .inr (5, [.ref ow, .int wt])), (ow, .inl (g.2.1 0, 3, .inl wf))]) (av := [.ref od, .int 0, .int (nI k)]) hP hD hS hA hK hE [0, 1] rfl (by decide)) rfl rfl hl.1 rfl (lv_room (Nat.le_of_ble_eq_true rfl)) dX10_waysBack_64 ⟨Nat.le_of_ble_eq_true rfl, Nat.le_of_ble_eq_true rfl⟩) hP hD hS hA [0, 1] rfl (fun r_64 _ H locs hw hP hS => ?_)
    subst hw
    refine lv_lmul hx hb dX10_waysBack_67 ?_
    refine lv_ladd hx hb dX10_waysBack_68 ?_
    exact kd_lret hx hb hr hlocks hK hS dX10_waysBack_69 (()) (by rw [sp_waysBack_1, if_pos c_12]) hP hD
  · have n_12 : k < 1 := kd_cne (a := 1) (b := k) (by omega) (by omega) c_12
    refine lv_lconst (v := 0) hx hb dX10_waysBack_15 (by decide) ?_
    exact kd_lret hx hb hr hlocks hK hS dX10_waysBack_16 (()) (by rw [sp_waysBack_1, if_neg c_12]) hP hD
/-- what KingdomAtDice.waysBack answers and leaves, by its instructions -/
def sp_waysBack_2 (wf : Nat → Int32) (wt : Int32) (k : Nat) : Int64 :=
  if 1 ≤ (nI k) then
    ((((sp_X5_waysTo wf 0).toInt64) * (kd_pw wt.toInt64 1)) + (((sp_X5_waysTo wf 1).toInt64) * (sp_waysBack_1 wf wt (k - 1)))) + (((sp_X5_waysTo wf 2).toInt64) * (sp_waysBack_1 wf wt k))
  else
    0
set_option maxHeartbeats 4000000 in
set_option maxRecDepth 100000 in
theorem c_waysBack_2 (l : Launch) (g : kd_G) (sz : Nat) (od : Nat) (ow : Nat) (wf : Nat → Int32) (wt : Int32) (k : Nat) (hk : k ≤ 6) : kd_ML l yX10_waysBack wsX10_waysBack ({ frames := 3, cells := 0, slots := 0, locals := 64 }) [.ref od, .int 2, .int (nI k)] g [(od, .inr (5, [.ref ow, .int wt])), (ow, .inl (g.2.1 0, 3, .inl wf))] sz (fun r (_ : Unit) => r = sp_waysBack_2 wf wt k) (fun _ => [(od, .inr (5, [.ref ow, .int wt])), (ow, .inl (g.2.1 0, 3, .inl wf))]) 0 0 := by
  refine kd_met (l := l) (y := yX10_waysBack) (ws := wsX10_waysBack) (rm := { frames := 3, cells := 0, slots := 0, locals := 64 }) (av := [.ref od, .int 2, .int (nI k)]) (g := g) (WS := [(od, .inr (5, [.ref ow, .int wt])), (ow, .inl (g.2.1 0, 3, .inl wf))]) (sz := sz) (mc := 0) (ms := 0) (cc := cX10_waysBack) (maxL := 3) (ret := (some .long)) (own := RX10) (fun A => va_Ql (fun r (_ : Unit) => r = sp_waysBack_2 wf wt k) (fun u t => kd_post g A [(od, .inr (5, [.ref ow, .int wt])), (ow, .inl (g.2.1 0, 3, .inl wf))] t) A) (by decide) rfl rfl (Nat.le_of_ble_eq_true rfl) ?_
  intro p e s m below meth c A ls hx hb hr hml hts hown hlocks hnm hA hP hK hD hS hE hl
  have hl : lv_has ls 3 [(0, .ref od), (1, .int 2), (2, .int (nI k))] := hl
  have hiX5 : ∀ w ∈ u_ws RX5 TX5 2, w ∈ wsX10_waysBack := by decide +kernel
  refine lv_iload_n hx hb dX10_waysBack_0 rfl (lv_at hl 1 rfl) ?_
  refine lv_iconst (v := 1) hx hb dX10_waysBack_1 (by decide) ?_
  refine lv_icmp_lt (tgt := 15) hx hb dX10_waysBack_2 (by decide) (fun z => absurd z (by decide)) (fun _ => ?_)
  refine lv_iload_n hx hb dX10_waysBack_5 rfl (lv_at hl 1 rfl) ?_
  refine lv_iconst (v := 5) hx hb dX10_waysBack_6 (by decide) ?_
  refine lv_icmp_gt (tgt := 15) hx hb dX10_waysBack_7 (by decide) (fun z => absurd z (by decide)) (fun _ => ?_)
  refine lv_iload_n hx hb dX10_waysBack_10 rfl (lv_at hl 2 rfl) ?_
  refine lv_iconst (v := 1) hx hb dX10_waysBack_11 (by decide) ?_
  refine lv_icmp_ge (tgt := 17) hx hb dX10_waysBack_12 (by decide) (fun c_12 => ?_) (fun c_12 => ?_)
  · have n_12 : 1 ≤ k := kd_ce (a := 1) (b := k) (by omega) (by omega) c_12
    refine lv_aload_n hx hb dX10_waysBack_17 rfl (lv_at hl 0 rfl) ?_
    refine lv_iconst (v := 0) hx hb dX10_waysBack_18 (by decide) ?_
    refine kd_callIK (g := g) (wc := [(od, .inr (5, [.ref ow, .int wt])), (ow, .inl (g.2.1 0, 3, .inl wf))]) (va_runVN (mc := 0) (ms := 0) (rm := { frames := 1, cells := 0, slots := 0, locals := 21 }) (C := RX5) (host := "KingdomAtDice") (As := [.int 0]) (rest := []) ⟨hx, hb, hml, hown, hts⟩ (c_X5_waysTo l g s.heap.size od ow wf wt 0 ) ⟨va_cnB 1 hts gX10_waysBack_X5_waysTo_n164 rfl rfl rfl (kd_N hE 29 rfl) (hts (.initialized RX5) (by decide +kernel)) (by decide +kernel) ⟨Nat.le_of_ble_eq_true rfl, Nat.le_of_ble_eq_true rfl⟩, (hts (.instanceMethod yX5_waysTo) (by decide +kernel)), (hts (.selects RX5 yX5_waysTo yX5_waysTo) (by decide +kernel))⟩ (kd_preV (wc := [(od, .inr (5, [.ref ow, .int wt])), (ow, .inl (g.2.1 0, 3, .inl wf))]) (va_recv hK hP (ci := 5) (q0 := 0) rfl rfl) hP hD hS hA hK hE [0, 1] rfl (by decide)) rfl rfl hl.1 rfl (lv_room (Nat.le_of_ble_eq_true rfl)) dX10_waysBack_19 ⟨Nat.le_of_ble_eq_true rfl, Nat.le_of_ble_eq_true rfl⟩) hP hD hS hA [0, 1] rfl (fun r_19 _ H locs hw hP hS => ?_)
    subst hw
    refine lv_i2l hx hb dX10_waysBack_22 rfl ?_
    refine lv_aload_n hx hb dX10_waysBack_23 rfl (lv_at hl 0 rfl) ?_
    refine va_getN (ci := 5) (v := .int wt) (C := RX5) (T := TX5) (N := 2) hx hb hts hiX5 hown hK hP (0) rfl rfl 1 (by decide) (kd_Nb hE 48 rfl) (fun _ h9 => h9) rfl dX10_waysBack_24 ?_
    refine lv_i2l hx hb dX10_waysBack_27 rfl ?_
    refine lv_iload_n hx hb dX10_waysBack_28 rfl (lv_at hl 1 rfl) ?_
    refine lv_iconst (v := 1) hx hb dX10_waysBack_29 (by decide) ?_
    refine lv_isub hx hb dX10_waysBack_30 ?_
    refine kd_top (y := 1) (by decide) ?_
    refine kd_callLK (g := g) (wc := []) (va_runS (mc := 0) (ms := 0) (rm := { frames := 0, cells := 0, slots := 0, locals := 0 }) (As := [.long wt.toInt64, .int 1]) (rest := [.long ((sp_X5_waysTo wf 0).toInt64)]) ⟨hx, hb, hml, hown, hts⟩ (c_X10_power l g H.size wt.toInt64 1 (by omega)) (va_cwS 2 hts gX10_waysBack_X10_power rfl rfl rfl (by decide +kernel) ⟨Nat.le_of_ble_eq_true rfl, Nat.le_of_ble_eq_true rfl⟩) (kd_preS (wc := []) (av := [.long wt.toInt64, .int 1]) hP hD hS hA hK hE [] rfl (by decide)) rfl rfl hl.1 rfl (lv_room (Nat.le_of_ble_eq_true rfl)) dX10_waysBack_31 ⟨Nat.le_of_ble_eq_true rfl, Nat.le_of_ble_eq_true rfl⟩) hP hD hS hA [] rfl (fun r_31 _ H locs hw hP hS => ?_)
    subst hw
    refine lv_lmul hx hb dX10_waysBack_34 ?_
    refine lv_aload_n hx hb dX10_waysBack_35 rfl (lv_at hl 0 rfl) ?_
    refine lv_iconst (v := 1) hx hb dX10_waysBack_36 (by decide) ?_
    refine kd_callIK (g := g) (wc := [(od, .inr (5, [.ref ow, .int wt])), (ow, .inl (g.2.1 0, 3, .inl wf))]) (va_runVN (mc := 0) (ms := 0) (rm := { frames := 1, cells := 0, slots := 0, locals := 21 }) (C := RX5) (host := "KingdomAtDice") (As := [.int 1]) (rest := [.long (((sp_X5_waysTo wf 0).toInt64) * (kd_pw wt.toInt64 1))]) ⟨hx, hb, hml, hown, hts⟩ (c_X5_waysTo l g H.size od ow wf wt 1 ) ⟨va_cnB 1 hts gX10_waysBack_X5_waysTo_n164 rfl rfl rfl (kd_N hE 29 rfl) (hts (.initialized RX5) (by decide +kernel)) (by decide +kernel) ⟨Nat.le_of_ble_eq_true rfl, Nat.le_of_ble_eq_true rfl⟩, (hts (.instanceMethod yX5_waysTo) (by decide +kernel)), (hts (.selects RX5 yX5_waysTo yX5_waysTo) (by decide +kernel))⟩ (kd_preV (wc := [(od, .inr (5, [.ref ow, .int wt])), (ow, .inl (g.2.1 0, 3, .inl wf))]) (va_recv hK hP (ci := 5) (q0 := 0) rfl rfl) hP hD hS hA hK hE [0, 1] rfl (by decide)) rfl rfl hl.1 rfl (lv_room (Nat.le_of_ble_eq_true rfl)) dX10_waysBack_37 ⟨Nat.le_of_ble_eq_true rfl, Nat.le_of_ble_eq_true rfl⟩) hP hD hS hA [0, 1] rfl (fun r_37 _ H locs hw hP hS => ?_)
    subst hw
    refine lv_i2l hx hb dX10_waysBack_40 rfl ?_
    refine lv_aload_n hx hb dX10_waysBack_41 rfl (lv_at hl 0 rfl) ?_
    refine lv_iload_n hx hb dX10_waysBack_42 rfl (lv_at hl 1 rfl) ?_
    refine lv_iconst (v := 1) hx hb dX10_waysBack_43 (by decide) ?_
    refine lv_isub hx hb dX10_waysBack_44 ?_
    refine kd_top (y := 1) (by decide) ?_
    refine lv_iload_n hx hb dX10_waysBack_45 rfl (lv_at hl 2 rfl) ?_
    refine lv_iconst (v := 1) hx hb dX10_waysBack_46 (by decide) ?_
    refine lv_isub hx hb dX10_waysBack_47 ?_
    refine kd_top (y := nI (k - 1)) (pk_sub (a := k) (b := 1) (by omega)) ?_
    refine kd_callLK (g := g) (wc := [(od, .inr (5, [.ref ow, .int wt])), (ow, .inl (g.2.1 0, 3, .inl wf))]) (va_runS (mc := 0) (ms := 0) (rm := { frames := 2, cells := 0, slots := 0, locals := 42 }) (As := [.ref od, .int 1, .int (nI (k - 1))]) (rest := [.long ((sp_X5_waysTo wf 1).toInt64), .long (((sp_X5_waysTo wf 0).toInt64) * (kd_pw wt.toInt64 1))]) ⟨hx, hb, hml, hown, hts⟩ (c_waysBack_1 l g H.size od ow wf wt (k - 1) (by omega)) (va_cwS 3 hts gX10_waysBack_X10_waysBack rfl rfl rfl (by decide +kernel) ⟨Nat.le_of_ble_eq_true rfl, Nat.le_of_ble_eq_true rfl⟩) (kd_preS (wc := [(od, .inr (5, [.ref ow, .int wt])), (ow, .inl (g.2.1 0, 3, .inl wf))]) (av := [.ref od, .int 1, .int (nI (k - 1))]) hP hD hS hA hK hE [0, 1] rfl (by decide)) rfl rfl hl.1 rfl (lv_room (Nat.le_of_ble_eq_true rfl)) dX10_waysBack_48 ⟨Nat.le_of_ble_eq_true rfl, Nat.le_of_ble_eq_true rfl⟩) hP hD hS hA [0, 1] rfl (fun r_48 _ H locs hw hP hS => ?_)
    subst hw
    refine lv_lmul hx hb dX10_waysBack_51 ?_
    refine lv_ladd hx hb dX10_waysBack_52 ?_
    refine lv_aload_n hx hb dX10_waysBack_53 rfl (lv_at hl 0 rfl) ?_
    refine lv_iconst (v := 2) hx hb dX10_waysBack_54 (by decide) ?_
    refine kd_callIK (g := g) (wc := [(od, .inr (5, [.ref ow, .int wt])), (ow, .inl (g.2.1 0, 3, .inl wf))]) (va_runVN (mc := 0) (ms := 0) (rm := { frames := 1, cells := 0, slots := 0, locals := 21 }) (C := RX5) (host := "KingdomAtDice") (As := [.int 2]) (rest := [.long ((((sp_X5_waysTo wf 0).toInt64) * (kd_pw wt.toInt64 1)) + (((sp_X5_waysTo wf 1).toInt64) * (sp_waysBack_1 wf wt (k - 1))))]) ⟨hx, hb, hml, hown, hts⟩ (c_X5_waysTo l g H.size od ow wf wt 2 ) ⟨va_cnB 1 hts gX10_waysBack_X5_waysTo_n164 rfl rfl rfl (kd_N hE 29 rfl) (hts (.initialized RX5) (by decide +kernel)) (by decide +kernel) ⟨Nat.le_of_ble_eq_true rfl, Nat.le_of_ble_eq_true rfl⟩, (hts (.instanceMethod yX5_waysTo) (by decide +kernel)), (hts (.selects RX5 yX5_waysTo yX5_waysTo) (by decide +kernel))⟩ (kd_preV (wc := [(od, .inr (5, [.ref ow, .int wt])), (ow, .inl (g.2.1 0, 3, .inl wf))]) (va_recv hK hP (ci := 5) (q0 := 0) rfl rfl) hP hD hS hA hK hE [0, 1] rfl (by decide)) rfl rfl hl.1 rfl (lv_room (Nat.le_of_ble_eq_true rfl)) dX10_waysBack_55 ⟨Nat.le_of_ble_eq_true rfl, Nat.le_of_ble_eq_true rfl⟩) hP hD hS hA [0, 1] rfl (fun r_55 _ H locs hw hP hS => ?_)
    subst hw
    refine lv_i2l hx hb dX10_waysBack_58 rfl ?_
    refine lv_aload_n hx hb dX10_waysBack_59 rfl (lv_at hl 0 rfl) ?_
    refine lv_iload_n hx hb dX10_waysBack_60 rfl (lv_at hl 1 rfl) ?_
    refine lv_iconst (v := 1) hx hb dX10_waysBack_61 (by decide) ?_
    refine lv_isub hx hb dX10_waysBack_62 ?_
    refine kd_top (y := 1) (by decide) ?_
    refine lv_iload_n hx hb dX10_waysBack_63 rfl (lv_at hl 2 rfl) ?_
    refine kd_callLK (g := g) (wc := [(od, .inr (5, [.ref ow, .int wt])), (ow, .inl (g.2.1 0, 3, .inl wf))]) (va_runS (mc := 0) (ms := 0) (rm := { frames := 2, cells := 0, slots := 0, locals := 42 }) (As := [.ref od, .int 1, .int (nI k)]) (rest := [.long ((sp_X5_waysTo wf 2).toInt64), .long ((((sp_X5_waysTo wf 0).toInt64) * (kd_pw wt.toInt64 1)) + (((sp_X5_waysTo wf 1).toInt64) * (sp_waysBack_1 wf wt (k - 1))))]) ⟨hx, hb, hml, hown, hts⟩ (c_waysBack_1 l g H.size od ow wf wt k hk) (va_cwS 3 hts gX10_waysBack_X10_waysBack rfl rfl rfl (by decide +kernel) ⟨Nat.le_of_ble_eq_true rfl, Nat.le_of_ble_eq_true rfl⟩) (kd_preS (wc := [(od, .inr (5, [.ref ow, .int wt])), (ow, .inl (g.2.1 0, 3, .inl wf))]) (av := [.ref od, .int 1, .int (nI k)]) hP hD hS hA hK hE [0, 1] rfl (by decide)) rfl rfl hl.1 rfl (lv_room (Nat.le_of_ble_eq_true rfl)) dX10_waysBack_64 ⟨Nat.le_of_ble_eq_true rfl, Nat.le_of_ble_eq_true rfl⟩) hP hD hS hA [0, 1] rfl (fun r_64 _ H locs hw hP hS => ?_)
    subst hw
    refine lv_lmul hx hb dX10_waysBack_67 ?_
    refine lv_ladd hx hb dX10_waysBack_68 ?_
    exact kd_lret hx hb hr hlocks hK hS dX10_waysBack_69 (()) (by rw [sp_waysBack_2, if_pos c_12]) hP hD
  · have n_12 : k < 1 := kd_cne (a := 1) (b := k) (by omega) (by omega) c_12
    refine lv_lconst (v := 0) hx hb dX10_waysBack_15 (by decide) ?_
    exact kd_lret hx hb hr hlocks hK hS dX10_waysBack_16 (()) (by rw [sp_waysBack_2, if_neg c_12]) hP hD
/-- what KingdomAtDice.waysBack answers and leaves, by its instructions -/
def sp_waysBack_3 (wf : Nat → Int32) (wt : Int32) (k : Nat) : Int64 :=
  if 1 ≤ (nI k) then
    ((((sp_X5_waysTo wf 0).toInt64) * (kd_pw wt.toInt64 2)) + (((sp_X5_waysTo wf 1).toInt64) * (sp_waysBack_2 wf wt (k - 1)))) + (((sp_X5_waysTo wf 2).toInt64) * (sp_waysBack_2 wf wt k))
  else
    0
set_option maxHeartbeats 4000000 in
set_option maxRecDepth 100000 in
theorem c_waysBack_3 (l : Launch) (g : kd_G) (sz : Nat) (od : Nat) (ow : Nat) (wf : Nat → Int32) (wt : Int32) (k : Nat) (hk : k ≤ 6) : kd_ML l yX10_waysBack wsX10_waysBack ({ frames := 4, cells := 0, slots := 0, locals := 86 }) [.ref od, .int 3, .int (nI k)] g [(od, .inr (5, [.ref ow, .int wt])), (ow, .inl (g.2.1 0, 3, .inl wf))] sz (fun r (_ : Unit) => r = sp_waysBack_3 wf wt k) (fun _ => [(od, .inr (5, [.ref ow, .int wt])), (ow, .inl (g.2.1 0, 3, .inl wf))]) 0 0 := by
  refine kd_met (l := l) (y := yX10_waysBack) (ws := wsX10_waysBack) (rm := { frames := 4, cells := 0, slots := 0, locals := 86 }) (av := [.ref od, .int 3, .int (nI k)]) (g := g) (WS := [(od, .inr (5, [.ref ow, .int wt])), (ow, .inl (g.2.1 0, 3, .inl wf))]) (sz := sz) (mc := 0) (ms := 0) (cc := cX10_waysBack) (maxL := 3) (ret := (some .long)) (own := RX10) (fun A => va_Ql (fun r (_ : Unit) => r = sp_waysBack_3 wf wt k) (fun u t => kd_post g A [(od, .inr (5, [.ref ow, .int wt])), (ow, .inl (g.2.1 0, 3, .inl wf))] t) A) (by decide) rfl rfl (Nat.le_of_ble_eq_true rfl) ?_
  intro p e s m below meth c A ls hx hb hr hml hts hown hlocks hnm hA hP hK hD hS hE hl
  have hl : lv_has ls 3 [(0, .ref od), (1, .int 3), (2, .int (nI k))] := hl
  have hiX5 : ∀ w ∈ u_ws RX5 TX5 2, w ∈ wsX10_waysBack := by decide +kernel
  refine lv_iload_n hx hb dX10_waysBack_0 rfl (lv_at hl 1 rfl) ?_
  refine lv_iconst (v := 1) hx hb dX10_waysBack_1 (by decide) ?_
  refine lv_icmp_lt (tgt := 15) hx hb dX10_waysBack_2 (by decide) (fun z => absurd z (by decide)) (fun _ => ?_)
  refine lv_iload_n hx hb dX10_waysBack_5 rfl (lv_at hl 1 rfl) ?_
  refine lv_iconst (v := 5) hx hb dX10_waysBack_6 (by decide) ?_
  refine lv_icmp_gt (tgt := 15) hx hb dX10_waysBack_7 (by decide) (fun z => absurd z (by decide)) (fun _ => ?_)
  refine lv_iload_n hx hb dX10_waysBack_10 rfl (lv_at hl 2 rfl) ?_
  refine lv_iconst (v := 1) hx hb dX10_waysBack_11 (by decide) ?_
  refine lv_icmp_ge (tgt := 17) hx hb dX10_waysBack_12 (by decide) (fun c_12 => ?_) (fun c_12 => ?_)
  · have n_12 : 1 ≤ k := kd_ce (a := 1) (b := k) (by omega) (by omega) c_12
    refine lv_aload_n hx hb dX10_waysBack_17 rfl (lv_at hl 0 rfl) ?_
    refine lv_iconst (v := 0) hx hb dX10_waysBack_18 (by decide) ?_
    refine kd_callIK (g := g) (wc := [(od, .inr (5, [.ref ow, .int wt])), (ow, .inl (g.2.1 0, 3, .inl wf))]) (va_runVN (mc := 0) (ms := 0) (rm := { frames := 1, cells := 0, slots := 0, locals := 21 }) (C := RX5) (host := "KingdomAtDice") (As := [.int 0]) (rest := []) ⟨hx, hb, hml, hown, hts⟩ (c_X5_waysTo l g s.heap.size od ow wf wt 0 ) ⟨va_cnB 1 hts gX10_waysBack_X5_waysTo_n164 rfl rfl rfl (kd_N hE 29 rfl) (hts (.initialized RX5) (by decide +kernel)) (by decide +kernel) ⟨Nat.le_of_ble_eq_true rfl, Nat.le_of_ble_eq_true rfl⟩, (hts (.instanceMethod yX5_waysTo) (by decide +kernel)), (hts (.selects RX5 yX5_waysTo yX5_waysTo) (by decide +kernel))⟩ (kd_preV (wc := [(od, .inr (5, [.ref ow, .int wt])), (ow, .inl (g.2.1 0, 3, .inl wf))]) (va_recv hK hP (ci := 5) (q0 := 0) rfl rfl) hP hD hS hA hK hE [0, 1] rfl (by decide)) rfl rfl hl.1 rfl (lv_room (Nat.le_of_ble_eq_true rfl)) dX10_waysBack_19 ⟨Nat.le_of_ble_eq_true rfl, Nat.le_of_ble_eq_true rfl⟩) hP hD hS hA [0, 1] rfl (fun r_19 _ H locs hw hP hS => ?_)
    subst hw
    refine lv_i2l hx hb dX10_waysBack_22 rfl ?_
    refine lv_aload_n hx hb dX10_waysBack_23 rfl (lv_at hl 0 rfl) ?_
    refine va_getN (ci := 5) (v := .int wt) (C := RX5) (T := TX5) (N := 2) hx hb hts hiX5 hown hK hP (0) rfl rfl 1 (by decide) (kd_Nb hE 48 rfl) (fun _ h9 => h9) rfl dX10_waysBack_24 ?_
    refine lv_i2l hx hb dX10_waysBack_27 rfl ?_
    refine lv_iload_n hx hb dX10_waysBack_28 rfl (lv_at hl 1 rfl) ?_
    refine lv_iconst (v := 1) hx hb dX10_waysBack_29 (by decide) ?_
    refine lv_isub hx hb dX10_waysBack_30 ?_
    refine kd_top (y := 2) (by decide) ?_
    refine kd_callLK (g := g) (wc := []) (va_runS (mc := 0) (ms := 0) (rm := { frames := 0, cells := 0, slots := 0, locals := 0 }) (As := [.long wt.toInt64, .int 2]) (rest := [.long ((sp_X5_waysTo wf 0).toInt64)]) ⟨hx, hb, hml, hown, hts⟩ (c_X10_power l g H.size wt.toInt64 2 (by omega)) (va_cwS 2 hts gX10_waysBack_X10_power rfl rfl rfl (by decide +kernel) ⟨Nat.le_of_ble_eq_true rfl, Nat.le_of_ble_eq_true rfl⟩) (kd_preS (wc := []) (av := [.long wt.toInt64, .int 2]) hP hD hS hA hK hE [] rfl (by decide)) rfl rfl hl.1 rfl (lv_room (Nat.le_of_ble_eq_true rfl)) dX10_waysBack_31 ⟨Nat.le_of_ble_eq_true rfl, Nat.le_of_ble_eq_true rfl⟩) hP hD hS hA [] rfl (fun r_31 _ H locs hw hP hS => ?_)
    subst hw
    refine lv_lmul hx hb dX10_waysBack_34 ?_
    refine lv_aload_n hx hb dX10_waysBack_35 rfl (lv_at hl 0 rfl) ?_
    refine lv_iconst (v := 1) hx hb dX10_waysBack_36 (by decide) ?_
    refine kd_callIK (g := g) (wc := [(od, .inr (5, [.ref ow, .int wt])), (ow, .inl (g.2.1 0, 3, .inl wf))]) (va_runVN (mc := 0) (ms := 0) (rm := { frames := 1, cells := 0, slots := 0, locals := 21 }) (C := RX5) (host := "KingdomAtDice") (As := [.int 1]) (rest := [.long (((sp_X5_waysTo wf 0).toInt64) * (kd_pw wt.toInt64 2))]) ⟨hx, hb, hml, hown, hts⟩ (c_X5_waysTo l g H.size od ow wf wt 1 ) ⟨va_cnB 1 hts gX10_waysBack_X5_waysTo_n164 rfl rfl rfl (kd_N hE 29 rfl) (hts (.initialized RX5) (by decide +kernel)) (by decide +kernel) ⟨Nat.le_of_ble_eq_true rfl, Nat.le_of_ble_eq_true rfl⟩, (hts (.instanceMethod yX5_waysTo) (by decide +kernel)), (hts (.selects RX5 yX5_waysTo yX5_waysTo) (by decide +kernel))⟩ (kd_preV (wc := [(od, .inr (5, [.ref ow, .int wt])), (ow, .inl (g.2.1 0, 3, .inl wf))]) (va_recv hK hP (ci := 5) (q0 := 0) rfl rfl) hP hD hS hA hK hE [0, 1] rfl (by decide)) rfl rfl hl.1 rfl (lv_room (Nat.le_of_ble_eq_true rfl)) dX10_waysBack_37 ⟨Nat.le_of_ble_eq_true rfl, Nat.le_of_ble_eq_true rfl⟩) hP hD hS hA [0, 1] rfl (fun r_37 _ H locs hw hP hS => ?_)
    subst hw
    refine lv_i2l hx hb dX10_waysBack_40 rfl ?_
    refine lv_aload_n hx hb dX10_waysBack_41 rfl (lv_at hl 0 rfl) ?_
    refine lv_iload_n hx hb dX10_waysBack_42 rfl (lv_at hl 1 rfl) ?_
    refine lv_iconst (v := 1) hx hb dX10_waysBack_43 (by decide) ?_
    refine lv_isub hx hb dX10_waysBack_44 ?_
    refine kd_top (y := 2) (by decide) ?_
    refine lv_iload_n hx hb dX10_waysBack_45 rfl (lv_at hl 2 rfl) ?_
    refine lv_iconst (v := 1) hx hb dX10_waysBack_46 (by decide) ?_
    refine lv_isub hx hb dX10_waysBack_47 ?_
    refine kd_top (y := nI (k - 1)) (pk_sub (a := k) (b := 1) (by omega)) ?_
    refine kd_callLK (g := g) (wc := [(od, .inr (5, [.ref ow, .int wt])), (ow, .inl (g.2.1 0, 3, .inl wf))]) (va_runS (mc := 0) (ms := 0) (rm := { frames := 3, cells := 0, slots := 0, locals := 64 }) (As := [.ref od, .int 2, .int (nI (k - 1))]) (rest := [.long ((sp_X5_waysTo wf 1).toInt64), .long (((sp_X5_waysTo wf 0).toInt64) * (kd_pw wt.toInt64 2))]) ⟨hx, hb, hml, hown, hts⟩ (c_waysBack_2 l g H.size od ow wf wt (k - 1) (by omega)) (va_cwS 3 hts gX10_waysBack_X10_waysBack rfl rfl rfl (by decide +kernel) ⟨Nat.le_of_ble_eq_true rfl, Nat.le_of_ble_eq_true rfl⟩) (kd_preS (wc := [(od, .inr (5, [.ref ow, .int wt])), (ow, .inl (g.2.1 0, 3, .inl wf))]) (av := [.ref od, .int 2, .int (nI (k - 1))]) hP hD hS hA hK hE [0, 1] rfl (by decide)) rfl rfl hl.1 rfl (lv_room (Nat.le_of_ble_eq_true rfl)) dX10_waysBack_48 ⟨Nat.le_of_ble_eq_true rfl, Nat.le_of_ble_eq_true rfl⟩) hP hD hS hA [0, 1] rfl (fun r_48 _ H locs hw hP hS => ?_)
    subst hw
    refine lv_lmul hx hb dX10_waysBack_51 ?_
    refine lv_ladd hx hb dX10_waysBack_52 ?_
    refine lv_aload_n hx hb dX10_waysBack_53 rfl (lv_at hl 0 rfl) ?_
    refine lv_iconst (v := 2) hx hb dX10_waysBack_54 (by decide) ?_
    refine kd_callIK (g := g) (wc := [(od, .inr (5, [.ref ow, .int wt])), (ow, .inl (g.2.1 0, 3, .inl wf))]) (va_runVN (mc := 0) (ms := 0) (rm := { frames := 1, cells := 0, slots := 0, locals := 21 }) (C := RX5) (host := "KingdomAtDice") (As := [.int 2]) (rest := [.long ((((sp_X5_waysTo wf 0).toInt64) * (kd_pw wt.toInt64 2)) + (((sp_X5_waysTo wf 1).toInt64) * (sp_waysBack_2 wf wt (k - 1))))]) ⟨hx, hb, hml, hown, hts⟩ (c_X5_waysTo l g H.size od ow wf wt 2 ) ⟨va_cnB 1 hts gX10_waysBack_X5_waysTo_n164 rfl rfl rfl (kd_N hE 29 rfl) (hts (.initialized RX5) (by decide +kernel)) (by decide +kernel) ⟨Nat.le_of_ble_eq_true rfl, Nat.le_of_ble_eq_true rfl⟩, (hts (.instanceMethod yX5_waysTo) (by decide +kernel)), (hts (.selects RX5 yX5_waysTo yX5_waysTo) (by decide +kernel))⟩ (kd_preV (wc := [(od, .inr (5, [.ref ow, .int wt])), (ow, .inl (g.2.1 0, 3, .inl wf))]) (va_recv hK hP (ci := 5) (q0 := 0) rfl rfl) hP hD hS hA hK hE [0, 1] rfl (by decide)) rfl rfl hl.1 rfl (lv_room (Nat.le_of_ble_eq_true rfl)) dX10_waysBack_55 ⟨Nat.le_of_ble_eq_true rfl, Nat.le_of_ble_eq_true rfl⟩) hP hD hS hA [0, 1] rfl (fun r_55 _ H locs hw hP hS => ?_)
    subst hw
    refine lv_i2l hx hb dX10_waysBack_58 rfl ?_
    refine lv_aload_n hx hb dX10_waysBack_59 rfl (lv_at hl 0 rfl) ?_
    refine lv_iload_n hx hb dX10_waysBack_60 rfl (lv_at hl 1 rfl) ?_
    refine lv_iconst (v := 1) hx hb dX10_waysBack_61 (by decide) ?_
    refine lv_isub hx hb dX10_waysBack_62 ?_
    refine kd_top (y := 2) (by decide) ?_
    refine lv_iload_n hx hb dX10_waysBack_63 rfl (lv_at hl 2 rfl) ?_
    refine kd_callLK (g := g) (wc := [(od, .inr (5, [.ref ow, .int wt])), (ow, .inl (g.2.1 0, 3, .inl wf))]) (va_runS (mc := 0) (ms := 0) (rm := { frames := 3, cells := 0, slots := 0, locals := 64 }) (As := [.ref od, .int 2, .int (nI k)]) (rest := [.long ((sp_X5_waysTo wf 2).toInt64), .long ((((sp_X5_waysTo wf 0).toInt64) * (kd_pw wt.toInt64 2)) + (((sp_X5_waysTo wf 1).toInt64) * (sp_waysBack_2 wf wt (k - 1))))]) ⟨hx, hb, hml, hown, hts⟩ (c_waysBack_2 l g H.size od ow wf wt k hk) (va_cwS 3 hts gX10_waysBack_X10_waysBack rfl rfl rfl (by decide +kernel) ⟨Nat.le_of_ble_eq_true rfl, Nat.le_of_ble_eq_true rfl⟩) (kd_preS (wc := [(od, .inr (5, [.ref ow, .int wt])), (ow, .inl (g.2.1 0, 3, .inl wf))]) (av := [.ref od, .int 2, .int (nI k)]) hP hD hS hA hK hE [0, 1] rfl (by decide)) rfl rfl hl.1 rfl (lv_room (Nat.le_of_ble_eq_true rfl)) dX10_waysBack_64 ⟨Nat.le_of_ble_eq_true rfl, Nat.le_of_ble_eq_true rfl⟩) hP hD hS hA [0, 1] rfl (fun r_64 _ H locs hw hP hS => ?_)
    subst hw
    refine lv_lmul hx hb dX10_waysBack_67 ?_
    refine lv_ladd hx hb dX10_waysBack_68 ?_
    exact kd_lret hx hb hr hlocks hK hS dX10_waysBack_69 (()) (by rw [sp_waysBack_3, if_pos c_12]) hP hD
  · have n_12 : k < 1 := kd_cne (a := 1) (b := k) (by omega) (by omega) c_12
    refine lv_lconst (v := 0) hx hb dX10_waysBack_15 (by decide) ?_
    exact kd_lret hx hb hr hlocks hK hS dX10_waysBack_16 (()) (by rw [sp_waysBack_3, if_neg c_12]) hP hD
/-- what KingdomAtDice.waysBack answers and leaves, by its instructions -/
def sp_waysBack_4 (wf : Nat → Int32) (wt : Int32) (k : Nat) : Int64 :=
  if 1 ≤ (nI k) then
    ((((sp_X5_waysTo wf 0).toInt64) * (kd_pw wt.toInt64 3)) + (((sp_X5_waysTo wf 1).toInt64) * (sp_waysBack_3 wf wt (k - 1)))) + (((sp_X5_waysTo wf 2).toInt64) * (sp_waysBack_3 wf wt k))
  else
    0
set_option maxHeartbeats 4000000 in
set_option maxRecDepth 100000 in
theorem c_waysBack_4 (l : Launch) (g : kd_G) (sz : Nat) (od : Nat) (ow : Nat) (wf : Nat → Int32) (wt : Int32) (k : Nat) (hk : k ≤ 6) : kd_ML l yX10_waysBack wsX10_waysBack ({ frames := 5, cells := 0, slots := 0, locals := 108 }) [.ref od, .int 4, .int (nI k)] g [(od, .inr (5, [.ref ow, .int wt])), (ow, .inl (g.2.1 0, 3, .inl wf))] sz (fun r (_ : Unit) => r = sp_waysBack_4 wf wt k) (fun _ => [(od, .inr (5, [.ref ow, .int wt])), (ow, .inl (g.2.1 0, 3, .inl wf))]) 0 0 := by
  refine kd_met (l := l) (y := yX10_waysBack) (ws := wsX10_waysBack) (rm := { frames := 5, cells := 0, slots := 0, locals := 108 }) (av := [.ref od, .int 4, .int (nI k)]) (g := g) (WS := [(od, .inr (5, [.ref ow, .int wt])), (ow, .inl (g.2.1 0, 3, .inl wf))]) (sz := sz) (mc := 0) (ms := 0) (cc := cX10_waysBack) (maxL := 3) (ret := (some .long)) (own := RX10) (fun A => va_Ql (fun r (_ : Unit) => r = sp_waysBack_4 wf wt k) (fun u t => kd_post g A [(od, .inr (5, [.ref ow, .int wt])), (ow, .inl (g.2.1 0, 3, .inl wf))] t) A) (by decide) rfl rfl (Nat.le_of_ble_eq_true rfl) ?_
  intro p e s m below meth c A ls hx hb hr hml hts hown hlocks hnm hA hP hK hD hS hE hl
  have hl : lv_has ls 3 [(0, .ref od), (1, .int 4), (2, .int (nI k))] := hl
  have hiX5 : ∀ w ∈ u_ws RX5 TX5 2, w ∈ wsX10_waysBack := by decide +kernel
  refine lv_iload_n hx hb dX10_waysBack_0 rfl (lv_at hl 1 rfl) ?_
  refine lv_iconst (v := 1) hx hb dX10_waysBack_1 (by decide) ?_
  refine lv_icmp_lt (tgt := 15) hx hb dX10_waysBack_2 (by decide) (fun z => absurd z (by decide)) (fun _ => ?_)
  refine lv_iload_n hx hb dX10_waysBack_5 rfl (lv_at hl 1 rfl) ?_
  refine lv_iconst (v := 5) hx hb dX10_waysBack_6 (by decide) ?_
  refine lv_icmp_gt (tgt := 15) hx hb dX10_waysBack_7 (by decide) (fun z => absurd z (by decide)) (fun _ => ?_)
  refine lv_iload_n hx hb dX10_waysBack_10 rfl (lv_at hl 2 rfl) ?_
  refine lv_iconst (v := 1) hx hb dX10_waysBack_11 (by decide) ?_
  refine lv_icmp_ge (tgt := 17) hx hb dX10_waysBack_12 (by decide) (fun c_12 => ?_) (fun c_12 => ?_)
  · have n_12 : 1 ≤ k := kd_ce (a := 1) (b := k) (by omega) (by omega) c_12
    refine lv_aload_n hx hb dX10_waysBack_17 rfl (lv_at hl 0 rfl) ?_
    refine lv_iconst (v := 0) hx hb dX10_waysBack_18 (by decide) ?_
    refine kd_callIK (g := g) (wc := [(od, .inr (5, [.ref ow, .int wt])), (ow, .inl (g.2.1 0, 3, .inl wf))]) (va_runVN (mc := 0) (ms := 0) (rm := { frames := 1, cells := 0, slots := 0, locals := 21 }) (C := RX5) (host := "KingdomAtDice") (As := [.int 0]) (rest := []) ⟨hx, hb, hml, hown, hts⟩ (c_X5_waysTo l g s.heap.size od ow wf wt 0 ) ⟨va_cnB 1 hts gX10_waysBack_X5_waysTo_n164 rfl rfl rfl (kd_N hE 29 rfl) (hts (.initialized RX5) (by decide +kernel)) (by decide +kernel) ⟨Nat.le_of_ble_eq_true rfl, Nat.le_of_ble_eq_true rfl⟩, (hts (.instanceMethod yX5_waysTo) (by decide +kernel)), (hts (.selects RX5 yX5_waysTo yX5_waysTo) (by decide +kernel))⟩ (kd_preV (wc := [(od, .inr (5, [.ref ow, .int wt])), (ow, .inl (g.2.1 0, 3, .inl wf))]) (va_recv hK hP (ci := 5) (q0 := 0) rfl rfl) hP hD hS hA hK hE [0, 1] rfl (by decide)) rfl rfl hl.1 rfl (lv_room (Nat.le_of_ble_eq_true rfl)) dX10_waysBack_19 ⟨Nat.le_of_ble_eq_true rfl, Nat.le_of_ble_eq_true rfl⟩) hP hD hS hA [0, 1] rfl (fun r_19 _ H locs hw hP hS => ?_)
    subst hw
    refine lv_i2l hx hb dX10_waysBack_22 rfl ?_
    refine lv_aload_n hx hb dX10_waysBack_23 rfl (lv_at hl 0 rfl) ?_
    refine va_getN (ci := 5) (v := .int wt) (C := RX5) (T := TX5) (N := 2) hx hb hts hiX5 hown hK hP (0) rfl rfl 1 (by decide) (kd_Nb hE 48 rfl) (fun _ h9 => h9) rfl dX10_waysBack_24 ?_
    refine lv_i2l hx hb dX10_waysBack_27 rfl ?_
    refine lv_iload_n hx hb dX10_waysBack_28 rfl (lv_at hl 1 rfl) ?_
    refine lv_iconst (v := 1) hx hb dX10_waysBack_29 (by decide) ?_
    refine lv_isub hx hb dX10_waysBack_30 ?_
    refine kd_top (y := 3) (by decide) ?_
    refine kd_callLK (g := g) (wc := []) (va_runS (mc := 0) (ms := 0) (rm := { frames := 0, cells := 0, slots := 0, locals := 0 }) (As := [.long wt.toInt64, .int 3]) (rest := [.long ((sp_X5_waysTo wf 0).toInt64)]) ⟨hx, hb, hml, hown, hts⟩ (c_X10_power l g H.size wt.toInt64 3 (by omega)) (va_cwS 2 hts gX10_waysBack_X10_power rfl rfl rfl (by decide +kernel) ⟨Nat.le_of_ble_eq_true rfl, Nat.le_of_ble_eq_true rfl⟩) (kd_preS (wc := []) (av := [.long wt.toInt64, .int 3]) hP hD hS hA hK hE [] rfl (by decide)) rfl rfl hl.1 rfl (lv_room (Nat.le_of_ble_eq_true rfl)) dX10_waysBack_31 ⟨Nat.le_of_ble_eq_true rfl, Nat.le_of_ble_eq_true rfl⟩) hP hD hS hA [] rfl (fun r_31 _ H locs hw hP hS => ?_)
    subst hw
    refine lv_lmul hx hb dX10_waysBack_34 ?_
    refine lv_aload_n hx hb dX10_waysBack_35 rfl (lv_at hl 0 rfl) ?_
    refine lv_iconst (v := 1) hx hb dX10_waysBack_36 (by decide) ?_
    refine kd_callIK (g := g) (wc := [(od, .inr (5, [.ref ow, .int wt])), (ow, .inl (g.2.1 0, 3, .inl wf))]) (va_runVN (mc := 0) (ms := 0) (rm := { frames := 1, cells := 0, slots := 0, locals := 21 }) (C := RX5) (host := "KingdomAtDice") (As := [.int 1]) (rest := [.long (((sp_X5_waysTo wf 0).toInt64) * (kd_pw wt.toInt64 3))]) ⟨hx, hb, hml, hown, hts⟩ (c_X5_waysTo l g H.size od ow wf wt 1 ) ⟨va_cnB 1 hts gX10_waysBack_X5_waysTo_n164 rfl rfl rfl (kd_N hE 29 rfl) (hts (.initialized RX5) (by decide +kernel)) (by decide +kernel) ⟨Nat.le_of_ble_eq_true rfl, Nat.le_of_ble_eq_true rfl⟩, (hts (.instanceMethod yX5_waysTo) (by decide +kernel)), (hts (.selects RX5 yX5_waysTo yX5_waysTo) (by decide +kernel))⟩ (kd_preV (wc := [(od, .inr (5, [.ref ow, .int wt])), (ow, .inl (g.2.1 0, 3, .inl wf))]) (va_recv hK hP (ci := 5) (q0 := 0) rfl rfl) hP hD hS hA hK hE [0, 1] rfl (by decide)) rfl rfl hl.1 rfl (lv_room (Nat.le_of_ble_eq_true rfl)) dX10_waysBack_37 ⟨Nat.le_of_ble_eq_true rfl, Nat.le_of_ble_eq_true rfl⟩) hP hD hS hA [0, 1] rfl (fun r_37 _ H locs hw hP hS => ?_)
    subst hw
    refine lv_i2l hx hb dX10_waysBack_40 rfl ?_
    refine lv_aload_n hx hb dX10_waysBack_41 rfl (lv_at hl 0 rfl) ?_
    refine lv_iload_n hx hb dX10_waysBack_42 rfl (lv_at hl 1 rfl) ?_
    refine lv_iconst (v := 1) hx hb dX10_waysBack_43 (by decide) ?_
    refine lv_isub hx hb dX10_waysBack_44 ?_
    refine kd_top (y := 3) (by decide) ?_
    refine lv_iload_n hx hb dX10_waysBack_45 rfl (lv_at hl 2 rfl) ?_
    refine lv_iconst (v := 1) hx hb dX10_waysBack_46 (by decide) ?_
    refine lv_isub hx hb dX10_waysBack_47 ?_
    refine kd_top (y := nI (k - 1)) (pk_sub (a := k) (b := 1) (by omega)) ?_
    refine kd_callLK (g := g) (wc := [(od, .inr (5, [.ref ow, .int wt])), (ow, .inl (g.2.1 0, 3, .inl wf))]) (va_runS (mc := 0) (ms := 0) (rm := { frames := 4, cells := 0, slots := 0, locals := 86 }) (As := [.ref od, .int 3, .int (nI (k - 1))]) (rest := [.long ((sp_X5_waysTo wf 1).toInt64), .long (((sp_X5_waysTo wf 0).toInt64) * (kd_pw wt.toInt64 3))]) ⟨hx, hb, hml, hown, hts⟩ (c_waysBack_3 l g H.size od ow wf wt (k - 1) (by omega)) (va_cwS 3 hts gX10_waysBack_X10_waysBack rfl rfl rfl (by decide +kernel) ⟨Nat.le_of_ble_eq_true rfl, Nat.le_of_ble_eq_true rfl⟩) (kd_preS (wc := [(od, .inr (5, [.ref ow, .int wt])), (ow, .inl (g.2.1 0, 3, .inl wf))]) (av := [.ref od, .int 3, .int (nI (k - 1))]) hP hD hS hA hK hE [0, 1] rfl (by decide)) rfl rfl hl.1 rfl (lv_room (Nat.le_of_ble_eq_true rfl)) dX10_waysBack_48 ⟨Nat.le_of_ble_eq_true rfl, Nat.le_of_ble_eq_true rfl⟩) hP hD hS hA [0, 1] rfl (fun r_48 _ H locs hw hP hS => ?_)
    subst hw
    refine lv_lmul hx hb dX10_waysBack_51 ?_
    refine lv_ladd hx hb dX10_waysBack_52 ?_
    refine lv_aload_n hx hb dX10_waysBack_53 rfl (lv_at hl 0 rfl) ?_
    refine lv_iconst (v := 2) hx hb dX10_waysBack_54 (by decide) ?_
    refine kd_callIK (g := g) (wc := [(od, .inr (5, [.ref ow, .int wt])), (ow, .inl (g.2.1 0, 3, .inl wf))]) (va_runVN (mc := 0) (ms := 0) (rm := { frames := 1, cells := 0, slots := 0, locals := 21 }) (C := RX5) (host := "KingdomAtDice") (As := [.int 2]) (rest := [.long ((((sp_X5_waysTo wf 0).toInt64) * (kd_pw wt.toInt64 3)) + (((sp_X5_waysTo wf 1).toInt64) * (sp_waysBack_3 wf wt (k - 1))))]) ⟨hx, hb, hml, hown, hts⟩ (c_X5_waysTo l g H.size od ow wf wt 2 ) ⟨va_cnB 1 hts gX10_waysBack_X5_waysTo_n164 rfl rfl rfl (kd_N hE 29 rfl) (hts (.initialized RX5) (by decide +kernel)) (by decide +kernel) ⟨Nat.le_of_ble_eq_true rfl, Nat.le_of_ble_eq_true rfl⟩, (hts (.instanceMethod yX5_waysTo) (by decide +kernel)), (hts (.selects RX5 yX5_waysTo yX5_waysTo) (by decide +kernel))⟩ (kd_preV (wc := [(od, .inr (5, [.ref ow, .int wt])), (ow, .inl (g.2.1 0, 3, .inl wf))]) (va_recv hK hP (ci := 5) (q0 := 0) rfl rfl) hP hD hS hA hK hE [0, 1] rfl (by decide)) rfl rfl hl.1 rfl (lv_room (Nat.le_of_ble_eq_true rfl)) dX10_waysBack_55 ⟨Nat.le_of_ble_eq_true rfl, Nat.le_of_ble_eq_true rfl⟩) hP hD hS hA [0, 1] rfl (fun r_55 _ H locs hw hP hS => ?_)
    subst hw
    refine lv_i2l hx hb dX10_waysBack_58 rfl ?_
    refine lv_aload_n hx hb dX10_waysBack_59 rfl (lv_at hl 0 rfl) ?_
    refine lv_iload_n hx hb dX10_waysBack_60 rfl (lv_at hl 1 rfl) ?_
    refine lv_iconst (v := 1) hx hb dX10_waysBack_61 (by decide) ?_
    refine lv_isub hx hb dX10_waysBack_62 ?_
    refine kd_top (y := 3) (by decide) ?_
    refine lv_iload_n hx hb dX10_waysBack_63 rfl (lv_at hl 2 rfl) ?_
    refine kd_callLK (g := g) (wc := [(od, .inr (5, [.ref ow, .int wt])), (ow, .inl (g.2.1 0, 3, .inl wf))]) (va_runS (mc := 0) (ms := 0) (rm := { frames := 4, cells := 0, slots := 0, locals := 86 }) (As := [.ref od, .int 3, .int (nI k)]) (rest := [.long ((sp_X5_waysTo wf 2).toInt64), .long ((((sp_X5_waysTo wf 0).toInt64) * (kd_pw wt.toInt64 3)) + (((sp_X5_waysTo wf 1).toInt64) * (sp_waysBack_3 wf wt (k - 1))))]) ⟨hx, hb, hml, hown, hts⟩ (c_waysBack_3 l g H.size od ow wf wt k hk) (va_cwS 3 hts gX10_waysBack_X10_waysBack rfl rfl rfl (by decide +kernel) ⟨Nat.le_of_ble_eq_true rfl, Nat.le_of_ble_eq_true rfl⟩) (kd_preS (wc := [(od, .inr (5, [.ref ow, .int wt])), (ow, .inl (g.2.1 0, 3, .inl wf))]) (av := [.ref od, .int 3, .int (nI k)]) hP hD hS hA hK hE [0, 1] rfl (by decide)) rfl rfl hl.1 rfl (lv_room (Nat.le_of_ble_eq_true rfl)) dX10_waysBack_64 ⟨Nat.le_of_ble_eq_true rfl, Nat.le_of_ble_eq_true rfl⟩) hP hD hS hA [0, 1] rfl (fun r_64 _ H locs hw hP hS => ?_)
    subst hw
    refine lv_lmul hx hb dX10_waysBack_67 ?_
    refine lv_ladd hx hb dX10_waysBack_68 ?_
    exact kd_lret hx hb hr hlocks hK hS dX10_waysBack_69 (()) (by rw [sp_waysBack_4, if_pos c_12]) hP hD
  · have n_12 : k < 1 := kd_cne (a := 1) (b := k) (by omega) (by omega) c_12
    refine lv_lconst (v := 0) hx hb dX10_waysBack_15 (by decide) ?_
    exact kd_lret hx hb hr hlocks hK hS dX10_waysBack_16 (()) (by rw [sp_waysBack_4, if_neg c_12]) hP hD
/-- what KingdomAtDice.waysBack answers and leaves, by its instructions -/
def sp_waysBack_5 (wf : Nat → Int32) (wt : Int32) (k : Nat) : Int64 :=
  if 1 ≤ (nI k) then
    ((((sp_X5_waysTo wf 0).toInt64) * (kd_pw wt.toInt64 4)) + (((sp_X5_waysTo wf 1).toInt64) * (sp_waysBack_4 wf wt (k - 1)))) + (((sp_X5_waysTo wf 2).toInt64) * (sp_waysBack_4 wf wt k))
  else
    0
set_option maxHeartbeats 4000000 in
set_option maxRecDepth 100000 in
theorem c_waysBack_5 (l : Launch) (g : kd_G) (sz : Nat) (od : Nat) (ow : Nat) (wf : Nat → Int32) (wt : Int32) (k : Nat) (hk : k ≤ 6) : kd_ML l yX10_waysBack wsX10_waysBack ({ frames := 6, cells := 0, slots := 0, locals := 130 }) [.ref od, .int 5, .int (nI k)] g [(od, .inr (5, [.ref ow, .int wt])), (ow, .inl (g.2.1 0, 3, .inl wf))] sz (fun r (_ : Unit) => r = sp_waysBack_5 wf wt k) (fun _ => [(od, .inr (5, [.ref ow, .int wt])), (ow, .inl (g.2.1 0, 3, .inl wf))]) 0 0 := by
  refine kd_met (l := l) (y := yX10_waysBack) (ws := wsX10_waysBack) (rm := { frames := 6, cells := 0, slots := 0, locals := 130 }) (av := [.ref od, .int 5, .int (nI k)]) (g := g) (WS := [(od, .inr (5, [.ref ow, .int wt])), (ow, .inl (g.2.1 0, 3, .inl wf))]) (sz := sz) (mc := 0) (ms := 0) (cc := cX10_waysBack) (maxL := 3) (ret := (some .long)) (own := RX10) (fun A => va_Ql (fun r (_ : Unit) => r = sp_waysBack_5 wf wt k) (fun u t => kd_post g A [(od, .inr (5, [.ref ow, .int wt])), (ow, .inl (g.2.1 0, 3, .inl wf))] t) A) (by decide) rfl rfl (Nat.le_of_ble_eq_true rfl) ?_
  intro p e s m below meth c A ls hx hb hr hml hts hown hlocks hnm hA hP hK hD hS hE hl
  have hl : lv_has ls 3 [(0, .ref od), (1, .int 5), (2, .int (nI k))] := hl
  have hiX5 : ∀ w ∈ u_ws RX5 TX5 2, w ∈ wsX10_waysBack := by decide +kernel
  refine lv_iload_n hx hb dX10_waysBack_0 rfl (lv_at hl 1 rfl) ?_
  refine lv_iconst (v := 1) hx hb dX10_waysBack_1 (by decide) ?_
  refine lv_icmp_lt (tgt := 15) hx hb dX10_waysBack_2 (by decide) (fun z => absurd z (by decide)) (fun _ => ?_)
  refine lv_iload_n hx hb dX10_waysBack_5 rfl (lv_at hl 1 rfl) ?_
  refine lv_iconst (v := 5) hx hb dX10_waysBack_6 (by decide) ?_
  refine lv_icmp_gt (tgt := 15) hx hb dX10_waysBack_7 (by decide) (fun z => absurd z (by decide)) (fun _ => ?_)
  refine lv_iload_n hx hb dX10_waysBack_10 rfl (lv_at hl 2 rfl) ?_
  refine lv_iconst (v := 1) hx hb dX10_waysBack_11 (by decide) ?_
  refine lv_icmp_ge (tgt := 17) hx hb dX10_waysBack_12 (by decide) (fun c_12 => ?_) (fun c_12 => ?_)
  · have n_12 : 1 ≤ k := kd_ce (a := 1) (b := k) (by omega) (by omega) c_12
    refine lv_aload_n hx hb dX10_waysBack_17 rfl (lv_at hl 0 rfl) ?_
    refine lv_iconst (v := 0) hx hb dX10_waysBack_18 (by decide) ?_
    refine kd_callIK (g := g) (wc := [(od, .inr (5, [.ref ow, .int wt])), (ow, .inl (g.2.1 0, 3, .inl wf))]) (va_runVN (mc := 0) (ms := 0) (rm := { frames := 1, cells := 0, slots := 0, locals := 21 }) (C := RX5) (host := "KingdomAtDice") (As := [.int 0]) (rest := []) ⟨hx, hb, hml, hown, hts⟩ (c_X5_waysTo l g s.heap.size od ow wf wt 0 ) ⟨va_cnB 1 hts gX10_waysBack_X5_waysTo_n164 rfl rfl rfl (kd_N hE 29 rfl) (hts (.initialized RX5) (by decide +kernel)) (by decide +kernel) ⟨Nat.le_of_ble_eq_true rfl, Nat.le_of_ble_eq_true rfl⟩, (hts (.instanceMethod yX5_waysTo) (by decide +kernel)), (hts (.selects RX5 yX5_waysTo yX5_waysTo) (by decide +kernel))⟩ (kd_preV (wc := [(od, .inr (5, [.ref ow, .int wt])), (ow, .inl (g.2.1 0, 3, .inl wf))]) (va_recv hK hP (ci := 5) (q0 := 0) rfl rfl) hP hD hS hA hK hE [0, 1] rfl (by decide)) rfl rfl hl.1 rfl (lv_room (Nat.le_of_ble_eq_true rfl)) dX10_waysBack_19 ⟨Nat.le_of_ble_eq_true rfl, Nat.le_of_ble_eq_true rfl⟩) hP hD hS hA [0, 1] rfl (fun r_19 _ H locs hw hP hS => ?_)
    subst hw
    refine lv_i2l hx hb dX10_waysBack_22 rfl ?_
    refine lv_aload_n hx hb dX10_waysBack_23 rfl (lv_at hl 0 rfl) ?_
    refine va_getN (ci := 5) (v := .int wt) (C := RX5) (T := TX5) (N := 2) hx hb hts hiX5 hown hK hP (0) rfl rfl 1 (by decide) (kd_Nb hE 48 rfl) (fun _ h9 => h9) rfl dX10_waysBack_24 ?_
    refine lv_i2l hx hb dX10_waysBack_27 rfl ?_
    refine lv_iload_n hx hb dX10_waysBack_28 rfl (lv_at hl 1 rfl) ?_
    refine lv_iconst (v := 1) hx hb dX10_waysBack_29 (by decide) ?_
    refine lv_isub hx hb dX10_waysBack_30 ?_
    refine kd_top (y := 4) (by decide) ?_
    refine kd_callLK (g := g) (wc := []) (va_runS (mc := 0) (ms := 0) (rm := { frames := 0, cells := 0, slots := 0, locals := 0 }) (As := [.long wt.toInt64, .int 4]) (rest := [.long ((sp_X5_waysTo wf 0).toInt64)]) ⟨hx, hb, hml, hown, hts⟩ (c_X10_power l g H.size wt.toInt64 4 (by omega)) (va_cwS 2 hts gX10_waysBack_X10_power rfl rfl rfl (by decide +kernel) ⟨Nat.le_of_ble_eq_true rfl, Nat.le_of_ble_eq_true rfl⟩) (kd_preS (wc := []) (av := [.long wt.toInt64, .int 4]) hP hD hS hA hK hE [] rfl (by decide)) rfl rfl hl.1 rfl (lv_room (Nat.le_of_ble_eq_true rfl)) dX10_waysBack_31 ⟨Nat.le_of_ble_eq_true rfl, Nat.le_of_ble_eq_true rfl⟩) hP hD hS hA [] rfl (fun r_31 _ H locs hw hP hS => ?_)
    subst hw
    refine lv_lmul hx hb dX10_waysBack_34 ?_
    refine lv_aload_n hx hb dX10_waysBack_35 rfl (lv_at hl 0 rfl) ?_
    refine lv_iconst (v := 1) hx hb dX10_waysBack_36 (by decide) ?_
    refine kd_callIK (g := g) (wc := [(od, .inr (5, [.ref ow, .int wt])), (ow, .inl (g.2.1 0, 3, .inl wf))]) (va_runVN (mc := 0) (ms := 0) (rm := { frames := 1, cells := 0, slots := 0, locals := 21 }) (C := RX5) (host := "KingdomAtDice") (As := [.int 1]) (rest := [.long (((sp_X5_waysTo wf 0).toInt64) * (kd_pw wt.toInt64 4))]) ⟨hx, hb, hml, hown, hts⟩ (c_X5_waysTo l g H.size od ow wf wt 1 ) ⟨va_cnB 1 hts gX10_waysBack_X5_waysTo_n164 rfl rfl rfl (kd_N hE 29 rfl) (hts (.initialized RX5) (by decide +kernel)) (by decide +kernel) ⟨Nat.le_of_ble_eq_true rfl, Nat.le_of_ble_eq_true rfl⟩, (hts (.instanceMethod yX5_waysTo) (by decide +kernel)), (hts (.selects RX5 yX5_waysTo yX5_waysTo) (by decide +kernel))⟩ (kd_preV (wc := [(od, .inr (5, [.ref ow, .int wt])), (ow, .inl (g.2.1 0, 3, .inl wf))]) (va_recv hK hP (ci := 5) (q0 := 0) rfl rfl) hP hD hS hA hK hE [0, 1] rfl (by decide)) rfl rfl hl.1 rfl (lv_room (Nat.le_of_ble_eq_true rfl)) dX10_waysBack_37 ⟨Nat.le_of_ble_eq_true rfl, Nat.le_of_ble_eq_true rfl⟩) hP hD hS hA [0, 1] rfl (fun r_37 _ H locs hw hP hS => ?_)
    subst hw
    refine lv_i2l hx hb dX10_waysBack_40 rfl ?_
    refine lv_aload_n hx hb dX10_waysBack_41 rfl (lv_at hl 0 rfl) ?_
    refine lv_iload_n hx hb dX10_waysBack_42 rfl (lv_at hl 1 rfl) ?_
    refine lv_iconst (v := 1) hx hb dX10_waysBack_43 (by decide) ?_
    refine lv_isub hx hb dX10_waysBack_44 ?_
    refine kd_top (y := 4) (by decide) ?_
    refine lv_iload_n hx hb dX10_waysBack_45 rfl (lv_at hl 2 rfl) ?_
    refine lv_iconst (v := 1) hx hb dX10_waysBack_46 (by decide) ?_
    refine lv_isub hx hb dX10_waysBack_47 ?_
    refine kd_top (y := nI (k - 1)) (pk_sub (a := k) (b := 1) (by omega)) ?_
    refine kd_callLK (g := g) (wc := [(od, .inr (5, [.ref ow, .int wt])), (ow, .inl (g.2.1 0, 3, .inl wf))]) (va_runS (mc := 0) (ms := 0) (rm := { frames := 5, cells := 0, slots := 0, locals := 108 }) (As := [.ref od, .int 4, .int (nI (k - 1))]) (rest := [.long ((sp_X5_waysTo wf 1).toInt64), .long (((sp_X5_waysTo wf 0).toInt64) * (kd_pw wt.toInt64 4))]) ⟨hx, hb, hml, hown, hts⟩ (c_waysBack_4 l g H.size od ow wf wt (k - 1) (by omega)) (va_cwS 3 hts gX10_waysBack_X10_waysBack rfl rfl rfl (by decide +kernel) ⟨Nat.le_of_ble_eq_true rfl, Nat.le_of_ble_eq_true rfl⟩) (kd_preS (wc := [(od, .inr (5, [.ref ow, .int wt])), (ow, .inl (g.2.1 0, 3, .inl wf))]) (av := [.ref od, .int 4, .int (nI (k - 1))]) hP hD hS hA hK hE [0, 1] rfl (by decide)) rfl rfl hl.1 rfl (lv_room (Nat.le_of_ble_eq_true rfl)) dX10_waysBack_48 ⟨Nat.le_of_ble_eq_true rfl, Nat.le_of_ble_eq_true rfl⟩) hP hD hS hA [0, 1] rfl (fun r_48 _ H locs hw hP hS => ?_)
    subst hw
    refine lv_lmul hx hb dX10_waysBack_51 ?_
    refine lv_ladd hx hb dX10_waysBack_52 ?_
    refine lv_aload_n hx hb dX10_waysBack_53 rfl (lv_at hl 0 rfl) ?_
    refine lv_iconst (v := 2) hx hb dX10_waysBack_54 (by decide) ?_
    refine kd_callIK (g := g) (wc := [(od, .inr (5, [.ref ow, .int wt])), (ow, .inl (g.2.1 0, 3, .inl wf))]) (va_runVN (mc := 0) (ms := 0) (rm := { frames := 1, cells := 0, slots := 0, locals := 21 }) (C := RX5) (host := "KingdomAtDice") (As := [.int 2]) (rest := [.long ((((sp_X5_waysTo wf 0).toInt64) * (kd_pw wt.toInt64 4)) + (((sp_X5_waysTo wf 1).toInt64) * (sp_waysBack_4 wf wt (k - 1))))]) ⟨hx, hb, hml, hown, hts⟩ (c_X5_waysTo l g H.size od ow wf wt 2 ) ⟨va_cnB 1 hts gX10_waysBack_X5_waysTo_n164 rfl rfl rfl (kd_N hE 29 rfl) (hts (.initialized RX5) (by decide +kernel)) (by decide +kernel) ⟨Nat.le_of_ble_eq_true rfl, Nat.le_of_ble_eq_true rfl⟩, (hts (.instanceMethod yX5_waysTo) (by decide +kernel)), (hts (.selects RX5 yX5_waysTo yX5_waysTo) (by decide +kernel))⟩ (kd_preV (wc := [(od, .inr (5, [.ref ow, .int wt])), (ow, .inl (g.2.1 0, 3, .inl wf))]) (va_recv hK hP (ci := 5) (q0 := 0) rfl rfl) hP hD hS hA hK hE [0, 1] rfl (by decide)) rfl rfl hl.1 rfl (lv_room (Nat.le_of_ble_eq_true rfl)) dX10_waysBack_55 ⟨Nat.le_of_ble_eq_true rfl, Nat.le_of_ble_eq_true rfl⟩) hP hD hS hA [0, 1] rfl (fun r_55 _ H locs hw hP hS => ?_)
    subst hw
    refine lv_i2l hx hb dX10_waysBack_58 rfl ?_
    refine lv_aload_n hx hb dX10_waysBack_59 rfl (lv_at hl 0 rfl) ?_
    refine lv_iload_n hx hb dX10_waysBack_60 rfl (lv_at hl 1 rfl) ?_
    refine lv_iconst (v := 1) hx hb dX10_waysBack_61 (by decide) ?_
    refine lv_isub hx hb dX10_waysBack_62 ?_
    refine kd_top (y := 4) (by decide) ?_
    refine lv_iload_n hx hb dX10_waysBack_63 rfl (lv_at hl 2 rfl) ?_
    refine kd_callLK (g := g) (wc := [(od, .inr (5, [.ref ow, .int wt])), (ow, .inl (g.2.1 0, 3, .inl wf))]) (va_runS (mc := 0) (ms := 0) (rm := { frames := 5, cells := 0, slots := 0, locals := 108 }) (As := [.ref od, .int 4, .int (nI k)]) (rest := [.long ((sp_X5_waysTo wf 2).toInt64), .long ((((sp_X5_waysTo wf 0).toInt64) * (kd_pw wt.toInt64 4)) + (((sp_X5_waysTo wf 1).toInt64) * (sp_waysBack_4 wf wt (k - 1))))]) ⟨hx, hb, hml, hown, hts⟩ (c_waysBack_4 l g H.size od ow wf wt k hk) (va_cwS 3 hts gX10_waysBack_X10_waysBack rfl rfl rfl (by decide +kernel) ⟨Nat.le_of_ble_eq_true rfl, Nat.le_of_ble_eq_true rfl⟩) (kd_preS (wc := [(od, .inr (5, [.ref ow, .int wt])), (ow, .inl (g.2.1 0, 3, .inl wf))]) (av := [.ref od, .int 4, .int (nI k)]) hP hD hS hA hK hE [0, 1] rfl (by decide)) rfl rfl hl.1 rfl (lv_room (Nat.le_of_ble_eq_true rfl)) dX10_waysBack_64 ⟨Nat.le_of_ble_eq_true rfl, Nat.le_of_ble_eq_true rfl⟩) hP hD hS hA [0, 1] rfl (fun r_64 _ H locs hw hP hS => ?_)
    subst hw
    refine lv_lmul hx hb dX10_waysBack_67 ?_
    refine lv_ladd hx hb dX10_waysBack_68 ?_
    exact kd_lret hx hb hr hlocks hK hS dX10_waysBack_69 (()) (by rw [sp_waysBack_5, if_pos c_12]) hP hD
  · have n_12 : k < 1 := kd_cne (a := 1) (b := k) (by omega) (by omega) c_12
    refine lv_lconst (v := 0) hx hb dX10_waysBack_15 (by decide) ?_
    exact kd_lret hx hb hr hlocks hK hS dX10_waysBack_16 (()) (by rw [sp_waysBack_5, if_neg c_12]) hP hD
/-- what KingdomAtDice.isOfKind answers and leaves, by its instructions -/
def sp_isOfKind_0 (p1 : Int32) : Int32 :=
  if p1 = 0 then
    1
  else
    if p1 = 1 then
      0
    else
      if p1 = 2 then
        0
      else
        if p1 = 3 then
          0
        else
          if p1 = 4 then
            0
          else
            0
theorem zb_isOfKind_0 (p1 : Int32) : sp_isOfKind_0 p1 = 0 ∨ sp_isOfKind_0 p1 = 1 := by
  unfold sp_isOfKind_0
  repeat' split
  all_goals first | exact Or.inl rfl | exact Or.inr rfl | simp
set_option maxHeartbeats 4000000 in
set_option maxRecDepth 100000 in
theorem c_isOfKind_0 (l : Launch) (g : kd_G) (sz : Nat) (dq : Nat → Nat) (p1 : Int32)  : kd_MI l yX10_isOfKind wsX10_isOfKind ({ frames := 0, cells := 0, slots := 0, locals := 0 }) [.ref (dq 0), .int p1] g (kd_dc dq) sz (fun r (_ : Unit) => r = sp_isOfKind_0 p1) (fun _ => (kd_dc dq)) 0 0 := by
  refine kd_met (l := l) (y := yX10_isOfKind) (ws := wsX10_isOfKind) (rm := { frames := 0, cells := 0, slots := 0, locals := 0 }) (av := [.ref (dq 0), .int p1]) (g := g) (WS := (kd_dc dq)) (sz := sz) (mc := 0) (ms := 0) (cc := cX10_isOfKind) (maxL := 2) (ret := (some .boolean)) (own := RX10) (fun A => va_Qi (fun r (_ : Unit) => r = sp_isOfKind_0 p1) (fun u t => kd_post g A (kd_dc dq) t) A) (by decide) rfl rfl (Nat.le_of_ble_eq_true rfl) ?_
  intro p e s m below meth c A ls hx hb hr hml hts hown hlocks hnm hA hP hK hD hS hE hl
  have hl : lv_has ls 2 [(0, .ref (dq 0)), (1, .int p1)] := hl
  refine lv_iload_n hx hb dX10_isOfKind_0 rfl (lv_at hl 1 rfl) ?_
  by_cases c_1_0 : p1 = 0
  · refine lv_tableIn (off := 35) (tgt := 36) hx hb dX10_isOfKind_1 (by rw [c_1_0]; decide) (by rw [c_1_0]; decide) (by rw [c_1_0]; rfl) (by decide) ?_
    refine lv_iconst (v := 1) hx hb dX10_isOfKind_36 (by decide) ?_
    exact kd_zret hx hb hr hlocks hK hS dX10_isOfKind_37 (Or.inr rfl) (()) (by rw [sp_isOfKind_0, if_pos c_1_0]) hP hD
  · by_cases c_1_1 : p1 = 1
    · refine lv_tableIn (off := 37) (tgt := 38) hx hb dX10_isOfKind_1 (by rw [c_1_1]; decide) (by rw [c_1_1]; decide) (by rw [c_1_1]; rfl) (by decide) ?_
      refine lv_aload_n hx hb dX10_isOfKind_38 rfl (lv_at hl 0 rfl) ?_
      refine va_instNo (C := "KingdomAtDice$Dice") hx hb hown (hts (.classLink RX10 21 "KingdomAtDice$Heavy") (by decide +kernel)) (kd_NC hE 0 rfl) (va_recv hK hP (ci := 1) (q0 := 0) rfl rfl) dX10_isOfKind_39 ?_
      exact kd_zret hx hb hr hlocks hK hS dX10_isOfKind_42 (Or.inl rfl) (()) (by rw [sp_isOfKind_0, if_neg c_1_0, if_pos c_1_1]) hP hD
    · by_cases c_1_2 : p1 = 2
      · refine lv_tableIn (off := 42) (tgt := 43) hx hb dX10_isOfKind_1 (by rw [c_1_2]; decide) (by rw [c_1_2]; decide) (by rw [c_1_2]; rfl) (by decide) ?_
        refine lv_aload_n hx hb dX10_isOfKind_43 rfl (lv_at hl 0 rfl) ?_
        refine va_instNo (C := "KingdomAtDice$Dice") hx hb hown (hts (.classLink RX10 26 "KingdomAtDice$Twins") (by decide +kernel)) (kd_NC hE 1 rfl) (va_recv hK hP (ci := 1) (q0 := 0) rfl rfl) dX10_isOfKind_44 ?_
        exact kd_zret hx hb hr hlocks hK hS dX10_isOfKind_47 (Or.inl rfl) (()) (by rw [sp_isOfKind_0, if_neg c_1_0, if_neg c_1_1, if_pos c_1_2]) hP hD
      · by_cases c_1_3 : p1 = 3
        · refine lv_tableIn (off := 47) (tgt := 48) hx hb dX10_isOfKind_1 (by rw [c_1_3]; decide) (by rw [c_1_3]; decide) (by rw [c_1_3]; rfl) (by decide) ?_
          refine lv_aload_n hx hb dX10_isOfKind_48 rfl (lv_at hl 0 rfl) ?_
          refine va_instNo (C := "KingdomAtDice$Dice") hx hb hown (hts (.classLink RX10 29 "KingdomAtDice$Light") (by decide +kernel)) (kd_NC hE 2 rfl) (va_recv hK hP (ci := 1) (q0 := 0) rfl rfl) dX10_isOfKind_49 ?_
          exact kd_zret hx hb hr hlocks hK hS dX10_isOfKind_52 (Or.inl rfl) (()) (by rw [sp_isOfKind_0, if_neg c_1_0, if_neg c_1_1, if_neg c_1_2, if_pos c_1_3]) hP hD
        · by_cases c_1_4 : p1 = 4
          · refine lv_tableIn (off := 52) (tgt := 53) hx hb dX10_isOfKind_1 (by rw [c_1_4]; decide) (by rw [c_1_4]; decide) (by rw [c_1_4]; rfl) (by decide) ?_
            refine lv_aload_n hx hb dX10_isOfKind_53 rfl (lv_at hl 0 rfl) ?_
            refine va_instNo (C := "KingdomAtDice$Dice") hx hb hown (hts (.classLink RX10 32 "KingdomAtDice$Bone") (by decide +kernel)) (kd_NC hE 3 rfl) (va_recv hK hP (ci := 1) (q0 := 0) rfl rfl) dX10_isOfKind_54 ?_
            exact kd_zret hx hb hr hlocks hK hS dX10_isOfKind_57 (Or.inl rfl) (()) (by rw [sp_isOfKind_0, if_neg c_1_0, if_neg c_1_1, if_neg c_1_2, if_neg c_1_3, if_pos c_1_4]) hP hD
          · refine lv_tableOut (tgt := 58) hx hb dX10_isOfKind_1 (by have z0 := kd_ne2 c_1_0 (k := 0) (by decide); have z1 := kd_ne2 c_1_1 (k := 1) (by decide); have z2 := kd_ne2 c_1_2 (k := 2) (by decide); have z3 := kd_ne2 c_1_3 (k := 3) (by decide); have z4 := kd_ne2 c_1_4 (k := 4) (by decide); omega) (by decide) ?_
            refine lv_iconst (v := 0) hx hb dX10_isOfKind_58 (by decide) ?_
            exact kd_zret hx hb hr hlocks hK hS dX10_isOfKind_59 (Or.inl rfl) (()) (by rw [sp_isOfKind_0, if_neg c_1_0, if_neg c_1_1, if_neg c_1_2, if_neg c_1_3, if_neg c_1_4]) hP hD
/-- what KingdomAtDice.isOfKind answers and leaves, by its instructions -/
def sp_isOfKind_1 (p1 : Int32) : Int32 :=
  if p1 = 0 then
    1
  else
    if p1 = 1 then
      1
    else
      if p1 = 2 then
        0
      else
        if p1 = 3 then
          0
        else
          if p1 = 4 then
            0
          else
            0
theorem zb_isOfKind_1 (p1 : Int32) : sp_isOfKind_1 p1 = 0 ∨ sp_isOfKind_1 p1 = 1 := by
  unfold sp_isOfKind_1
  repeat' split
  all_goals first | exact Or.inl rfl | exact Or.inr rfl | simp
set_option maxHeartbeats 4000000 in
set_option maxRecDepth 100000 in
theorem c_isOfKind_1 (l : Launch) (g : kd_G) (sz : Nat) (dq : Nat → Nat) (p1 : Int32)  : kd_MI l yX10_isOfKind wsX10_isOfKind ({ frames := 0, cells := 0, slots := 0, locals := 0 }) [.ref (dq 1), .int p1] g (kd_dc dq) sz (fun r (_ : Unit) => r = sp_isOfKind_1 p1) (fun _ => (kd_dc dq)) 0 0 := by
  refine kd_met (l := l) (y := yX10_isOfKind) (ws := wsX10_isOfKind) (rm := { frames := 0, cells := 0, slots := 0, locals := 0 }) (av := [.ref (dq 1), .int p1]) (g := g) (WS := (kd_dc dq)) (sz := sz) (mc := 0) (ms := 0) (cc := cX10_isOfKind) (maxL := 2) (ret := (some .boolean)) (own := RX10) (fun A => va_Qi (fun r (_ : Unit) => r = sp_isOfKind_1 p1) (fun u t => kd_post g A (kd_dc dq) t) A) (by decide) rfl rfl (Nat.le_of_ble_eq_true rfl) ?_
  intro p e s m below meth c A ls hx hb hr hml hts hown hlocks hnm hA hP hK hD hS hE hl
  have hl : lv_has ls 2 [(0, .ref (dq 1)), (1, .int p1)] := hl
  refine lv_iload_n hx hb dX10_isOfKind_0 rfl (lv_at hl 1 rfl) ?_
  by_cases c_1_0 : p1 = 0
  · refine lv_tableIn (off := 35) (tgt := 36) hx hb dX10_isOfKind_1 (by rw [c_1_0]; decide) (by rw [c_1_0]; decide) (by rw [c_1_0]; rfl) (by decide) ?_
    refine lv_iconst (v := 1) hx hb dX10_isOfKind_36 (by decide) ?_
    exact kd_zret hx hb hr hlocks hK hS dX10_isOfKind_37 (Or.inr rfl) (()) (by rw [sp_isOfKind_1, if_pos c_1_0]) hP hD
  · by_cases c_1_1 : p1 = 1
    · refine lv_tableIn (off := 37) (tgt := 38) hx hb dX10_isOfKind_1 (by rw [c_1_1]; decide) (by rw [c_1_1]; decide) (by rw [c_1_1]; rfl) (by decide) ?_
      refine lv_aload_n hx hb dX10_isOfKind_38 rfl (lv_at hl 0 rfl) ?_
      refine va_instE hx hb hown (hts (.classLink RX10 21 "KingdomAtDice$Heavy") (by decide +kernel)) (va_recv hK hP (ci := 3) (q0 := 1) rfl rfl) dX10_isOfKind_39 ?_
      exact kd_zret hx hb hr hlocks hK hS dX10_isOfKind_42 (Or.inr rfl) (()) (by rw [sp_isOfKind_1, if_neg c_1_0, if_pos c_1_1]) hP hD
    · by_cases c_1_2 : p1 = 2
      · refine lv_tableIn (off := 42) (tgt := 43) hx hb dX10_isOfKind_1 (by rw [c_1_2]; decide) (by rw [c_1_2]; decide) (by rw [c_1_2]; rfl) (by decide) ?_
        refine lv_aload_n hx hb dX10_isOfKind_43 rfl (lv_at hl 0 rfl) ?_
        refine va_instNo (C := "KingdomAtDice$Heavy") hx hb hown (hts (.classLink RX10 26 "KingdomAtDice$Twins") (by decide +kernel)) (kd_NC hE 4 rfl) (va_recv hK hP (ci := 3) (q0 := 1) rfl rfl) dX10_isOfKind_44 ?_
        exact kd_zret hx hb hr hlocks hK hS dX10_isOfKind_47 (Or.inl rfl) (()) (by rw [sp_isOfKind_1, if_neg c_1_0, if_neg c_1_1, if_pos c_1_2]) hP hD
      · by_cases c_1_3 : p1 = 3
        · refine lv_tableIn (off := 47) (tgt := 48) hx hb dX10_isOfKind_1 (by rw [c_1_3]; decide) (by rw [c_1_3]; decide) (by rw [c_1_3]; rfl) (by decide) ?_
          refine lv_aload_n hx hb dX10_isOfKind_48 rfl (lv_at hl 0 rfl) ?_
          refine va_instNo (C := "KingdomAtDice$Heavy") hx hb hown (hts (.classLink RX10 29 "KingdomAtDice$Light") (by decide +kernel)) (kd_NC hE 5 rfl) (va_recv hK hP (ci := 3) (q0 := 1) rfl rfl) dX10_isOfKind_49 ?_
          exact kd_zret hx hb hr hlocks hK hS dX10_isOfKind_52 (Or.inl rfl) (()) (by rw [sp_isOfKind_1, if_neg c_1_0, if_neg c_1_1, if_neg c_1_2, if_pos c_1_3]) hP hD
        · by_cases c_1_4 : p1 = 4
          · refine lv_tableIn (off := 52) (tgt := 53) hx hb dX10_isOfKind_1 (by rw [c_1_4]; decide) (by rw [c_1_4]; decide) (by rw [c_1_4]; rfl) (by decide) ?_
            refine lv_aload_n hx hb dX10_isOfKind_53 rfl (lv_at hl 0 rfl) ?_
            refine va_instNo (C := "KingdomAtDice$Heavy") hx hb hown (hts (.classLink RX10 32 "KingdomAtDice$Bone") (by decide +kernel)) (kd_NC hE 6 rfl) (va_recv hK hP (ci := 3) (q0 := 1) rfl rfl) dX10_isOfKind_54 ?_
            exact kd_zret hx hb hr hlocks hK hS dX10_isOfKind_57 (Or.inl rfl) (()) (by rw [sp_isOfKind_1, if_neg c_1_0, if_neg c_1_1, if_neg c_1_2, if_neg c_1_3, if_pos c_1_4]) hP hD
          · refine lv_tableOut (tgt := 58) hx hb dX10_isOfKind_1 (by have z0 := kd_ne2 c_1_0 (k := 0) (by decide); have z1 := kd_ne2 c_1_1 (k := 1) (by decide); have z2 := kd_ne2 c_1_2 (k := 2) (by decide); have z3 := kd_ne2 c_1_3 (k := 3) (by decide); have z4 := kd_ne2 c_1_4 (k := 4) (by decide); omega) (by decide) ?_
            refine lv_iconst (v := 0) hx hb dX10_isOfKind_58 (by decide) ?_
            exact kd_zret hx hb hr hlocks hK hS dX10_isOfKind_59 (Or.inl rfl) (()) (by rw [sp_isOfKind_1, if_neg c_1_0, if_neg c_1_1, if_neg c_1_2, if_neg c_1_3, if_neg c_1_4]) hP hD
/-- what KingdomAtDice.isOfKind answers and leaves, by its instructions -/
def sp_isOfKind_2 (p1 : Int32) : Int32 :=
  if p1 = 0 then
    1
  else
    if p1 = 1 then
      0
    else
      if p1 = 2 then
        1
      else
        if p1 = 3 then
          0
        else
          if p1 = 4 then
            0
          else
            0
theorem zb_isOfKind_2 (p1 : Int32) : sp_isOfKind_2 p1 = 0 ∨ sp_isOfKind_2 p1 = 1 := by
  unfold sp_isOfKind_2
  repeat' split
  all_goals first | exact Or.inl rfl | exact Or.inr rfl | simp
set_option maxHeartbeats 4000000 in
set_option maxRecDepth 100000 in
theorem c_isOfKind_2 (l : Launch) (g : kd_G) (sz : Nat) (dq : Nat → Nat) (p1 : Int32)  : kd_MI l yX10_isOfKind wsX10_isOfKind ({ frames := 0, cells := 0, slots := 0, locals := 0 }) [.ref (dq 2), .int p1] g (kd_dc dq) sz (fun r (_ : Unit) => r = sp_isOfKind_2 p1) (fun _ => (kd_dc dq)) 0 0 := by
  refine kd_met (l := l) (y := yX10_isOfKind) (ws := wsX10_isOfKind) (rm := { frames := 0, cells := 0, slots := 0, locals := 0 }) (av := [.ref (dq 2), .int p1]) (g := g) (WS := (kd_dc dq)) (sz := sz) (mc := 0) (ms := 0) (cc := cX10_isOfKind) (maxL := 2) (ret := (some .boolean)) (own := RX10) (fun A => va_Qi (fun r (_ : Unit) => r = sp_isOfKind_2 p1) (fun u t => kd_post g A (kd_dc dq) t) A) (by decide) rfl rfl (Nat.le_of_ble_eq_true rfl) ?_
  intro p e s m below meth c A ls hx hb hr hml hts hown hlocks hnm hA hP hK hD hS hE hl
  have hl : lv_has ls 2 [(0, .ref (dq 2)), (1, .int p1)] := hl
  refine lv_iload_n hx hb dX10_isOfKind_0 rfl (lv_at hl 1 rfl) ?_
  by_cases c_1_0 : p1 = 0
  · refine lv_tableIn (off := 35) (tgt := 36) hx hb dX10_isOfKind_1 (by rw [c_1_0]; decide) (by rw [c_1_0]; decide) (by rw [c_1_0]; rfl) (by decide) ?_
    refine lv_iconst (v := 1) hx hb dX10_isOfKind_36 (by decide) ?_
    exact kd_zret hx hb hr hlocks hK hS dX10_isOfKind_37 (Or.inr rfl) (()) (by rw [sp_isOfKind_2, if_pos c_1_0]) hP hD
  · by_cases c_1_1 : p1 = 1
    · refine lv_tableIn (off := 37) (tgt := 38) hx hb dX10_isOfKind_1 (by rw [c_1_1]; decide) (by rw [c_1_1]; decide) (by rw [c_1_1]; rfl) (by decide) ?_
      refine lv_aload_n hx hb dX10_isOfKind_38 rfl (lv_at hl 0 rfl) ?_
      refine va_instNo (C := "KingdomAtDice$Twins") hx hb hown (hts (.classLink RX10 21 "KingdomAtDice$Heavy") (by decide +kernel)) (kd_NC hE 7 rfl) (va_recv hK hP (ci := 9) (q0 := 2) rfl rfl) dX10_isOfKind_39 ?_
      exact kd_zret hx hb hr hlocks hK hS dX10_isOfKind_42 (Or.inl rfl) (()) (by rw [sp_isOfKind_2, if_neg c_1_0, if_pos c_1_1]) hP hD
    · by_cases c_1_2 : p1 = 2
      · refine lv_tableIn (off := 42) (tgt := 43) hx hb dX10_isOfKind_1 (by rw [c_1_2]; decide) (by rw [c_1_2]; decide) (by rw [c_1_2]; rfl) (by decide) ?_
        refine lv_aload_n hx hb dX10_isOfKind_43 rfl (lv_at hl 0 rfl) ?_
        refine va_instE hx hb hown (hts (.classLink RX10 26 "KingdomAtDice$Twins") (by decide +kernel)) (va_recv hK hP (ci := 9) (q0 := 2) rfl rfl) dX10_isOfKind_44 ?_
        exact kd_zret hx hb hr hlocks hK hS dX10_isOfKind_47 (Or.inr rfl) (()) (by rw [sp_isOfKind_2, if_neg c_1_0, if_neg c_1_1, if_pos c_1_2]) hP hD
      · by_cases c_1_3 : p1 = 3
        · refine lv_tableIn (off := 47) (tgt := 48) hx hb dX10_isOfKind_1 (by rw [c_1_3]; decide) (by rw [c_1_3]; decide) (by rw [c_1_3]; rfl) (by decide) ?_
          refine lv_aload_n hx hb dX10_isOfKind_48 rfl (lv_at hl 0 rfl) ?_
          refine va_instNo (C := "KingdomAtDice$Twins") hx hb hown (hts (.classLink RX10 29 "KingdomAtDice$Light") (by decide +kernel)) (kd_NC hE 8 rfl) (va_recv hK hP (ci := 9) (q0 := 2) rfl rfl) dX10_isOfKind_49 ?_
          exact kd_zret hx hb hr hlocks hK hS dX10_isOfKind_52 (Or.inl rfl) (()) (by rw [sp_isOfKind_2, if_neg c_1_0, if_neg c_1_1, if_neg c_1_2, if_pos c_1_3]) hP hD
        · by_cases c_1_4 : p1 = 4
          · refine lv_tableIn (off := 52) (tgt := 53) hx hb dX10_isOfKind_1 (by rw [c_1_4]; decide) (by rw [c_1_4]; decide) (by rw [c_1_4]; rfl) (by decide) ?_
            refine lv_aload_n hx hb dX10_isOfKind_53 rfl (lv_at hl 0 rfl) ?_
            refine va_instNo (C := "KingdomAtDice$Twins") hx hb hown (hts (.classLink RX10 32 "KingdomAtDice$Bone") (by decide +kernel)) (kd_NC hE 9 rfl) (va_recv hK hP (ci := 9) (q0 := 2) rfl rfl) dX10_isOfKind_54 ?_
            exact kd_zret hx hb hr hlocks hK hS dX10_isOfKind_57 (Or.inl rfl) (()) (by rw [sp_isOfKind_2, if_neg c_1_0, if_neg c_1_1, if_neg c_1_2, if_neg c_1_3, if_pos c_1_4]) hP hD
          · refine lv_tableOut (tgt := 58) hx hb dX10_isOfKind_1 (by have z0 := kd_ne2 c_1_0 (k := 0) (by decide); have z1 := kd_ne2 c_1_1 (k := 1) (by decide); have z2 := kd_ne2 c_1_2 (k := 2) (by decide); have z3 := kd_ne2 c_1_3 (k := 3) (by decide); have z4 := kd_ne2 c_1_4 (k := 4) (by decide); omega) (by decide) ?_
            refine lv_iconst (v := 0) hx hb dX10_isOfKind_58 (by decide) ?_
            exact kd_zret hx hb hr hlocks hK hS dX10_isOfKind_59 (Or.inl rfl) (()) (by rw [sp_isOfKind_2, if_neg c_1_0, if_neg c_1_1, if_neg c_1_2, if_neg c_1_3, if_neg c_1_4]) hP hD
/-- what KingdomAtDice.isOfKind answers and leaves, by its instructions -/
def sp_isOfKind_3 (p1 : Int32) : Int32 :=
  if p1 = 0 then
    1
  else
    if p1 = 1 then
      0
    else
      if p1 = 2 then
        0
      else
        if p1 = 3 then
          1
        else
          if p1 = 4 then
            0
          else
            0
theorem zb_isOfKind_3 (p1 : Int32) : sp_isOfKind_3 p1 = 0 ∨ sp_isOfKind_3 p1 = 1 := by
  unfold sp_isOfKind_3
  repeat' split
  all_goals first | exact Or.inl rfl | exact Or.inr rfl | simp
set_option maxHeartbeats 4000000 in
set_option maxRecDepth 100000 in
theorem c_isOfKind_3 (l : Launch) (g : kd_G) (sz : Nat) (dq : Nat → Nat) (p1 : Int32)  : kd_MI l yX10_isOfKind wsX10_isOfKind ({ frames := 0, cells := 0, slots := 0, locals := 0 }) [.ref (dq 3), .int p1] g (kd_dc dq) sz (fun r (_ : Unit) => r = sp_isOfKind_3 p1) (fun _ => (kd_dc dq)) 0 0 := by
  refine kd_met (l := l) (y := yX10_isOfKind) (ws := wsX10_isOfKind) (rm := { frames := 0, cells := 0, slots := 0, locals := 0 }) (av := [.ref (dq 3), .int p1]) (g := g) (WS := (kd_dc dq)) (sz := sz) (mc := 0) (ms := 0) (cc := cX10_isOfKind) (maxL := 2) (ret := (some .boolean)) (own := RX10) (fun A => va_Qi (fun r (_ : Unit) => r = sp_isOfKind_3 p1) (fun u t => kd_post g A (kd_dc dq) t) A) (by decide) rfl rfl (Nat.le_of_ble_eq_true rfl) ?_
  intro p e s m below meth c A ls hx hb hr hml hts hown hlocks hnm hA hP hK hD hS hE hl
  have hl : lv_has ls 2 [(0, .ref (dq 3)), (1, .int p1)] := hl
  refine lv_iload_n hx hb dX10_isOfKind_0 rfl (lv_at hl 1 rfl) ?_
  by_cases c_1_0 : p1 = 0
  · refine lv_tableIn (off := 35) (tgt := 36) hx hb dX10_isOfKind_1 (by rw [c_1_0]; decide) (by rw [c_1_0]; decide) (by rw [c_1_0]; rfl) (by decide) ?_
    refine lv_iconst (v := 1) hx hb dX10_isOfKind_36 (by decide) ?_
    exact kd_zret hx hb hr hlocks hK hS dX10_isOfKind_37 (Or.inr rfl) (()) (by rw [sp_isOfKind_3, if_pos c_1_0]) hP hD
  · by_cases c_1_1 : p1 = 1
    · refine lv_tableIn (off := 37) (tgt := 38) hx hb dX10_isOfKind_1 (by rw [c_1_1]; decide) (by rw [c_1_1]; decide) (by rw [c_1_1]; rfl) (by decide) ?_
      refine lv_aload_n hx hb dX10_isOfKind_38 rfl (lv_at hl 0 rfl) ?_
      refine va_instNo (C := "KingdomAtDice$Light") hx hb hown (hts (.classLink RX10 21 "KingdomAtDice$Heavy") (by decide +kernel)) (kd_NC hE 10 rfl) (va_recv hK hP (ci := 4) (q0 := 3) rfl rfl) dX10_isOfKind_39 ?_
      exact kd_zret hx hb hr hlocks hK hS dX10_isOfKind_42 (Or.inl rfl) (()) (by rw [sp_isOfKind_3, if_neg c_1_0, if_pos c_1_1]) hP hD
    · by_cases c_1_2 : p1 = 2
      · refine lv_tableIn (off := 42) (tgt := 43) hx hb dX10_isOfKind_1 (by rw [c_1_2]; decide) (by rw [c_1_2]; decide) (by rw [c_1_2]; rfl) (by decide) ?_
        refine lv_aload_n hx hb dX10_isOfKind_43 rfl (lv_at hl 0 rfl) ?_
        refine va_instNo (C := "KingdomAtDice$Light") hx hb hown (hts (.classLink RX10 26 "KingdomAtDice$Twins") (by decide +kernel)) (kd_NC hE 11 rfl) (va_recv hK hP (ci := 4) (q0 := 3) rfl rfl) dX10_isOfKind_44 ?_
        exact kd_zret hx hb hr hlocks hK hS dX10_isOfKind_47 (Or.inl rfl) (()) (by rw [sp_isOfKind_3, if_neg c_1_0, if_neg c_1_1, if_pos c_1_2]) hP hD
      · by_cases c_1_3 : p1 = 3
        · refine lv_tableIn (off := 47) (tgt := 48) hx hb dX10_isOfKind_1 (by rw [c_1_3]; decide) (by rw [c_1_3]; decide) (by rw [c_1_3]; rfl) (by decide) ?_
          refine lv_aload_n hx hb dX10_isOfKind_48 rfl (lv_at hl 0 rfl) ?_
          refine va_instE hx hb hown (hts (.classLink RX10 29 "KingdomAtDice$Light") (by decide +kernel)) (va_recv hK hP (ci := 4) (q0 := 3) rfl rfl) dX10_isOfKind_49 ?_
          exact kd_zret hx hb hr hlocks hK hS dX10_isOfKind_52 (Or.inr rfl) (()) (by rw [sp_isOfKind_3, if_neg c_1_0, if_neg c_1_1, if_neg c_1_2, if_pos c_1_3]) hP hD
        · by_cases c_1_4 : p1 = 4
          · refine lv_tableIn (off := 52) (tgt := 53) hx hb dX10_isOfKind_1 (by rw [c_1_4]; decide) (by rw [c_1_4]; decide) (by rw [c_1_4]; rfl) (by decide) ?_
            refine lv_aload_n hx hb dX10_isOfKind_53 rfl (lv_at hl 0 rfl) ?_
            refine va_instNo (C := "KingdomAtDice$Light") hx hb hown (hts (.classLink RX10 32 "KingdomAtDice$Bone") (by decide +kernel)) (kd_NC hE 12 rfl) (va_recv hK hP (ci := 4) (q0 := 3) rfl rfl) dX10_isOfKind_54 ?_
            exact kd_zret hx hb hr hlocks hK hS dX10_isOfKind_57 (Or.inl rfl) (()) (by rw [sp_isOfKind_3, if_neg c_1_0, if_neg c_1_1, if_neg c_1_2, if_neg c_1_3, if_pos c_1_4]) hP hD
          · refine lv_tableOut (tgt := 58) hx hb dX10_isOfKind_1 (by have z0 := kd_ne2 c_1_0 (k := 0) (by decide); have z1 := kd_ne2 c_1_1 (k := 1) (by decide); have z2 := kd_ne2 c_1_2 (k := 2) (by decide); have z3 := kd_ne2 c_1_3 (k := 3) (by decide); have z4 := kd_ne2 c_1_4 (k := 4) (by decide); omega) (by decide) ?_
            refine lv_iconst (v := 0) hx hb dX10_isOfKind_58 (by decide) ?_
            exact kd_zret hx hb hr hlocks hK hS dX10_isOfKind_59 (Or.inl rfl) (()) (by rw [sp_isOfKind_3, if_neg c_1_0, if_neg c_1_1, if_neg c_1_2, if_neg c_1_3, if_neg c_1_4]) hP hD
/-- what KingdomAtDice.isOfKind answers and leaves, by its instructions -/
def sp_isOfKind_4 (p1 : Int32) : Int32 :=
  if p1 = 0 then
    1
  else
    if p1 = 1 then
      1
    else
      if p1 = 2 then
        0
      else
        if p1 = 3 then
          0
        else
          if p1 = 4 then
            1
          else
            0
theorem zb_isOfKind_4 (p1 : Int32) : sp_isOfKind_4 p1 = 0 ∨ sp_isOfKind_4 p1 = 1 := by
  unfold sp_isOfKind_4
  repeat' split
  all_goals first | exact Or.inl rfl | exact Or.inr rfl | simp
set_option maxHeartbeats 4000000 in
set_option maxRecDepth 100000 in
theorem c_isOfKind_4 (l : Launch) (g : kd_G) (sz : Nat) (dq : Nat → Nat) (p1 : Int32)  : kd_MI l yX10_isOfKind wsX10_isOfKind ({ frames := 0, cells := 0, slots := 0, locals := 0 }) [.ref (dq 4), .int p1] g (kd_dc dq) sz (fun r (_ : Unit) => r = sp_isOfKind_4 p1) (fun _ => (kd_dc dq)) 0 0 := by
  refine kd_met (l := l) (y := yX10_isOfKind) (ws := wsX10_isOfKind) (rm := { frames := 0, cells := 0, slots := 0, locals := 0 }) (av := [.ref (dq 4), .int p1]) (g := g) (WS := (kd_dc dq)) (sz := sz) (mc := 0) (ms := 0) (cc := cX10_isOfKind) (maxL := 2) (ret := (some .boolean)) (own := RX10) (fun A => va_Qi (fun r (_ : Unit) => r = sp_isOfKind_4 p1) (fun u t => kd_post g A (kd_dc dq) t) A) (by decide) rfl rfl (Nat.le_of_ble_eq_true rfl) ?_
  intro p e s m below meth c A ls hx hb hr hml hts hown hlocks hnm hA hP hK hD hS hE hl
  have hl : lv_has ls 2 [(0, .ref (dq 4)), (1, .int p1)] := hl
  refine lv_iload_n hx hb dX10_isOfKind_0 rfl (lv_at hl 1 rfl) ?_
  by_cases c_1_0 : p1 = 0
  · refine lv_tableIn (off := 35) (tgt := 36) hx hb dX10_isOfKind_1 (by rw [c_1_0]; decide) (by rw [c_1_0]; decide) (by rw [c_1_0]; rfl) (by decide) ?_
    refine lv_iconst (v := 1) hx hb dX10_isOfKind_36 (by decide) ?_
    exact kd_zret hx hb hr hlocks hK hS dX10_isOfKind_37 (Or.inr rfl) (()) (by rw [sp_isOfKind_4, if_pos c_1_0]) hP hD
  · by_cases c_1_1 : p1 = 1
    · refine lv_tableIn (off := 37) (tgt := 38) hx hb dX10_isOfKind_1 (by rw [c_1_1]; decide) (by rw [c_1_1]; decide) (by rw [c_1_1]; rfl) (by decide) ?_
      refine lv_aload_n hx hb dX10_isOfKind_38 rfl (lv_at hl 0 rfl) ?_
      refine va_instY (C := "KingdomAtDice$Bone") hx hb hown (hts (.classLink RX10 21 "KingdomAtDice$Heavy") (by decide +kernel)) (kd_N hE 58 rfl) (va_recv hK hP (ci := 0) (q0 := 4) rfl rfl) dX10_isOfKind_39 ?_
      exact kd_zret hx hb hr hlocks hK hS dX10_isOfKind_42 (Or.inr rfl) (()) (by rw [sp_isOfKind_4, if_neg c_1_0, if_pos c_1_1]) hP hD
    · by_cases c_1_2 : p1 = 2
      · refine lv_tableIn (off := 42) (tgt := 43) hx hb dX10_isOfKind_1 (by rw [c_1_2]; decide) (by rw [c_1_2]; decide) (by rw [c_1_2]; rfl) (by decide) ?_
        refine lv_aload_n hx hb dX10_isOfKind_43 rfl (lv_at hl 0 rfl) ?_
        refine va_instNo (C := "KingdomAtDice$Bone") hx hb hown (hts (.classLink RX10 26 "KingdomAtDice$Twins") (by decide +kernel)) (kd_NC hE 13 rfl) (va_recv hK hP (ci := 0) (q0 := 4) rfl rfl) dX10_isOfKind_44 ?_
        exact kd_zret hx hb hr hlocks hK hS dX10_isOfKind_47 (Or.inl rfl) (()) (by rw [sp_isOfKind_4, if_neg c_1_0, if_neg c_1_1, if_pos c_1_2]) hP hD
      · by_cases c_1_3 : p1 = 3
        · refine lv_tableIn (off := 47) (tgt := 48) hx hb dX10_isOfKind_1 (by rw [c_1_3]; decide) (by rw [c_1_3]; decide) (by rw [c_1_3]; rfl) (by decide) ?_
          refine lv_aload_n hx hb dX10_isOfKind_48 rfl (lv_at hl 0 rfl) ?_
          refine va_instNo (C := "KingdomAtDice$Bone") hx hb hown (hts (.classLink RX10 29 "KingdomAtDice$Light") (by decide +kernel)) (kd_NC hE 14 rfl) (va_recv hK hP (ci := 0) (q0 := 4) rfl rfl) dX10_isOfKind_49 ?_
          exact kd_zret hx hb hr hlocks hK hS dX10_isOfKind_52 (Or.inl rfl) (()) (by rw [sp_isOfKind_4, if_neg c_1_0, if_neg c_1_1, if_neg c_1_2, if_pos c_1_3]) hP hD
        · by_cases c_1_4 : p1 = 4
          · refine lv_tableIn (off := 52) (tgt := 53) hx hb dX10_isOfKind_1 (by rw [c_1_4]; decide) (by rw [c_1_4]; decide) (by rw [c_1_4]; rfl) (by decide) ?_
            refine lv_aload_n hx hb dX10_isOfKind_53 rfl (lv_at hl 0 rfl) ?_
            refine va_instE hx hb hown (hts (.classLink RX10 32 "KingdomAtDice$Bone") (by decide +kernel)) (va_recv hK hP (ci := 0) (q0 := 4) rfl rfl) dX10_isOfKind_54 ?_
            exact kd_zret hx hb hr hlocks hK hS dX10_isOfKind_57 (Or.inr rfl) (()) (by rw [sp_isOfKind_4, if_neg c_1_0, if_neg c_1_1, if_neg c_1_2, if_neg c_1_3, if_pos c_1_4]) hP hD
          · refine lv_tableOut (tgt := 58) hx hb dX10_isOfKind_1 (by have z0 := kd_ne2 c_1_0 (k := 0) (by decide); have z1 := kd_ne2 c_1_1 (k := 1) (by decide); have z2 := kd_ne2 c_1_2 (k := 2) (by decide); have z3 := kd_ne2 c_1_3 (k := 3) (by decide); have z4 := kd_ne2 c_1_4 (k := 4) (by decide); omega) (by decide) ?_
            refine lv_iconst (v := 0) hx hb dX10_isOfKind_58 (by decide) ?_
            exact kd_zret hx hb hr hlocks hK hS dX10_isOfKind_59 (Or.inl rfl) (()) (by rw [sp_isOfKind_4, if_neg c_1_0, if_neg c_1_1, if_neg c_1_2, if_neg c_1_3, if_neg c_1_4]) hP hD
def kd_ok (k : Nat) (p1 : Int32) : Int32 := match k with
  | 0 => sp_isOfKind_0 p1
  | 1 => sp_isOfKind_1 p1
  | 2 => sp_isOfKind_2 p1
  | 3 => sp_isOfKind_3 p1
  | _ => sp_isOfKind_4 p1
/-- what KingdomAtDice.hasDice answers and leaves, by its instructions -/
def sp_X10_hasDice (T : Nat) (p0 : Int32) : Int32 :=
  if (sp_X7_hasHall T) = 0 then
    0
  else
    if p0 = 0 then
      1
    else
      if p0 = 1 then
        1
      else
        0
theorem zb_X10_hasDice (T : Nat) (p0 : Int32) : sp_X10_hasDice T p0 = 0 ∨ sp_X10_hasDice T p0 = 1 := by
  unfold sp_X10_hasDice
  repeat' split
  all_goals first | exact Or.inl rfl | exact Or.inr rfl | simp
set_option maxHeartbeats 4000000 in
set_option maxRecDepth 100000 in
theorem c_X10_hasDice (l : Launch) (g : kd_G) (sz : Nat) (x : Nat) (pg : Nat) (ka : Nat) (od : Nat) (dr : Nat) (so : Nat) (so2 : Nat) (dq : Nat → Nat) (k0 : Nat) (k1 : Nat) (ik : Int32) (nh : Nat) (sa : Nat) (sn : Nat) (T : Nat) (go : Int32) (th : Nat) (sm : Nat) (p0 : Int32) (hT : T ≤ 6) : kd_MI l yX10_hasDice wsX10_hasDice ({ frames := 1, cells := 0, slots := 0, locals := 20 }) [.ref x, .int p0] g [(x, .inr (10, [.ref pg, .ref ka, .ref od, .ref dr, .ref so, .ref so2, .ref (dq k0), .ref (dq k1), .int ik, .int (nI nh)])), (so, .inr (7, [.ref sa, .ref sn, .int (nI T), .int go, .int (nI th), .int (nI sm)]))] sz (fun r (_ : Unit) => r = sp_X10_hasDice T p0) (fun _ => [(x, .inr (10, [.ref pg, .ref ka, .ref od, .ref dr, .ref so, .ref so2, .ref (dq k0), .ref (dq k1), .int ik, .int (nI nh)])), (so, .inr (7, [.ref sa, .ref sn, .int (nI T), .int go, .int (nI th), .int (nI sm)]))]) 0 0 := by
  refine kd_met (l := l) (y := yX10_hasDice) (ws := wsX10_hasDice) (rm := { frames := 1, cells := 0, slots := 0, locals := 20 }) (av := [.ref x, .int p0]) (g := g) (WS := [(x, .inr (10, [.ref pg, .ref ka, .ref od, .ref dr, .ref so, .ref so2, .ref (dq k0), .ref (dq k1), .int ik, .int (nI nh)])), (so, .inr (7, [.ref sa, .ref sn, .int (nI T), .int go, .int (nI th), .int (nI sm)]))]) (sz := sz) (mc := 0) (ms := 0) (cc := cX10_hasDice) (maxL := 2) (ret := (some .boolean)) (own := RX10) (fun A => va_Qi (fun r (_ : Unit) => r = sp_X10_hasDice T p0) (fun u t => kd_post g A [(x, .inr (10, [.ref pg, .ref ka, .ref od, .ref dr, .ref so, .ref so2, .ref (dq k0), .ref (dq k1), .int ik, .int (nI nh)])), (so, .inr (7, [.ref sa, .ref sn, .int (nI T), .int go, .int (nI th), .int (nI sm)]))] t) A) (by decide) rfl rfl (Nat.le_of_ble_eq_true rfl) ?_
  intro p e s m below meth c A ls hx hb hr hml hts hown hlocks hnm hA hP hK hD hS hE hl
  have hl : lv_has ls 2 [(0, .ref x), (1, .int p0)] := hl
  have hiX10 : ∀ w ∈ u_ws RX10 TX10 10, w ∈ wsX10_hasDice := by decide +kernel
  refine lv_aload_n hx hb dX10_hasDice_0 rfl (lv_at hl 0 rfl) ?_
  refine va_get (ci := 10) (v := .ref so) (C := RX10) (T := TX10) (N := 10) hx hb hts hiX10 hown hK hP (0) rfl rfl 4 (by decide) (hts (.fieldLink RX10 56 "KingdomAtDice" "now" "LKingdomAtDice$Standing;") (by decide +kernel)) (fun _ h9 => h9) rfl dX10_hasDice_1 ?_
  refine kd_callIK (g := g) (wc := [(so, .inr (7, [.ref sa, .ref sn, .int (nI T), .int go, .int (nI th), .int (nI sm)]))]) (va_runVN (mc := 0) (ms := 0) (rm := { frames := 0, cells := 0, slots := 0, locals := 0 }) (C := RX7) (host := "KingdomAtDice") (As := []) (rest := []) ⟨hx, hb, hml, hown, hts⟩ (c_X7_hasHall l g s.heap.size so sa sn T go th sm hT) ⟨va_cnB 0 hts gX10_hasDice_X7_hasHall_n161 rfl rfl rfl (kd_N hE 24 rfl) (hts (.initialized RX7) (by decide +kernel)) (by decide +kernel) ⟨Nat.le_of_ble_eq_true rfl, Nat.le_of_ble_eq_true rfl⟩, (hts (.instanceMethod yX7_hasHall) (by decide +kernel)), (hts (.selects RX7 yX7_hasHall yX7_hasHall) (by decide +kernel))⟩ (kd_preV (wc := [(so, .inr (7, [.ref sa, .ref sn, .int (nI T), .int go, .int (nI th), .int (nI sm)]))]) (va_recv hK hP (ci := 7) (q0 := 1) rfl rfl) hP hD hS hA hK hE [1] rfl (by decide)) rfl rfl hl.1 rfl (lv_room (Nat.le_of_ble_eq_true rfl)) dX10_hasDice_4 ⟨Nat.le_of_ble_eq_true rfl, Nat.le_of_ble_eq_true rfl⟩) hP hD hS hA [1] rfl (fun r_4 _ H locs hw hP hS => ?_)
  subst hw
  refine lv_if_eq (tgt := 23) hx hb dX10_hasDice_7 (by decide) (fun c_7 => ?_) (fun c_7 => ?_)
  · refine lv_iconst (v := 0) hx hb dX10_hasDice_23 (by decide) ?_
    exact kd_zret hx hb hr hlocks hK hS dX10_hasDice_24 (Or.inl rfl) (()) (by rw [sp_X10_hasDice, if_pos c_7]) hP hD
  · refine lv_iload_n hx hb dX10_hasDice_10 rfl (lv_at hl 1 rfl) ?_
    refine lv_if_eq (tgt := 19) hx hb dX10_hasDice_11 (by decide) (fun c_11 => ?_) (fun c_11 => ?_)
    · refine lv_iconst (v := 1) hx hb dX10_hasDice_19 (by decide) ?_
      refine lv_goto (tgt := 24) hx hb dX10_hasDice_20 (by decide) ?_
      exact kd_zret hx hb hr hlocks hK hS dX10_hasDice_24 (Or.inr rfl) (()) (by rw [sp_X10_hasDice, if_neg c_7, if_pos c_11]) hP hD
    · refine lv_iload_n hx hb dX10_hasDice_14 rfl (lv_at hl 1 rfl) ?_
      refine lv_iconst (v := 1) hx hb dX10_hasDice_15 (by decide) ?_
      refine lv_icmp_ne (tgt := 23) hx hb dX10_hasDice_16 (by decide) (fun c_16 => ?_) (fun c_16 => ?_)
      · refine lv_iconst (v := 0) hx hb dX10_hasDice_23 (by decide) ?_
        exact kd_zret hx hb hr hlocks hK hS dX10_hasDice_24 (Or.inl rfl) (()) (by rw [sp_X10_hasDice, if_neg c_7, if_neg c_11, if_neg c_16]) hP hD
      · refine lv_iconst (v := 1) hx hb dX10_hasDice_19 (by decide) ?_
        refine lv_goto (tgt := 24) hx hb dX10_hasDice_20 (by decide) ?_
        exact kd_zret hx hb hr hlocks hK hS dX10_hasDice_24 (Or.inr rfl) (()) (by rw [sp_X10_hasDice, if_neg c_7, if_neg c_11, if_pos c_16]) hP hD
set_option maxHeartbeats 4000000 in
set_option maxRecDepth 100000 in
theorem c_X10_diceOf (l : Launch) (g : kd_G) (sz : Nat) (x : Nat) (pg : Nat) (ka : Nat) (od : Nat) (dr : Nat) (so : Nat) (so2 : Nat) (dq : Nat → Nat) (k0 : Nat) (k1 : Nat) (ik : Int32) (nh : Nat) (p0 : Int32)  : kd_MR l yX10_diceOf wsX10_diceOf ({ frames := 0, cells := 0, slots := 0, locals := 0 }) [.ref x, .int p0] g [(x, .inr (10, [.ref pg, .ref ka, .ref od, .ref dr, .ref so, .ref so2, .ref (dq k0), .ref (dq k1), .int ik, .int (nI nh)]))] sz (fun (u : Nat) => u = (if p0 = 0 then k0 else k1)) (fun u => dq u) (fun _ => [(x, .inr (10, [.ref pg, .ref ka, .ref od, .ref dr, .ref so, .ref so2, .ref (dq k0), .ref (dq k1), .int ik, .int (nI nh)]))]) 0 0 := by
  refine kd_met (l := l) (y := yX10_diceOf) (ws := wsX10_diceOf) (rm := { frames := 0, cells := 0, slots := 0, locals := 0 }) (av := [.ref x, .int p0]) (g := g) (WS := [(x, .inr (10, [.ref pg, .ref ka, .ref od, .ref dr, .ref so, .ref so2, .ref (dq k0), .ref (dq k1), .int ik, .int (nI nh)]))]) (sz := sz) (mc := 0) (ms := 0) (cc := cX10_diceOf) (maxL := 2) (ret := (some (.object "KingdomAtDice$Dice"))) (own := RX10) (fun A => va_Qr (fun (u : Nat) => u = (if p0 = 0 then k0 else k1)) (fun u a t => a = (fun u => dq u) u ∧ kd_post g A [(x, .inr (10, [.ref pg, .ref ka, .ref od, .ref dr, .ref so, .ref so2, .ref (dq k0), .ref (dq k1), .int ik, .int (nI nh)]))] t) A) (by decide) rfl rfl (Nat.le_of_ble_eq_true rfl) ?_
  intro p e s m below meth c A ls hx hb hr hml hts hown hlocks hnm hA hP hK hD hS hE hl
  have hl : lv_has ls 2 [(0, .ref x), (1, .int p0)] := hl
  have hiX10 : ∀ w ∈ u_ws RX10 TX10 10, w ∈ wsX10_diceOf := by decide +kernel
  refine lv_iload_n hx hb dX10_diceOf_0 rfl (lv_at hl 1 rfl) ?_
  refine lv_if_ne (tgt := 11) hx hb dX10_diceOf_1 (by decide) (fun c_1 => ?_) (fun c_1 => ?_)
  · refine lv_aload_n hx hb dX10_diceOf_11 rfl (lv_at hl 0 rfl) ?_
    refine va_get (ci := 10) (v := .ref (dq k1)) (C := RX10) (T := TX10) (N := 10) hx hb hts hiX10 hown hK hP (0) rfl rfl 7 (by decide) (hts (.fieldLink RX10 67 "KingdomAtDice" "cousinDice" "LKingdomAtDice$Dice;") (by decide +kernel)) (fun _ h9 => h9) rfl dX10_diceOf_12 ?_
    exact kd_aret hx hb hr hlocks hK hS dX10_diceOf_15 (k1) (rfl) (by rw [if_neg c_1]) hP hD
  · refine lv_aload_n hx hb dX10_diceOf_4 rfl (lv_at hl 0 rfl) ?_
    refine va_get (ci := 10) (v := .ref (dq k0)) (C := RX10) (T := TX10) (N := 10) hx hb hts hiX10 hown hK hP (0) rfl rfl 6 (by decide) (hts (.fieldLink RX10 63 "KingdomAtDice" "kingDice" "LKingdomAtDice$Dice;") (by decide +kernel)) (fun _ h9 => h9) rfl dX10_diceOf_5 ?_
    refine lv_goto (tgt := 15) hx hb dX10_diceOf_8 (by decide) ?_
    exact kd_aret hx hb hr hlocks hK hS dX10_diceOf_15 (k0) (rfl) (by rw [if_pos c_1]) hP hD
theorem kd_if5 {c : Prop} {h : Decidable c} {a b : Nat} (ha : a < 5) (hb : b < 5) : (if c then a else b) < 5 := by split <;> assumption
/-- the kind by its letter -/
def kd_kl (x : Int32) : Nat := if sp_X10_isBelow (sp_J0_indexOf_0f7a4_1 ((x : Int32).toUInt32 % 65536).toInt32) 5 = 0 then 0 else (sp_J0_indexOf_0f7a4_1 ((x : Int32).toUInt32 % 65536).toInt32).toNatClampNeg
theorem kd_kl_lt (x : Int32) : kd_kl x < 5 := by
  unfold kd_kl
  split
  · decide
  · rename_i h
    exact kd_inlt (kd_belowN (n := 5) h (by decide))
set_option maxHeartbeats 4000000 in
set_option maxRecDepth 100000 in
theorem c_X10_diceByLetter (l : Launch) (g : kd_G) (sz : Nat) (x : Nat) (pg : Nat) (ka : Nat) (od : Nat) (dr : Nat) (so : Nat) (so2 : Nat) (dq : Nat → Nat) (k0 : Nat) (k1 : Nat) (ik : Int32) (nh : Nat) (p0 : Int32)  : kd_MR l yX10_diceByLetter wsX10_diceByLetter ({ frames := 4, cells := 0, slots := 0, locals := 91 }) [.ref x, .int p0] g ([(x, .inr (10, [.ref pg, .ref ka, .ref od, .ref dr, .ref so, .ref so2, .ref (dq k0), .ref (dq k1), .int ik, .int (nI nh)])), (ka, .inl (g.2.1 2, 5, .inr (.inr (.inr (.inr (fun j => some (dq j)))))))] ++ (kd_dc dq)) sz (fun (u : Nat) => u = (kd_kl p0)) (fun u => dq u) (fun _ => ([(x, .inr (10, [.ref pg, .ref ka, .ref od, .ref dr, .ref so, .ref so2, .ref (dq k0), .ref (dq k1), .int ik, .int (nI nh)])), (ka, .inl (g.2.1 2, 5, .inr (.inr (.inr (.inr (fun j => some (dq j)))))))] ++ (kd_dc dq))) 0 0 := by
  refine kd_met (l := l) (y := yX10_diceByLetter) (ws := wsX10_diceByLetter) (rm := { frames := 4, cells := 0, slots := 0, locals := 91 }) (av := [.ref x, .int p0]) (g := g) (WS := ([(x, .inr (10, [.ref pg, .ref ka, .ref od, .ref dr, .ref so, .ref so2, .ref (dq k0), .ref (dq k1), .int ik, .int (nI nh)])), (ka, .inl (g.2.1 2, 5, .inr (.inr (.inr (.inr (fun j => some (dq j)))))))] ++ (kd_dc dq))) (sz := sz) (mc := 0) (ms := 0) (cc := cX10_diceByLetter) (maxL := 3) (ret := (some (.object "KingdomAtDice$Dice"))) (own := RX10) (fun A => va_Qr (fun (u : Nat) => u = (kd_kl p0)) (fun u a t => a = (fun u => dq u) u ∧ kd_post g A ([(x, .inr (10, [.ref pg, .ref ka, .ref od, .ref dr, .ref so, .ref so2, .ref (dq k0), .ref (dq k1), .int ik, .int (nI nh)])), (ka, .inl (g.2.1 2, 5, .inr (.inr (.inr (.inr (fun j => some (dq j)))))))] ++ (kd_dc dq)) t) A) (by decide) rfl rfl (Nat.le_of_ble_eq_true rfl) ?_
  intro p e s m below meth c A ls hx hb hr hml hts hown hlocks hnm hA hP hK hD hS hE hl
  have hl : lv_has ls 3 [(0, .ref x), (1, .int p0)] := hl
  have hiX10 : ∀ w ∈ u_ws RX10 TX10 10, w ∈ wsX10_diceByLetter := by decide +kernel
  refine kd_ldcwS hx hb hown hE.2.2.2.2.2.2.2 dX10_diceByLetter_0 ?_
  refine lv_iload_n hx hb dX10_diceByLetter_3 rfl (lv_at hl 1 rfl) ?_
  refine lv_i2c hx hb dX10_diceByLetter_4 rfl ?_
  refine kd_callIK (g := g) (wc := []) (va_runV (mc := 0) (ms := 0) (rm := { frames := 3, cells := 0, slots := 0, locals := 70 }) (As := [.int (((p0 : Int32).toUInt32 % 65536).toInt32)]) (rest := []) ⟨hx, hb, hml, hown, hts⟩ (c_J0_indexOf_0f7a4_1 l g s.heap.size (((p0 : Int32).toUInt32 % 65536).toInt32) ) (cwV 1 hts gX10_diceByLetter_J0_indexOf_0f7a4 rfl rfl rfl (by decide +kernel) ⟨Nat.le_of_ble_eq_true rfl, Nat.le_of_ble_eq_true rfl⟩) (kd_preV (wc := []) (vk_recv hE.2.2.2.1 (i := 1) (by decide) hS) hP hD hS hA hK hE [] rfl (by decide)) rfl rfl hl.1 rfl (lv_room (Nat.le_of_ble_eq_true rfl)) dX10_diceByLetter_5 ⟨Nat.le_of_ble_eq_true rfl, Nat.le_of_ble_eq_true rfl⟩) hP hD hS hA [] rfl (fun r_5 _ H locs hw hP hS => ?_)
  subst hw
  refine lv_istore_n (lv' := [(2, .int (sp_J0_indexOf_0f7a4_1 (((p0 : Int32).toUInt32 % 65536).toInt32))), (0, .ref x), (1, .int p0)]) hx hb dX10_diceByLetter_8 rfl hl (by decide) rfl (fun ls hl => ?_)
  refine lv_iload_n hx hb dX10_diceByLetter_9 rfl (lv_at hl 0 rfl) ?_
  refine lv_aload_n hx hb dX10_diceByLetter_10 rfl (lv_at hl 1 rfl) ?_
  refine va_get (ci := 10) (v := .ref ka) (C := RX10) (T := TX10) (N := 10) hx hb hts hiX10 hown hK hP (0) rfl rfl 1 (by decide) (hts (.fieldLink RX10 35 "KingdomAtDice" "kinds" "[LKingdomAtDice$Dice;") (by decide +kernel)) (fun _ h9 => h9) rfl dX10_diceByLetter_11 ?_
  refine va_alen hx hb hK hP 1 2 rfl rfl (v := 5) rfl dX10_diceByLetter_14 ?_
  refine kd_callIK (g := g) (wc := []) (va_runS (mc := 0) (ms := 0) (rm := { frames := 0, cells := 0, slots := 0, locals := 0 }) (As := [.int (sp_J0_indexOf_0f7a4_1 (((p0 : Int32).toUInt32 % 65536).toInt32)), .int 5]) (rest := []) ⟨hx, hb, hml, hown, hts⟩ (c_X10_isBelow l g H.size (sp_J0_indexOf_0f7a4_1 (((p0 : Int32).toUInt32 % 65536).toInt32)) 5 ) (va_cwS 2 hts gX10_diceByLetter_X10_isBelow rfl rfl rfl (by decide +kernel) ⟨Nat.le_of_ble_eq_true rfl, Nat.le_of_ble_eq_true rfl⟩) (kd_preS (wc := []) (av := [.int (sp_J0_indexOf_0f7a4_1 (((p0 : Int32).toUInt32 % 65536).toInt32)), .int 5]) hP hD hS hA hK hE [] rfl (by decide)) rfl rfl hl.1 rfl (lv_room (Nat.le_of_ble_eq_true rfl)) dX10_diceByLetter_15 ⟨Nat.le_of_ble_eq_true rfl, Nat.le_of_ble_eq_true rfl⟩) hP hD hS hA [] rfl (fun r_15 _ H locs hw hP hS => ?_)
  subst hw
  refine lv_if_eq (tgt := 30) hx hb dX10_diceByLetter_18 (by decide) (fun c_18 => ?_) (fun c_18 => ?_)
  · refine lv_aload_n hx hb dX10_diceByLetter_30 rfl (lv_at hl 1 rfl) ?_
    refine va_get (ci := 10) (v := .ref ka) (C := RX10) (T := TX10) (N := 10) hx hb hts hiX10 hown hK hP (0) rfl rfl 1 (by decide) (hts (.fieldLink RX10 35 "KingdomAtDice" "kinds" "[LKingdomAtDice$Dice;") (by decide +kernel)) (fun _ h9 => h9) rfl dX10_diceByLetter_31 ?_
    refine lv_iconst (v := 0) hx hb dX10_diceByLetter_34 (by decide) ?_
    refine kd_aldN hx hb hK hP 1 2 (k := 0) rfl rfl (by omega) (by decide) dX10_diceByLetter_35 ?_
    exact kd_aret hx hb hr hlocks hK hS dX10_diceByLetter_36 (0) (rfl) (by rw [kd_kl, if_pos c_18]) hP hD
  · refine lv_aload_n hx hb dX10_diceByLetter_21 rfl (lv_at hl 1 rfl) ?_
    refine va_get (ci := 10) (v := .ref ka) (C := RX10) (T := TX10) (N := 10) hx hb hts hiX10 hown hK hP (0) rfl rfl 1 (by decide) (hts (.fieldLink RX10 35 "KingdomAtDice" "kinds" "[LKingdomAtDice$Dice;") (by decide +kernel)) (fun _ h9 => h9) rfl dX10_diceByLetter_22 ?_
    refine lv_iload_n hx hb dX10_diceByLetter_25 rfl (lv_at hl 0 rfl) ?_
    refine kd_aldq hx hb hK hP 1 2 rfl rfl (kd_belowN (n := 5) c_18 (by decide)) dX10_diceByLetter_26 ?_
    refine lv_goto (tgt := 36) hx hb dX10_diceByLetter_27 (by decide) ?_
    exact kd_aret hx hb hr hlocks hK hS dX10_diceByLetter_36 ((sp_J0_indexOf_0f7a4_1 (((p0 : Int32).toUInt32 % 65536).toInt32)).toNatClampNeg) (rfl) (by rw [kd_kl, if_neg c_18]) hP hD

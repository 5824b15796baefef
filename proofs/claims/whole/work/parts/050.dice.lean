/-- in how many ways two that fall each from lo to hi make x: those whose first falls below lo + i -/
def kd_wl (lo : Nat) (a b : Int32) (x : Int32) : Nat → Nat
  | 0 => 0
  | i + 1 => if x - nI (lo + i) < a then kd_wl lo a b x i else if b < x - nI (lo + i) then kd_wl lo a b x i else kd_wl lo a b x i + 1
def kd_w2 (lo n : Nat) (a b : Int32) (x : Int32) : Int32 := if sp_X10_isSum x = 0 then 0 else nI (kd_wl lo a b x n)
/-- in how many ways dice of a kind make a sum -/
def kd_w (k : Nat) (x : Int32) : Int32 := match k with
  | 0 => kd_w2 1 6 1 6 x
  | 1 => kd_w2 2 5 2 6 x
  | 2 => if sp_X10_isSum x = 0 then 0 else if (x - x / 2 * 2) = 0 then 1 else 0
  | 3 => kd_w2 1 3 1 3 x
  | _ => kd_w2 4 3 4 6 x
/-- what KingdomAtDice$Dice.faces answers and leaves, by its instructions -/
def sp_faces_0  : Int32 :=
  6
set_option maxHeartbeats 4000000 in
set_option maxRecDepth 100000 in
theorem c_faces_0 (l : Launch) (g : kd_G) (sz : Nat) (dq : Nat → Nat)  : kd_MI l yX1_faces wsX1_faces ({ frames := 0, cells := 0, slots := 0, locals := 0 }) [.ref (dq 0)] g (kd_dc dq) sz (fun r (_ : Unit) => r = sp_faces_0) (fun _ => (kd_dc dq)) 0 0 := by
  refine kd_met (l := l) (y := yX1_faces) (ws := wsX1_faces) (rm := { frames := 0, cells := 0, slots := 0, locals := 0 }) (av := [.ref (dq 0)]) (g := g) (WS := (kd_dc dq)) (sz := sz) (mc := 0) (ms := 0) (cc := cX1_faces) (maxL := 1) (ret := (some .int)) (own := RX1) (fun A => va_Qi (fun r (_ : Unit) => r = sp_faces_0) (fun u t => kd_post g A (kd_dc dq) t) A) (by decide) rfl rfl (Nat.le_of_ble_eq_true rfl) ?_
  intro p e s m below meth c A ls hx hb hr hml hts hown hlocks hnm hA hP hK hD hS hE hl
  have hl : lv_has ls 1 [(0, .ref (dq 0))] := hl
  have hiX1 : ∀ w ∈ u_ws RX1 TX1 3, w ∈ wsX1_faces := by decide +kernel
  refine lv_aload_n hx hb dX1_faces_0 rfl (lv_at hl 0 rfl) ?_
  refine va_get (ci := 1) (v := .int 6) (C := RX1) (T := TX1) (N := 3) hx hb hts hiX1 hown hK hP (0) rfl rfl 2 (by decide) (hts (.fieldLink RX1 16 "KingdomAtDice$Dice" "greatest" "I") (by decide +kernel)) (fun _ h9 => h9) rfl dX1_faces_1 ?_
  refine lv_aload_n hx hb dX1_faces_4 rfl (lv_at hl 0 rfl) ?_
  refine va_get (ci := 1) (v := .int 1) (C := RX1) (T := TX1) (N := 3) hx hb hts hiX1 hown hK hP (0) rfl rfl 1 (by decide) (hts (.fieldLink RX1 13 "KingdomAtDice$Dice" "least" "I") (by decide +kernel)) (fun _ h9 => h9) rfl dX1_faces_5 ?_
  refine lv_isub hx hb dX1_faces_8 ?_
  refine kd_top (y := 5) (by decide) ?_
  refine lv_iconst (v := 1) hx hb dX1_faces_9 (by decide) ?_
  refine lv_iadd hx hb dX1_faces_10 ?_
  refine kd_top (y := 6) (by decide) ?_
  exact kd_iret hx hb hr hlocks hK hS dX1_faces_11 (()) (rfl) hP hD
/-- what KingdomAtDice$Dice.wayMany answers and leaves, by its instructions -/
def sp_wayMany_0  : Int32 :=
  36
set_option maxHeartbeats 4000000 in
set_option maxRecDepth 100000 in
theorem c_wayMany_0 (l : Launch) (g : kd_G) (sz : Nat) (dq : Nat → Nat)  : kd_MI l yX1_wayMany wsX1_wayMany ({ frames := 1, cells := 0, slots := 0, locals := 20 }) [.ref (dq 0)] g (kd_dc dq) sz (fun r (_ : Unit) => r = sp_wayMany_0) (fun _ => (kd_dc dq)) 0 0 := by
  refine kd_met (l := l) (y := yX1_wayMany) (ws := wsX1_wayMany) (rm := { frames := 1, cells := 0, slots := 0, locals := 20 }) (av := [.ref (dq 0)]) (g := g) (WS := (kd_dc dq)) (sz := sz) (mc := 0) (ms := 0) (cc := cX1_wayMany) (maxL := 1) (ret := (some .int)) (own := RX1) (fun A => va_Qi (fun r (_ : Unit) => r = sp_wayMany_0) (fun u t => kd_post g A (kd_dc dq) t) A) (by decide) rfl rfl (Nat.le_of_ble_eq_true rfl) ?_
  intro p e s m below meth c A ls hx hb hr hml hts hown hlocks hnm hA hP hK hD hS hE hl
  have hl : lv_has ls 1 [(0, .ref (dq 0))] := hl
  refine lv_aload_n hx hb dX1_wayMany_0 rfl (lv_at hl 0 rfl) ?_
  refine kd_callIK (g := g) (wc := (kd_dc dq)) (va_runV (mc := 0) (ms := 0) (rm := { frames := 0, cells := 0, slots := 0, locals := 0 }) (As := []) (rest := []) ⟨hx, hb, hml, hown, hts⟩ (c_faces_0 l g s.heap.size dq ) (cwV 0 hts gX1_wayMany_X1_faces rfl rfl rfl (by decide +kernel) ⟨Nat.le_of_ble_eq_true rfl, Nat.le_of_ble_eq_true rfl⟩) (kd_preV (wc := (kd_dc dq)) (va_recv hK hP (ci := 1) (q0 := 0) rfl rfl) hP hD hS hA hK hE [0, 1, 2, 3, 4] rfl (by decide)) rfl rfl hl.1 rfl (lv_room (Nat.le_of_ble_eq_true rfl)) dX1_wayMany_1 ⟨Nat.le_of_ble_eq_true rfl, Nat.le_of_ble_eq_true rfl⟩) hP hD hS hA [0, 1, 2, 3, 4] rfl (fun r_1 _ H locs hw hP hS => ?_)
  obtain rfl : r_1 = 6 := hw
  refine lv_aload_n hx hb dX1_wayMany_4 rfl (lv_at hl 0 rfl) ?_
  refine kd_callIK (g := g) (wc := (kd_dc dq)) (va_runV (mc := 0) (ms := 0) (rm := { frames := 0, cells := 0, slots := 0, locals := 0 }) (As := []) (rest := [.int 6]) ⟨hx, hb, hml, hown, hts⟩ (c_faces_0 l g H.size dq ) (cwV 0 hts gX1_wayMany_X1_faces rfl rfl rfl (by decide +kernel) ⟨Nat.le_of_ble_eq_true rfl, Nat.le_of_ble_eq_true rfl⟩) (kd_preV (wc := (kd_dc dq)) (va_recv hK hP (ci := 1) (q0 := 0) rfl rfl) hP hD hS hA hK hE [0, 1, 2, 3, 4] rfl (by decide)) rfl rfl hl.1 rfl (lv_room (Nat.le_of_ble_eq_true rfl)) dX1_wayMany_5 ⟨Nat.le_of_ble_eq_true rfl, Nat.le_of_ble_eq_true rfl⟩) hP hD hS hA [0, 1, 2, 3, 4] rfl (fun r_5 _ H locs hw hP hS => ?_)
  obtain rfl : r_5 = 6 := hw
  refine lv_imul hx hb dX1_wayMany_8 ?_
  refine kd_top (y := 36) (by decide) ?_
  exact kd_iret hx hb hr hlocks hK hS dX1_wayMany_9 (()) (rfl) hP hD
set_option maxHeartbeats 4000000 in
set_option maxRecDepth 100000 in
theorem c_waysOf_0 (l : Launch) (g : kd_G) (sz : Nat) (dq : Nat → Nat) (p0 : Int32)  : kd_MI l yX1_waysOf wsX1_waysOf ({ frames := 1, cells := 0, slots := 0, locals := 20 }) [.ref (dq 0), .int p0] g (kd_dc dq) sz (fun r (_ : Unit) => r = kd_w 0 p0) (fun _ => (kd_dc dq)) 0 0 := by
  refine kd_met (l := l) (y := yX1_waysOf) (ws := wsX1_waysOf) (rm := { frames := 1, cells := 0, slots := 0, locals := 20 }) (av := [.ref (dq 0), .int p0]) (g := g) (WS := (kd_dc dq)) (sz := sz) (mc := 0) (ms := 0) (cc := cX1_waysOf) (maxL := 5) (ret := (some .int)) (own := RX1) (fun A => va_Qi (fun r (_ : Unit) => r = kd_w 0 p0) (fun u t => kd_post g A (kd_dc dq) t) A) (by decide) rfl rfl (Nat.le_of_ble_eq_true rfl) ?_
  intro p e s m below meth c A ls hx hb hr hml hts hown hlocks hnm hA hP hK hD hS hE hl
  have hl : lv_has ls 5 [(0, .ref (dq 0)), (1, .int p0)] := hl
  have hiX1 : ∀ w ∈ u_ws RX1 TX1 3, w ∈ wsX1_waysOf := by decide +kernel
  refine lv_iload_n hx hb dX1_waysOf_0 rfl (lv_at hl 1 rfl) ?_
  refine kd_callIK (g := g) (wc := []) (va_runSN (mc := 0) (ms := 0) (rm := { frames := 0, cells := 0, slots := 0, locals := 0 }) (host := "KingdomAtDice") (As := [.int p0]) (rest := []) ⟨hx, hb, hml, hown, hts⟩ (c_X10_isSum l g s.heap.size p0 ) ⟨va_cnB 1 hts gX1_waysOf_X10_isSum_n26 rfl rfl rfl (kd_N hE 20 rfl) (hts (.initialized RX10) (by decide +kernel)) (by decide +kernel) ⟨Nat.le_of_ble_eq_true rfl, Nat.le_of_ble_eq_true rfl⟩, (hts (.static yX10_isSum) (by decide +kernel)), trivial⟩ (kd_preS (wc := []) (av := [.int p0]) hP hD hS hA hK hE [] rfl (by decide)) rfl rfl hl.1 rfl (lv_room (Nat.le_of_ble_eq_true rfl)) dX1_waysOf_1 ⟨Nat.le_of_ble_eq_true rfl, Nat.le_of_ble_eq_true rfl⟩) hP hD hS hA [] rfl (fun r_1 _ H locs hw hP hS => ?_)
  subst hw
  refine lv_if_ne (tgt := 9) hx hb dX1_waysOf_4 (by decide) (fun c_4 => ?_) (fun c_4 => ?_)
  · refine lv_iconst (v := 0) hx hb dX1_waysOf_9 (by decide) ?_
    refine lv_istore_n (lv' := [(2, .int 0), (0, .ref (dq 0)), (1, .int p0)]) hx hb dX1_waysOf_10 rfl hl (by decide) rfl (fun ls hl => ?_)
    refine lv_aload_n hx hb dX1_waysOf_11 rfl (lv_at hl 1 rfl) ?_
    refine va_get (ci := 1) (v := .int 1) (C := RX1) (T := TX1) (N := 3) hx hb hts hiX1 hown hK hP (0) rfl rfl 1 (by decide) (hts (.fieldLink RX1 13 "KingdomAtDice$Dice" "least" "I") (by decide +kernel)) (fun _ h9 => h9) rfl dX1_waysOf_12 ?_
    refine lv_istore_n (lv' := [(3, .int 1), (2, .int 0), (0, .ref (dq 0)), (1, .int p0)]) hx hb dX1_waysOf_15 rfl hl (by decide) rfl (fun ls hl => ?_)
    have loop_16 : ∀ (n_16 : Nat) (j : Nat) (a : Nat), (1 ≤ j) → (j ≤ 7) → (a = kd_wl 1 1 6 p0 (j - 1)) → (7 - j) < n_16 → ∀ (H : Heap) (locs : List Loc), va_P g.1 vwCl (kd_dc dq) H → va_D A (kd_dc dq) → va_S A s.heap H locs → ∀ (ls : Array Slot), lv_has ls 5 [(0, .ref (dq 0)), (1, .int p0), (2, .int (nI a)), (3, .int (nI j))] → W p l e ({ frames := 1, cells := 0, slots := 0, locals := 20 } : Room) s m ([.ref (dq 0), .int p0] : List Value).toArray below meth c H locs 0 0 (MQ below (va_Qi (fun r (_ : Unit) => r = kd_w 0 p0) (fun u t => kd_post g A (kd_dc dq) t) A) ([.ref (dq 0), .int p0] : List Value).toArray s 0 0 A) (F0 m 16 ls []) := by
      intro n_16
      induction n_16 with
      | zero => intro j a _ _ _ hm_16; exact absurd hm_16 (Nat.not_lt_zero _)
      | succ n_16 ih_16 =>
        intro j a hj hj2 ha hm_16 H locs hP hD hS ls hl
        refine lv_iload_n hx hb dX1_waysOf_16 rfl (lv_at hl 3 rfl) ?_
        refine lv_aload_n hx hb dX1_waysOf_17 rfl (lv_at hl 0 rfl) ?_
        refine va_get (ci := 1) (v := .int 6) (C := RX1) (T := TX1) (N := 3) hx hb hts hiX1 hown hK hP (0) rfl rfl 2 (by decide) (hts (.fieldLink RX1 16 "KingdomAtDice$Dice" "greatest" "I") (by decide +kernel)) (fun _ h9 => h9) rfl dX1_waysOf_18 ?_
        refine lv_icmp_gt (tgt := 56) hx hb dX1_waysOf_21 (by decide) (fun c_21 => ?_) (fun c_21 => ?_)
        · have n_21 : 6 < j := kd_cl (a := 6) (b := j) (by omega) (by omega) c_21
          refine lv_iload_n hx hb dX1_waysOf_56 rfl (lv_at hl 2 rfl) ?_
          exact kd_iret hx hb hr hlocks hK hS dX1_waysOf_57 (()) (by show _ = kd_w2 1 6 1 6 p0; rw [kd_w2, if_neg c_4, ha, show j = 7 by omega]) hP hD
        · have n_21 : j ≤ 6 := kd_cnl (a := 6) (b := j) (by omega) (by omega) c_21
          refine lv_iload_n hx hb dX1_waysOf_24 rfl (lv_at hl 1 rfl) ?_
          refine lv_iload_n hx hb dX1_waysOf_25 rfl (lv_at hl 3 rfl) ?_
          refine lv_isub hx hb dX1_waysOf_26 ?_
          refine lv_istore (lv' := [(4, .int (p0 - (nI j))), (0, .ref (dq 0)), (1, .int p0), (2, .int (nI a)), (3, .int (nI j))]) hx hb dX1_waysOf_27 hl (by decide) rfl (fun ls hl => ?_)
          refine lv_iload hx hb dX1_waysOf_29 (lv_at hl 0 rfl) ?_
          refine lv_aload_n hx hb dX1_waysOf_31 rfl (lv_at hl 1 rfl) ?_
          refine va_get (ci := 1) (v := .int 1) (C := RX1) (T := TX1) (N := 3) hx hb hts hiX1 hown hK hP (0) rfl rfl 1 (by decide) (hts (.fieldLink RX1 13 "KingdomAtDice$Dice" "least" "I") (by decide +kernel)) (fun _ h9 => h9) rfl dX1_waysOf_32 ?_
          refine lv_icmp_lt (tgt := 50) hx hb dX1_waysOf_35 (by decide) (fun c_35 => ?_) (fun c_35 => ?_)
          · refine lv_iinc (v := nI (j + 1)) (lv' := [(3, .int (nI (j + 1))), (4, .int (p0 - (nI j))), (0, .ref (dq 0)), (1, .int p0), (2, .int (nI a))]) hx hb dX1_waysOf_50 hl (k := 4) rfl (nI_1 _) (by decide) rfl (fun ls hl => ?_)
            refine lv_goto (tgt := 16) hx hb dX1_waysOf_53 (by decide) ?_
            exact ih_16 (j + 1) a (by omega) (by omega) (by rw [show j + 1 - 1 = (j - 1) + 1 by omega, kd_wl, show 1 + (j - 1) = j by omega, ← ha]; first | rw [if_pos c_35] | rw [if_neg c_35, if_pos c_44] | rw [if_neg c_35, if_neg c_44]) (by omega) _ _ hP hD hS ls (lv_sub hl [2, 3, 4, 0] rfl)
          · refine lv_iload hx hb dX1_waysOf_38 (lv_at hl 0 rfl) ?_
            refine lv_aload_n hx hb dX1_waysOf_40 rfl (lv_at hl 1 rfl) ?_
            refine va_get (ci := 1) (v := .int 6) (C := RX1) (T := TX1) (N := 3) hx hb hts hiX1 hown hK hP (0) rfl rfl 2 (by decide) (hts (.fieldLink RX1 16 "KingdomAtDice$Dice" "greatest" "I") (by decide +kernel)) (fun _ h9 => h9) rfl dX1_waysOf_41 ?_
            refine lv_icmp_gt (tgt := 50) hx hb dX1_waysOf_44 (by decide) (fun c_44 => ?_) (fun c_44 => ?_)
            · refine lv_iinc (v := nI (j + 1)) (lv' := [(3, .int (nI (j + 1))), (4, .int (p0 - (nI j))), (0, .ref (dq 0)), (1, .int p0), (2, .int (nI a))]) hx hb dX1_waysOf_50 hl (k := 4) rfl (nI_1 _) (by decide) rfl (fun ls hl => ?_)
              refine lv_goto (tgt := 16) hx hb dX1_waysOf_53 (by decide) ?_
              exact ih_16 (j + 1) a (by omega) (by omega) (by rw [show j + 1 - 1 = (j - 1) + 1 by omega, kd_wl, show 1 + (j - 1) = j by omega, ← ha]; first | rw [if_pos c_35] | rw [if_neg c_35, if_pos c_44] | rw [if_neg c_35, if_neg c_44]) (by omega) _ _ hP hD hS ls (lv_sub hl [2, 3, 4, 0] rfl)
            · refine lv_iinc (v := nI (a + 1)) (lv' := [(2, .int (nI (a + 1))), (4, .int (p0 - (nI j))), (0, .ref (dq 0)), (1, .int p0), (3, .int (nI j))]) hx hb dX1_waysOf_47 hl (k := 3) rfl (nI_1 _) (by decide) rfl (fun ls hl => ?_)
              refine lv_iinc (v := nI (j + 1)) (lv' := [(3, .int (nI (j + 1))), (2, .int (nI (a + 1))), (4, .int (p0 - (nI j))), (0, .ref (dq 0)), (1, .int p0)]) hx hb dX1_waysOf_50 hl (k := 4) rfl (nI_1 _) (by decide) rfl (fun ls hl => ?_)
              refine lv_goto (tgt := 16) hx hb dX1_waysOf_53 (by decide) ?_
              exact ih_16 (j + 1) (a + 1) (by omega) (by omega) (by rw [show j + 1 - 1 = (j - 1) + 1 by omega, kd_wl, show 1 + (j - 1) = j by omega, ← ha]; first | rw [if_pos c_35] | rw [if_neg c_35, if_pos c_44] | rw [if_neg c_35, if_neg c_44]) (by omega) _ _ hP hD hS ls (lv_sub hl [3, 4, 1, 0] rfl)
    exact loop_16 ((7 - 1) + 1) 1 0 (by decide) (by decide) rfl (Nat.lt_succ_self _) _ _ hP hD hS ls (lv_sub hl [2, 3, 1, 0] rfl)
  · refine lv_iconst (v := 0) hx hb dX1_waysOf_7 (by decide) ?_
    exact kd_iret hx hb hr hlocks hK hS dX1_waysOf_8 (()) (by show _ = kd_w2 1 6 1 6 p0; rw [kd_w2, if_pos c_4]) hP hD
/-- what KingdomAtDice$Dice.fall answers and leaves, by its instructions -/
def sp_fall_0 (sd : Int64) : Int32 × Int64 :=
  (((1 + ((sp_X2_next sd 6).1)) + 1) + ((sp_X2_next ((sp_X2_next sd 6).2) 6).1), ((sp_X2_next ((sp_X2_next sd 6).2) 6).2))
set_option maxHeartbeats 4000000 in
set_option maxRecDepth 100000 in
theorem c_fall_0 (l : Launch) (g : kd_G) (sz : Nat) (dq : Nat → Nat) (dr : Nat) (sd : Int64)  : kd_MI l yX1_fall wsX1_fall ({ frames := 1, cells := 0, slots := 0, locals := 21 }) [.ref (dq 0), .ref dr] g (kd_dc dq ++ [(dr, .inr (2, [.long sd]))]) sz (fun r (u : Int64) => (r, u) = sp_fall_0 sd) (fun u => (kd_dc dq ++ [(dr, .inr (2, [.long u]))])) 0 0 := by
  refine kd_met (l := l) (y := yX1_fall) (ws := wsX1_fall) (rm := { frames := 1, cells := 0, slots := 0, locals := 21 }) (av := [.ref (dq 0), .ref dr]) (g := g) (WS := (kd_dc dq ++ [(dr, .inr (2, [.long sd]))])) (sz := sz) (mc := 0) (ms := 0) (cc := cX1_fall) (maxL := 3) (ret := (some .int)) (own := RX1) (fun A => va_Qi (fun r (u : Int64) => (r, u) = sp_fall_0 sd) (fun u t => kd_post g A (kd_dc dq ++ [(dr, .inr (2, [.long u]))]) t) A) (by decide) rfl rfl (Nat.le_of_ble_eq_true rfl) ?_
  intro p e s m below meth c A ls hx hb hr hml hts hown hlocks hnm hA hP hK hD hS hE hl
  have hl : lv_has ls 3 [(0, .ref (dq 0)), (1, .ref dr)] := hl
  have hiX1 : ∀ w ∈ u_ws RX1 TX1 3, w ∈ wsX1_fall := by decide +kernel
  refine lv_aload_n hx hb dX1_fall_0 rfl (lv_at hl 0 rfl) ?_
  refine va_get (ci := 1) (v := .int 1) (C := RX1) (T := TX1) (N := 3) hx hb hts hiX1 hown hK hP (0) rfl rfl 1 (by decide) (hts (.fieldLink RX1 13 "KingdomAtDice$Dice" "least" "I") (by decide +kernel)) (fun _ h9 => h9) rfl dX1_fall_1 ?_
  refine lv_aload_n hx hb dX1_fall_4 rfl (lv_at hl 1 rfl) ?_
  refine lv_aload_n hx hb dX1_fall_5 rfl (lv_at hl 0 rfl) ?_
  refine kd_callIK (g := g) (wc := (kd_dc dq)) (va_runV (mc := 0) (ms := 0) (rm := { frames := 0, cells := 0, slots := 0, locals := 0 }) (As := []) (rest := [.ref dr, .int 1]) ⟨hx, hb, hml, hown, hts⟩ (c_faces_0 l g s.heap.size dq ) (cwV 0 hts gX1_fall_X1_faces rfl rfl rfl (by decide +kernel) ⟨Nat.le_of_ble_eq_true rfl, Nat.le_of_ble_eq_true rfl⟩) (kd_preV (wc := (kd_dc dq)) (va_recv hK hP (ci := 1) (q0 := 0) rfl rfl) hP hD hS hA hK hE [0, 1, 2, 3, 4] rfl (by decide)) rfl rfl hl.1 rfl (lv_room (Nat.le_of_ble_eq_true rfl)) dX1_fall_6 ⟨Nat.le_of_ble_eq_true rfl, Nat.le_of_ble_eq_true rfl⟩) hP hD hS hA [0, 1, 2, 3, 4] rfl (fun r_6 _ H locs hw hP hS => ?_)
  obtain rfl : r_6 = 6 := hw
  refine kd_callIJ (Wf := fun (u : Int64) => [(dr, .inr (2, [.long u]))]) (g := g) (wc := [(dr, .inr (2, [.long sd]))]) (wr := (kd_dc dq)) (va_runVN (mc := 0) (ms := 0) (rm := { frames := 0, cells := 0, slots := 0, locals := 0 }) (C := RX2) (host := "KingdomAtDice") (As := [.int 6]) (rest := [.int 1]) ⟨hx, hb, hml, hown, hts⟩ (c_X2_next l g H.size dr sd 6 ) ⟨va_cnB 1 hts gX1_fall_X2_next_n32 rfl rfl rfl (kd_N hE 40 rfl) (hts (.initialized RX2) (by decide +kernel)) (by decide +kernel) ⟨Nat.le_of_ble_eq_true rfl, Nat.le_of_ble_eq_true rfl⟩, (hts (.instanceMethod yX2_next) (by decide +kernel)), (hts (.selects RX2 yX2_next yX2_next) (by decide +kernel))⟩ (kd_preV (wc := [(dr, .inr (2, [.long sd]))]) (va_recv hK hP (ci := 2) (q0 := 5) rfl rfl) hP hD hS hA hK hE [5] rfl (by decide)) rfl rfl hl.1 rfl (lv_room (Nat.le_of_ble_eq_true rfl)) dX1_fall_9 ⟨Nat.le_of_ble_eq_true rfl, Nat.le_of_ble_eq_true rfl⟩) hP hD hS hA [5] [0, 1, 2, 3, 4] rfl rfl (by decide) (by decide) (fun r_9 u_9 H locs hw_9 hP hD hS => ?_)
  obtain ⟨sd_9, rfl⟩ : ∃ z, z = u_9 := ⟨_, rfl⟩
  have hP : va_P g.1 vwCl ((kd_dc dq) ++ [(dr, .inr (2, [.long sd_9]))]) H := hP
  have hD : va_D A ((kd_dc dq) ++ [(dr, .inr (2, [.long sd_9]))]) := hD
  refine lv_iadd hx hb dX1_fall_12 ?_
  refine lv_istore_n (lv' := [(2, .int (1 + r_9)), (0, .ref (dq 0)), (1, .ref dr)]) hx hb dX1_fall_13 rfl hl (by decide) rfl (fun ls hl => ?_)
  refine lv_iload_n hx hb dX1_fall_14 rfl (lv_at hl 0 rfl) ?_
  refine lv_aload_n hx hb dX1_fall_15 rfl (lv_at hl 1 rfl) ?_
  refine va_get (ci := 1) (v := .int 1) (C := RX1) (T := TX1) (N := 3) hx hb hts hiX1 hown hK hP (0) rfl rfl 1 (by decide) (hts (.fieldLink RX1 13 "KingdomAtDice$Dice" "least" "I") (by decide +kernel)) (fun _ h9 => h9) rfl dX1_fall_16 ?_
  refine lv_iadd hx hb dX1_fall_19 ?_
  refine lv_aload_n hx hb dX1_fall_20 rfl (lv_at hl 2 rfl) ?_
  refine lv_aload_n hx hb dX1_fall_21 rfl (lv_at hl 1 rfl) ?_
  refine kd_callIK (g := g) (wc := (kd_dc dq)) (va_runV (mc := 0) (ms := 0) (rm := { frames := 0, cells := 0, slots := 0, locals := 0 }) (As := []) (rest := [.ref dr, .int ((1 + r_9) + 1)]) ⟨hx, hb, hml, hown, hts⟩ (c_faces_0 l g H.size dq ) (cwV 0 hts gX1_fall_X1_faces rfl rfl rfl (by decide +kernel) ⟨Nat.le_of_ble_eq_true rfl, Nat.le_of_ble_eq_true rfl⟩) (kd_preV (wc := (kd_dc dq)) (va_recv hK hP (ci := 1) (q0 := 0) rfl rfl) hP hD hS hA hK hE [0, 1, 2, 3, 4] rfl (by decide)) rfl rfl hl.1 rfl (lv_room (Nat.le_of_ble_eq_true rfl)) dX1_fall_22 ⟨Nat.le_of_ble_eq_true rfl, Nat.le_of_ble_eq_true rfl⟩) hP hD hS hA [0, 1, 2, 3, 4] rfl (fun r_22 _ H locs hw hP hS => ?_)
  obtain rfl : r_22 = 6 := hw
  refine kd_callIJ (Wf := fun (u : Int64) => [(dr, .inr (2, [.long u]))]) (g := g) (wc := [(dr, .inr (2, [.long sd_9]))]) (wr := (kd_dc dq)) (va_runVN (mc := 0) (ms := 0) (rm := { frames := 0, cells := 0, slots := 0, locals := 0 }) (C := RX2) (host := "KingdomAtDice") (As := [.int 6]) (rest := [.int ((1 + r_9) + 1)]) ⟨hx, hb, hml, hown, hts⟩ (c_X2_next l g H.size dr sd_9 6 ) ⟨va_cnB 1 hts gX1_fall_X2_next_n32 rfl rfl rfl (kd_N hE 40 rfl) (hts (.initialized RX2) (by decide +kernel)) (by decide +kernel) ⟨Nat.le_of_ble_eq_true rfl, Nat.le_of_ble_eq_true rfl⟩, (hts (.instanceMethod yX2_next) (by decide +kernel)), (hts (.selects RX2 yX2_next yX2_next) (by decide +kernel))⟩ (kd_preV (wc := [(dr, .inr (2, [.long sd_9]))]) (va_recv hK hP (ci := 2) (q0 := 5) rfl rfl) hP hD hS hA hK hE [5] rfl (by decide)) rfl rfl hl.1 rfl (lv_room (Nat.le_of_ble_eq_true rfl)) dX1_fall_25 ⟨Nat.le_of_ble_eq_true rfl, Nat.le_of_ble_eq_true rfl⟩) hP hD hS hA [5] [0, 1, 2, 3, 4] rfl rfl (by decide) (by decide) (fun r_25 u_25 H locs hw_25 hP hD hS => ?_)
  obtain ⟨sd_25, rfl⟩ : ∃ z, z = u_25 := ⟨_, rfl⟩
  have hP : va_P g.1 vwCl ((kd_dc dq) ++ [(dr, .inr (2, [.long sd_25]))]) H := hP
  have hD : va_D A ((kd_dc dq) ++ [(dr, .inr (2, [.long sd_25]))]) := hD
  refine lv_iadd hx hb dX1_fall_28 ?_
  exact kd_iret hx hb hr hlocks hK hS dX1_fall_29 (sd_25) (by obtain ⟨rfl, rfl⟩ := kd_eq2 hw_9; obtain ⟨rfl, rfl⟩ := kd_eq2 hw_25; rfl) (hP.sub (ws' := (kd_dc dq ++ [(dr, .inr (2, [.long sd_25]))])) [0, 1, 2, 3, 4, 5] rfl) (hD.sub (ws' := (kd_dc dq ++ [(dr, .inr (2, [.long sd_25]))])) [0, 1, 2, 3, 4, 5] (by decide) rfl)
/-- what KingdomAtDice$Dice.tell answers and leaves, by its instructions -/
def sp_tell_0 (p0 : Int32) : Int32 :=
  if p0 = 0 then
    0
  else
    if p0 = 1 then
      2
    else
      if p0 = 2 then
        12
      else
        36
set_option maxHeartbeats 4000000 in
set_option maxRecDepth 100000 in
theorem c_tell_0 (l : Launch) (g : kd_G) (sz : Nat) (dq : Nat → Nat) (p0 : Int32)  : kd_MI l yX1_tell wsX1_tell ({ frames := 2, cells := 0, slots := 0, locals := 40 }) [.ref (dq 0), .int p0] g (kd_dc dq) sz (fun r (_ : Unit) => r = sp_tell_0 p0) (fun _ => (kd_dc dq)) 0 0 := by
  refine kd_met (l := l) (y := yX1_tell) (ws := wsX1_tell) (rm := { frames := 2, cells := 0, slots := 0, locals := 40 }) (av := [.ref (dq 0), .int p0]) (g := g) (WS := (kd_dc dq)) (sz := sz) (mc := 0) (ms := 0) (cc := cX1_tell) (maxL := 2) (ret := (some .int)) (own := RX1) (fun A => va_Qi (fun r (_ : Unit) => r = sp_tell_0 p0) (fun u t => kd_post g A (kd_dc dq) t) A) (by decide) rfl rfl (Nat.le_of_ble_eq_true rfl) ?_
  intro p e s m below meth c A ls hx hb hr hml hts hown hlocks hnm hA hP hK hD hS hE hl
  have hl : lv_has ls 2 [(0, .ref (dq 0)), (1, .int p0)] := hl
  have hiX1 : ∀ w ∈ u_ws RX1 TX1 3, w ∈ wsX1_tell := by decide +kernel
  refine lv_iload_n hx hb dX1_tell_0 rfl (lv_at hl 1 rfl) ?_
  by_cases c_1_0 : p0 = 0
  · refine lv_tableIn (off := 27) (tgt := 28) hx hb dX1_tell_1 (by rw [c_1_0]; decide) (by rw [c_1_0]; decide) (by rw [c_1_0]; rfl) (by decide) ?_
    refine lv_aload_n hx hb dX1_tell_28 rfl (lv_at hl 0 rfl) ?_
    refine va_get (ci := 1) (v := .int 0) (C := RX1) (T := TX1) (N := 3) hx hb hts hiX1 hown hK hP (0) rfl rfl 0 (by decide) (hts (.fieldLink RX1 7 "KingdomAtDice$Dice" "kind" "I") (by decide +kernel)) (fun _ h9 => h9) rfl dX1_tell_29 ?_
    exact kd_iret hx hb hr hlocks hK hS dX1_tell_32 (()) (by rw [sp_tell_0, if_pos c_1_0]) hP hD
  · by_cases c_1_1 : p0 = 1
    · refine lv_tableIn (off := 32) (tgt := 33) hx hb dX1_tell_1 (by rw [c_1_1]; decide) (by rw [c_1_1]; decide) (by rw [c_1_1]; rfl) (by decide) ?_
      refine lv_iconst (v := 2) hx hb dX1_tell_33 (by decide) ?_
      refine lv_aload_n hx hb dX1_tell_34 rfl (lv_at hl 0 rfl) ?_
      refine va_get (ci := 1) (v := .int 1) (C := RX1) (T := TX1) (N := 3) hx hb hts hiX1 hown hK hP (0) rfl rfl 1 (by decide) (hts (.fieldLink RX1 13 "KingdomAtDice$Dice" "least" "I") (by decide +kernel)) (fun _ h9 => h9) rfl dX1_tell_35 ?_
      refine lv_imul hx hb dX1_tell_38 ?_
      refine kd_top (y := 2) (by decide) ?_
      exact kd_iret hx hb hr hlocks hK hS dX1_tell_39 (()) (by rw [sp_tell_0, if_neg c_1_0, if_pos c_1_1]) hP hD
    · by_cases c_1_2 : p0 = 2
      · refine lv_tableIn (off := 39) (tgt := 40) hx hb dX1_tell_1 (by rw [c_1_2]; decide) (by rw [c_1_2]; decide) (by rw [c_1_2]; rfl) (by decide) ?_
        refine lv_iconst (v := 2) hx hb dX1_tell_40 (by decide) ?_
        refine lv_aload_n hx hb dX1_tell_41 rfl (lv_at hl 0 rfl) ?_
        refine va_get (ci := 1) (v := .int 6) (C := RX1) (T := TX1) (N := 3) hx hb hts hiX1 hown hK hP (0) rfl rfl 2 (by decide) (hts (.fieldLink RX1 16 "KingdomAtDice$Dice" "greatest" "I") (by decide +kernel)) (fun _ h9 => h9) rfl dX1_tell_42 ?_
        refine lv_imul hx hb dX1_tell_45 ?_
        refine kd_top (y := 12) (by decide) ?_
        exact kd_iret hx hb hr hlocks hK hS dX1_tell_46 (()) (by rw [sp_tell_0, if_neg c_1_0, if_neg c_1_1, if_pos c_1_2]) hP hD
      · refine lv_tableOut (tgt := 47) hx hb dX1_tell_1 (by have z0 := kd_ne2 c_1_0 (k := 0) (by decide); have z1 := kd_ne2 c_1_1 (k := 1) (by decide); have z2 := kd_ne2 c_1_2 (k := 2) (by decide); omega) (by decide) ?_
        refine lv_aload_n hx hb dX1_tell_47 rfl (lv_at hl 0 rfl) ?_
        refine kd_callIK (g := g) (wc := (kd_dc dq)) (va_runV (mc := 0) (ms := 0) (rm := { frames := 1, cells := 0, slots := 0, locals := 20 }) (As := []) (rest := []) ⟨hx, hb, hml, hown, hts⟩ (c_wayMany_0 l g s.heap.size dq ) (cwV 0 hts gX1_tell_X1_wayMany rfl rfl rfl (by decide +kernel) ⟨Nat.le_of_ble_eq_true rfl, Nat.le_of_ble_eq_true rfl⟩) (kd_preV (wc := (kd_dc dq)) (va_recv hK hP (ci := 1) (q0 := 0) rfl rfl) hP hD hS hA hK hE [0, 1, 2, 3, 4] rfl (by decide)) rfl rfl hl.1 rfl (lv_room (Nat.le_of_ble_eq_true rfl)) dX1_tell_48 ⟨Nat.le_of_ble_eq_true rfl, Nat.le_of_ble_eq_true rfl⟩) hP hD hS hA [0, 1, 2, 3, 4] rfl (fun r_48 _ H locs hw hP hS => ?_)
        obtain rfl : r_48 = 36 := hw
        exact kd_iret hx hb hr hlocks hK hS dX1_tell_51 (()) (by rw [sp_tell_0, if_neg c_1_0, if_neg c_1_1, if_neg c_1_2]) hP hD
/-- what KingdomAtDice$Dice.faces answers and leaves, by its instructions -/
def sp_faces_1  : Int32 :=
  5
set_option maxHeartbeats 4000000 in
set_option maxRecDepth 100000 in
theorem c_faces_1 (l : Launch) (g : kd_G) (sz : Nat) (dq : Nat → Nat)  : kd_MI l yX1_faces wsX1_faces ({ frames := 0, cells := 0, slots := 0, locals := 0 }) [.ref (dq 1)] g (kd_dc dq) sz (fun r (_ : Unit) => r = sp_faces_1) (fun _ => (kd_dc dq)) 0 0 := by
  refine kd_met (l := l) (y := yX1_faces) (ws := wsX1_faces) (rm := { frames := 0, cells := 0, slots := 0, locals := 0 }) (av := [.ref (dq 1)]) (g := g) (WS := (kd_dc dq)) (sz := sz) (mc := 0) (ms := 0) (cc := cX1_faces) (maxL := 1) (ret := (some .int)) (own := RX1) (fun A => va_Qi (fun r (_ : Unit) => r = sp_faces_1) (fun u t => kd_post g A (kd_dc dq) t) A) (by decide) rfl rfl (Nat.le_of_ble_eq_true rfl) ?_
  intro p e s m below meth c A ls hx hb hr hml hts hown hlocks hnm hA hP hK hD hS hE hl
  have hl : lv_has ls 1 [(0, .ref (dq 1))] := hl
  have hiX3 : ∀ w ∈ u_ws RX3 TX3 3, w ∈ wsX1_faces := by decide +kernel
  refine lv_aload_n hx hb dX1_faces_0 rfl (lv_at hl 0 rfl) ?_
  refine va_get (ci := 3) (v := .int 6) (C := RX3) (T := TX3) (N := 3) hx hb hts hiX3 hown hK hP (1) rfl rfl 2 (by decide) (hts (.fieldLink RX1 16 "KingdomAtDice$Dice" "greatest" "I") (by decide +kernel)) (fun _ h9 => h9) rfl dX1_faces_1 ?_
  refine lv_aload_n hx hb dX1_faces_4 rfl (lv_at hl 0 rfl) ?_
  refine va_get (ci := 3) (v := .int 2) (C := RX3) (T := TX3) (N := 3) hx hb hts hiX3 hown hK hP (1) rfl rfl 1 (by decide) (hts (.fieldLink RX1 13 "KingdomAtDice$Dice" "least" "I") (by decide +kernel)) (fun _ h9 => h9) rfl dX1_faces_5 ?_
  refine lv_isub hx hb dX1_faces_8 ?_
  refine kd_top (y := 4) (by decide) ?_
  refine lv_iconst (v := 1) hx hb dX1_faces_9 (by decide) ?_
  refine lv_iadd hx hb dX1_faces_10 ?_
  refine kd_top (y := 5) (by decide) ?_
  exact kd_iret hx hb hr hlocks hK hS dX1_faces_11 (()) (rfl) hP hD
/-- what KingdomAtDice$Dice.wayMany answers and leaves, by its instructions -/
def sp_wayMany_1  : Int32 :=
  25
set_option maxHeartbeats 4000000 in
set_option maxRecDepth 100000 in
theorem c_wayMany_1 (l : Launch) (g : kd_G) (sz : Nat) (dq : Nat → Nat)  : kd_MI l yX1_wayMany wsX1_wayMany ({ frames := 1, cells := 0, slots := 0, locals := 20 }) [.ref (dq 1)] g (kd_dc dq) sz (fun r (_ : Unit) => r = sp_wayMany_1) (fun _ => (kd_dc dq)) 0 0 := by
  refine kd_met (l := l) (y := yX1_wayMany) (ws := wsX1_wayMany) (rm := { frames := 1, cells := 0, slots := 0, locals := 20 }) (av := [.ref (dq 1)]) (g := g) (WS := (kd_dc dq)) (sz := sz) (mc := 0) (ms := 0) (cc := cX1_wayMany) (maxL := 1) (ret := (some .int)) (own := RX1) (fun A => va_Qi (fun r (_ : Unit) => r = sp_wayMany_1) (fun u t => kd_post g A (kd_dc dq) t) A) (by decide) rfl rfl (Nat.le_of_ble_eq_true rfl) ?_
  intro p e s m below meth c A ls hx hb hr hml hts hown hlocks hnm hA hP hK hD hS hE hl
  have hl : lv_has ls 1 [(0, .ref (dq 1))] := hl
  refine lv_aload_n hx hb dX1_wayMany_0 rfl (lv_at hl 0 rfl) ?_
  refine kd_callIK (g := g) (wc := (kd_dc dq)) (va_runU (mc := 0) (ms := 0) (rm := { frames := 0, cells := 0, slots := 0, locals := 0 }) (C := RX3) (As := []) (rest := []) ⟨hx, hb, hml, hown, hts⟩ (c_faces_1 l g s.heap.size dq ) (va_cwU 0 hts gX1_wayMany_X1_faces_u23X3 rfl rfl rfl rfl (by decide +kernel) ⟨Nat.le_of_ble_eq_true rfl, Nat.le_of_ble_eq_true rfl⟩) (kd_preV (wc := (kd_dc dq)) (va_recv hK hP (ci := 3) (q0 := 1) rfl rfl) hP hD hS hA hK hE [0, 1, 2, 3, 4] rfl (by decide)) rfl rfl hl.1 rfl (lv_room (Nat.le_of_ble_eq_true rfl)) dX1_wayMany_1 ⟨Nat.le_of_ble_eq_true rfl, Nat.le_of_ble_eq_true rfl⟩) hP hD hS hA [0, 1, 2, 3, 4] rfl (fun r_1 _ H locs hw hP hS => ?_)
  obtain rfl : r_1 = 5 := hw
  refine lv_aload_n hx hb dX1_wayMany_4 rfl (lv_at hl 0 rfl) ?_
  refine kd_callIK (g := g) (wc := (kd_dc dq)) (va_runU (mc := 0) (ms := 0) (rm := { frames := 0, cells := 0, slots := 0, locals := 0 }) (C := RX3) (As := []) (rest := [.int 5]) ⟨hx, hb, hml, hown, hts⟩ (c_faces_1 l g H.size dq ) (va_cwU 0 hts gX1_wayMany_X1_faces_u23X3 rfl rfl rfl rfl (by decide +kernel) ⟨Nat.le_of_ble_eq_true rfl, Nat.le_of_ble_eq_true rfl⟩) (kd_preV (wc := (kd_dc dq)) (va_recv hK hP (ci := 3) (q0 := 1) rfl rfl) hP hD hS hA hK hE [0, 1, 2, 3, 4] rfl (by decide)) rfl rfl hl.1 rfl (lv_room (Nat.le_of_ble_eq_true rfl)) dX1_wayMany_5 ⟨Nat.le_of_ble_eq_true rfl, Nat.le_of_ble_eq_true rfl⟩) hP hD hS hA [0, 1, 2, 3, 4] rfl (fun r_5 _ H locs hw hP hS => ?_)
  obtain rfl : r_5 = 5 := hw
  refine lv_imul hx hb dX1_wayMany_8 ?_
  refine kd_top (y := 25) (by decide) ?_
  exact kd_iret hx hb hr hlocks hK hS dX1_wayMany_9 (()) (rfl) hP hD
set_option maxHeartbeats 4000000 in
set_option maxRecDepth 100000 in
theorem c_waysOf_1 (l : Launch) (g : kd_G) (sz : Nat) (dq : Nat → Nat) (p0 : Int32)  : kd_MI l yX1_waysOf wsX1_waysOf ({ frames := 1, cells := 0, slots := 0, locals := 20 }) [.ref (dq 1), .int p0] g (kd_dc dq) sz (fun r (_ : Unit) => r = kd_w 1 p0) (fun _ => (kd_dc dq)) 0 0 := by
  refine kd_met (l := l) (y := yX1_waysOf) (ws := wsX1_waysOf) (rm := { frames := 1, cells := 0, slots := 0, locals := 20 }) (av := [.ref (dq 1), .int p0]) (g := g) (WS := (kd_dc dq)) (sz := sz) (mc := 0) (ms := 0) (cc := cX1_waysOf) (maxL := 5) (ret := (some .int)) (own := RX1) (fun A => va_Qi (fun r (_ : Unit) => r = kd_w 1 p0) (fun u t => kd_post g A (kd_dc dq) t) A) (by decide) rfl rfl (Nat.le_of_ble_eq_true rfl) ?_
  intro p e s m below meth c A ls hx hb hr hml hts hown hlocks hnm hA hP hK hD hS hE hl
  have hl : lv_has ls 5 [(0, .ref (dq 1)), (1, .int p0)] := hl
  have hiX3 : ∀ w ∈ u_ws RX3 TX3 3, w ∈ wsX1_waysOf := by decide +kernel
  refine lv_iload_n hx hb dX1_waysOf_0 rfl (lv_at hl 1 rfl) ?_
  refine kd_callIK (g := g) (wc := []) (va_runSN (mc := 0) (ms := 0) (rm := { frames := 0, cells := 0, slots := 0, locals := 0 }) (host := "KingdomAtDice") (As := [.int p0]) (rest := []) ⟨hx, hb, hml, hown, hts⟩ (c_X10_isSum l g s.heap.size p0 ) ⟨va_cnB 1 hts gX1_waysOf_X10_isSum_n26 rfl rfl rfl (kd_N hE 20 rfl) (hts (.initialized RX10) (by decide +kernel)) (by decide +kernel) ⟨Nat.le_of_ble_eq_true rfl, Nat.le_of_ble_eq_true rfl⟩, (hts (.static yX10_isSum) (by decide +kernel)), trivial⟩ (kd_preS (wc := []) (av := [.int p0]) hP hD hS hA hK hE [] rfl (by decide)) rfl rfl hl.1 rfl (lv_room (Nat.le_of_ble_eq_true rfl)) dX1_waysOf_1 ⟨Nat.le_of_ble_eq_true rfl, Nat.le_of_ble_eq_true rfl⟩) hP hD hS hA [] rfl (fun r_1 _ H locs hw hP hS => ?_)
  subst hw
  refine lv_if_ne (tgt := 9) hx hb dX1_waysOf_4 (by decide) (fun c_4 => ?_) (fun c_4 => ?_)
  · refine lv_iconst (v := 0) hx hb dX1_waysOf_9 (by decide) ?_
    refine lv_istore_n (lv' := [(2, .int 0), (0, .ref (dq 1)), (1, .int p0)]) hx hb dX1_waysOf_10 rfl hl (by decide) rfl (fun ls hl => ?_)
    refine lv_aload_n hx hb dX1_waysOf_11 rfl (lv_at hl 1 rfl) ?_
    refine va_get (ci := 3) (v := .int 2) (C := RX3) (T := TX3) (N := 3) hx hb hts hiX3 hown hK hP (1) rfl rfl 1 (by decide) (hts (.fieldLink RX1 13 "KingdomAtDice$Dice" "least" "I") (by decide +kernel)) (fun _ h9 => h9) rfl dX1_waysOf_12 ?_
    refine lv_istore_n (lv' := [(3, .int 2), (2, .int 0), (0, .ref (dq 1)), (1, .int p0)]) hx hb dX1_waysOf_15 rfl hl (by decide) rfl (fun ls hl => ?_)
    have loop_16 : ∀ (n_16 : Nat) (j : Nat) (a : Nat), (2 ≤ j) → (j ≤ 7) → (a = kd_wl 2 2 6 p0 (j - 2)) → (7 - j) < n_16 → ∀ (H : Heap) (locs : List Loc), va_P g.1 vwCl (kd_dc dq) H → va_D A (kd_dc dq) → va_S A s.heap H locs → ∀ (ls : Array Slot), lv_has ls 5 [(0, .ref (dq 1)), (1, .int p0), (2, .int (nI a)), (3, .int (nI j))] → W p l e ({ frames := 1, cells := 0, slots := 0, locals := 20 } : Room) s m ([.ref (dq 1), .int p0] : List Value).toArray below meth c H locs 0 0 (MQ below (va_Qi (fun r (_ : Unit) => r = kd_w 1 p0) (fun u t => kd_post g A (kd_dc dq) t) A) ([.ref (dq 1), .int p0] : List Value).toArray s 0 0 A) (F0 m 16 ls []) := by
      intro n_16
      induction n_16 with
      | zero => intro j a _ _ _ hm_16; exact absurd hm_16 (Nat.not_lt_zero _)
      | succ n_16 ih_16 =>
        intro j a hj hj2 ha hm_16 H locs hP hD hS ls hl
        refine lv_iload_n hx hb dX1_waysOf_16 rfl (lv_at hl 3 rfl) ?_
        refine lv_aload_n hx hb dX1_waysOf_17 rfl (lv_at hl 0 rfl) ?_
        refine va_get (ci := 3) (v := .int 6) (C := RX3) (T := TX3) (N := 3) hx hb hts hiX3 hown hK hP (1) rfl rfl 2 (by decide) (hts (.fieldLink RX1 16 "KingdomAtDice$Dice" "greatest" "I") (by decide +kernel)) (fun _ h9 => h9) rfl dX1_waysOf_18 ?_
        refine lv_icmp_gt (tgt := 56) hx hb dX1_waysOf_21 (by decide) (fun c_21 => ?_) (fun c_21 => ?_)
        · have n_21 : 6 < j := kd_cl (a := 6) (b := j) (by omega) (by omega) c_21
          refine lv_iload_n hx hb dX1_waysOf_56 rfl (lv_at hl 2 rfl) ?_
          exact kd_iret hx hb hr hlocks hK hS dX1_waysOf_57 (()) (by show _ = kd_w2 2 5 2 6 p0; rw [kd_w2, if_neg c_4, ha, show j = 7 by omega]) hP hD
        · have n_21 : j ≤ 6 := kd_cnl (a := 6) (b := j) (by omega) (by omega) c_21
          refine lv_iload_n hx hb dX1_waysOf_24 rfl (lv_at hl 1 rfl) ?_
          refine lv_iload_n hx hb dX1_waysOf_25 rfl (lv_at hl 3 rfl) ?_
          refine lv_isub hx hb dX1_waysOf_26 ?_
          refine lv_istore (lv' := [(4, .int (p0 - (nI j))), (0, .ref (dq 1)), (1, .int p0), (2, .int (nI a)), (3, .int (nI j))]) hx hb dX1_waysOf_27 hl (by decide) rfl (fun ls hl => ?_)
          refine lv_iload hx hb dX1_waysOf_29 (lv_at hl 0 rfl) ?_
          refine lv_aload_n hx hb dX1_waysOf_31 rfl (lv_at hl 1 rfl) ?_
          refine va_get (ci := 3) (v := .int 2) (C := RX3) (T := TX3) (N := 3) hx hb hts hiX3 hown hK hP (1) rfl rfl 1 (by decide) (hts (.fieldLink RX1 13 "KingdomAtDice$Dice" "least" "I") (by decide +kernel)) (fun _ h9 => h9) rfl dX1_waysOf_32 ?_
          refine lv_icmp_lt (tgt := 50) hx hb dX1_waysOf_35 (by decide) (fun c_35 => ?_) (fun c_35 => ?_)
          · refine lv_iinc (v := nI (j + 1)) (lv' := [(3, .int (nI (j + 1))), (4, .int (p0 - (nI j))), (0, .ref (dq 1)), (1, .int p0), (2, .int (nI a))]) hx hb dX1_waysOf_50 hl (k := 4) rfl (nI_1 _) (by decide) rfl (fun ls hl => ?_)
            refine lv_goto (tgt := 16) hx hb dX1_waysOf_53 (by decide) ?_
            exact ih_16 (j + 1) a (by omega) (by omega) (by rw [show j + 1 - 2 = (j - 2) + 1 by omega, kd_wl, show 2 + (j - 2) = j by omega, ← ha]; first | rw [if_pos c_35] | rw [if_neg c_35, if_pos c_44] | rw [if_neg c_35, if_neg c_44]) (by omega) _ _ hP hD hS ls (lv_sub hl [2, 3, 4, 0] rfl)
          · refine lv_iload hx hb dX1_waysOf_38 (lv_at hl 0 rfl) ?_
            refine lv_aload_n hx hb dX1_waysOf_40 rfl (lv_at hl 1 rfl) ?_
            refine va_get (ci := 3) (v := .int 6) (C := RX3) (T := TX3) (N := 3) hx hb hts hiX3 hown hK hP (1) rfl rfl 2 (by decide) (hts (.fieldLink RX1 16 "KingdomAtDice$Dice" "greatest" "I") (by decide +kernel)) (fun _ h9 => h9) rfl dX1_waysOf_41 ?_
            refine lv_icmp_gt (tgt := 50) hx hb dX1_waysOf_44 (by decide) (fun c_44 => ?_) (fun c_44 => ?_)
            · refine lv_iinc (v := nI (j + 1)) (lv' := [(3, .int (nI (j + 1))), (4, .int (p0 - (nI j))), (0, .ref (dq 1)), (1, .int p0), (2, .int (nI a))]) hx hb dX1_waysOf_50 hl (k := 4) rfl (nI_1 _) (by decide) rfl (fun ls hl => ?_)
              refine lv_goto (tgt := 16) hx hb dX1_waysOf_53 (by decide) ?_
              exact ih_16 (j + 1) a (by omega) (by omega) (by rw [show j + 1 - 2 = (j - 2) + 1 by omega, kd_wl, show 2 + (j - 2) = j by omega, ← ha]; first | rw [if_pos c_35] | rw [if_neg c_35, if_pos c_44] | rw [if_neg c_35, if_neg c_44]) (by omega) _ _ hP hD hS ls (lv_sub hl [2, 3, 4, 0] rfl)
            · refine lv_iinc (v := nI (a + 1)) (lv' := [(2, .int (nI (a + 1))), (4, .int (p0 - (nI j))), (0, .ref (dq 1)), (1, .int p0), (3, .int (nI j))]) hx hb dX1_waysOf_47 hl (k := 3) rfl (nI_1 _) (by decide) rfl (fun ls hl => ?_)
              refine lv_iinc (v := nI (j + 1)) (lv' := [(3, .int (nI (j + 1))), (2, .int (nI (a + 1))), (4, .int (p0 - (nI j))), (0, .ref (dq 1)), (1, .int p0)]) hx hb dX1_waysOf_50 hl (k := 4) rfl (nI_1 _) (by decide) rfl (fun ls hl => ?_)
              refine lv_goto (tgt := 16) hx hb dX1_waysOf_53 (by decide) ?_
              exact ih_16 (j + 1) (a + 1) (by omega) (by omega) (by rw [show j + 1 - 2 = (j - 2) + 1 by omega, kd_wl, show 2 + (j - 2) = j by omega, ← ha]; first | rw [if_pos c_35] | rw [if_neg c_35, if_pos c_44] | rw [if_neg c_35, if_neg c_44]) (by omega) _ _ hP hD hS ls (lv_sub hl [3, 4, 1, 0] rfl)
    exact loop_16 ((7 - 2) + 1) 2 0 (by decide) (by decide) rfl (Nat.lt_succ_self _) _ _ hP hD hS ls (lv_sub hl [2, 3, 1, 0] rfl)
  · refine lv_iconst (v := 0) hx hb dX1_waysOf_7 (by decide) ?_
    exact kd_iret hx hb hr hlocks hK hS dX1_waysOf_8 (()) (by show _ = kd_w2 2 5 2 6 p0; rw [kd_w2, if_pos c_4]) hP hD
/-- what KingdomAtDice$Dice.fall answers and leaves, by its instructions -/
def sp_fall_1 (sd : Int64) : Int32 × Int64 :=
  (((2 + ((sp_X2_next sd 5).1)) + 2) + ((sp_X2_next ((sp_X2_next sd 5).2) 5).1), ((sp_X2_next ((sp_X2_next sd 5).2) 5).2))
set_option maxHeartbeats 4000000 in
set_option maxRecDepth 100000 in
theorem c_fall_1 (l : Launch) (g : kd_G) (sz : Nat) (dq : Nat → Nat) (dr : Nat) (sd : Int64)  : kd_MI l yX1_fall wsX1_fall ({ frames := 1, cells := 0, slots := 0, locals := 21 }) [.ref (dq 1), .ref dr] g (kd_dc dq ++ [(dr, .inr (2, [.long sd]))]) sz (fun r (u : Int64) => (r, u) = sp_fall_1 sd) (fun u => (kd_dc dq ++ [(dr, .inr (2, [.long u]))])) 0 0 := by
  refine kd_met (l := l) (y := yX1_fall) (ws := wsX1_fall) (rm := { frames := 1, cells := 0, slots := 0, locals := 21 }) (av := [.ref (dq 1), .ref dr]) (g := g) (WS := (kd_dc dq ++ [(dr, .inr (2, [.long sd]))])) (sz := sz) (mc := 0) (ms := 0) (cc := cX1_fall) (maxL := 3) (ret := (some .int)) (own := RX1) (fun A => va_Qi (fun r (u : Int64) => (r, u) = sp_fall_1 sd) (fun u t => kd_post g A (kd_dc dq ++ [(dr, .inr (2, [.long u]))]) t) A) (by decide) rfl rfl (Nat.le_of_ble_eq_true rfl) ?_
  intro p e s m below meth c A ls hx hb hr hml hts hown hlocks hnm hA hP hK hD hS hE hl
  have hl : lv_has ls 3 [(0, .ref (dq 1)), (1, .ref dr)] := hl
  have hiX3 : ∀ w ∈ u_ws RX3 TX3 3, w ∈ wsX1_fall := by decide +kernel
  refine lv_aload_n hx hb dX1_fall_0 rfl (lv_at hl 0 rfl) ?_
  refine va_get (ci := 3) (v := .int 2) (C := RX3) (T := TX3) (N := 3) hx hb hts hiX3 hown hK hP (1) rfl rfl 1 (by decide) (hts (.fieldLink RX1 13 "KingdomAtDice$Dice" "least" "I") (by decide +kernel)) (fun _ h9 => h9) rfl dX1_fall_1 ?_
  refine lv_aload_n hx hb dX1_fall_4 rfl (lv_at hl 1 rfl) ?_
  refine lv_aload_n hx hb dX1_fall_5 rfl (lv_at hl 0 rfl) ?_
  refine kd_callIK (g := g) (wc := (kd_dc dq)) (va_runU (mc := 0) (ms := 0) (rm := { frames := 0, cells := 0, slots := 0, locals := 0 }) (C := RX3) (As := []) (rest := [.ref dr, .int 2]) ⟨hx, hb, hml, hown, hts⟩ (c_faces_1 l g s.heap.size dq ) (va_cwU 0 hts gX1_fall_X1_faces_u23X3 rfl rfl rfl rfl (by decide +kernel) ⟨Nat.le_of_ble_eq_true rfl, Nat.le_of_ble_eq_true rfl⟩) (kd_preV (wc := (kd_dc dq)) (va_recv hK hP (ci := 3) (q0 := 1) rfl rfl) hP hD hS hA hK hE [0, 1, 2, 3, 4] rfl (by decide)) rfl rfl hl.1 rfl (lv_room (Nat.le_of_ble_eq_true rfl)) dX1_fall_6 ⟨Nat.le_of_ble_eq_true rfl, Nat.le_of_ble_eq_true rfl⟩) hP hD hS hA [0, 1, 2, 3, 4] rfl (fun r_6 _ H locs hw hP hS => ?_)
  obtain rfl : r_6 = 5 := hw
  refine kd_callIJ (Wf := fun (u : Int64) => [(dr, .inr (2, [.long u]))]) (g := g) (wc := [(dr, .inr (2, [.long sd]))]) (wr := (kd_dc dq)) (va_runVN (mc := 0) (ms := 0) (rm := { frames := 0, cells := 0, slots := 0, locals := 0 }) (C := RX2) (host := "KingdomAtDice") (As := [.int 5]) (rest := [.int 2]) ⟨hx, hb, hml, hown, hts⟩ (c_X2_next l g H.size dr sd 5 ) ⟨va_cnB 1 hts gX1_fall_X2_next_n32 rfl rfl rfl (kd_N hE 40 rfl) (hts (.initialized RX2) (by decide +kernel)) (by decide +kernel) ⟨Nat.le_of_ble_eq_true rfl, Nat.le_of_ble_eq_true rfl⟩, (hts (.instanceMethod yX2_next) (by decide +kernel)), (hts (.selects RX2 yX2_next yX2_next) (by decide +kernel))⟩ (kd_preV (wc := [(dr, .inr (2, [.long sd]))]) (va_recv hK hP (ci := 2) (q0 := 5) rfl rfl) hP hD hS hA hK hE [5] rfl (by decide)) rfl rfl hl.1 rfl (lv_room (Nat.le_of_ble_eq_true rfl)) dX1_fall_9 ⟨Nat.le_of_ble_eq_true rfl, Nat.le_of_ble_eq_true rfl⟩) hP hD hS hA [5] [0, 1, 2, 3, 4] rfl rfl (by decide) (by decide) (fun r_9 u_9 H locs hw_9 hP hD hS => ?_)
  obtain ⟨sd_9, rfl⟩ : ∃ z, z = u_9 := ⟨_, rfl⟩
  have hP : va_P g.1 vwCl ((kd_dc dq) ++ [(dr, .inr (2, [.long sd_9]))]) H := hP
  have hD : va_D A ((kd_dc dq) ++ [(dr, .inr (2, [.long sd_9]))]) := hD
  refine lv_iadd hx hb dX1_fall_12 ?_
  refine lv_istore_n (lv' := [(2, .int (2 + r_9)), (0, .ref (dq 1)), (1, .ref dr)]) hx hb dX1_fall_13 rfl hl (by decide) rfl (fun ls hl => ?_)
  refine lv_iload_n hx hb dX1_fall_14 rfl (lv_at hl 0 rfl) ?_
  refine lv_aload_n hx hb dX1_fall_15 rfl (lv_at hl 1 rfl) ?_
  refine va_get (ci := 3) (v := .int 2) (C := RX3) (T := TX3) (N := 3) hx hb hts hiX3 hown hK hP (1) rfl rfl 1 (by decide) (hts (.fieldLink RX1 13 "KingdomAtDice$Dice" "least" "I") (by decide +kernel)) (fun _ h9 => h9) rfl dX1_fall_16 ?_
  refine lv_iadd hx hb dX1_fall_19 ?_
  refine lv_aload_n hx hb dX1_fall_20 rfl (lv_at hl 2 rfl) ?_
  refine lv_aload_n hx hb dX1_fall_21 rfl (lv_at hl 1 rfl) ?_
  refine kd_callIK (g := g) (wc := (kd_dc dq)) (va_runU (mc := 0) (ms := 0) (rm := { frames := 0, cells := 0, slots := 0, locals := 0 }) (C := RX3) (As := []) (rest := [.ref dr, .int ((2 + r_9) + 2)]) ⟨hx, hb, hml, hown, hts⟩ (c_faces_1 l g H.size dq ) (va_cwU 0 hts gX1_fall_X1_faces_u23X3 rfl rfl rfl rfl (by decide +kernel) ⟨Nat.le_of_ble_eq_true rfl, Nat.le_of_ble_eq_true rfl⟩) (kd_preV (wc := (kd_dc dq)) (va_recv hK hP (ci := 3) (q0 := 1) rfl rfl) hP hD hS hA hK hE [0, 1, 2, 3, 4] rfl (by decide)) rfl rfl hl.1 rfl (lv_room (Nat.le_of_ble_eq_true rfl)) dX1_fall_22 ⟨Nat.le_of_ble_eq_true rfl, Nat.le_of_ble_eq_true rfl⟩) hP hD hS hA [0, 1, 2, 3, 4] rfl (fun r_22 _ H locs hw hP hS => ?_)
  obtain rfl : r_22 = 5 := hw
  refine kd_callIJ (Wf := fun (u : Int64) => [(dr, .inr (2, [.long u]))]) (g := g) (wc := [(dr, .inr (2, [.long sd_9]))]) (wr := (kd_dc dq)) (va_runVN (mc := 0) (ms := 0) (rm := { frames := 0, cells := 0, slots := 0, locals := 0 }) (C := RX2) (host := "KingdomAtDice") (As := [.int 5]) (rest := [.int ((2 + r_9) + 2)]) ⟨hx, hb, hml, hown, hts⟩ (c_X2_next l g H.size dr sd_9 5 ) ⟨va_cnB 1 hts gX1_fall_X2_next_n32 rfl rfl rfl (kd_N hE 40 rfl) (hts (.initialized RX2) (by decide +kernel)) (by decide +kernel) ⟨Nat.le_of_ble_eq_true rfl, Nat.le_of_ble_eq_true rfl⟩, (hts (.instanceMethod yX2_next) (by decide +kernel)), (hts (.selects RX2 yX2_next yX2_next) (by decide +kernel))⟩ (kd_preV (wc := [(dr, .inr (2, [.long sd_9]))]) (va_recv hK hP (ci := 2) (q0 := 5) rfl rfl) hP hD hS hA hK hE [5] rfl (by decide)) rfl rfl hl.1 rfl (lv_room (Nat.le_of_ble_eq_true rfl)) dX1_fall_25 ⟨Nat.le_of_ble_eq_true rfl, Nat.le_of_ble_eq_true rfl⟩) hP hD hS hA [5] [0, 1, 2, 3, 4] rfl rfl (by decide) (by decide) (fun r_25 u_25 H locs hw_25 hP hD hS => ?_)
  obtain ⟨sd_25, rfl⟩ : ∃ z, z = u_25 := ⟨_, rfl⟩
  have hP : va_P g.1 vwCl ((kd_dc dq) ++ [(dr, .inr (2, [.long sd_25]))]) H := hP
  have hD : va_D A ((kd_dc dq) ++ [(dr, .inr (2, [.long sd_25]))]) := hD
  refine lv_iadd hx hb dX1_fall_28 ?_
  exact kd_iret hx hb hr hlocks hK hS dX1_fall_29 (sd_25) (by obtain ⟨rfl, rfl⟩ := kd_eq2 hw_9; obtain ⟨rfl, rfl⟩ := kd_eq2 hw_25; rfl) (hP.sub (ws' := (kd_dc dq ++ [(dr, .inr (2, [.long sd_25]))])) [0, 1, 2, 3, 4, 5] rfl) (hD.sub (ws' := (kd_dc dq ++ [(dr, .inr (2, [.long sd_25]))])) [0, 1, 2, 3, 4, 5] (by decide) rfl)
/-- what KingdomAtDice$Dice.tell answers and leaves, by its instructions -/
def sp_tell_1 (p0 : Int32) : Int32 :=
  if p0 = 0 then
    1
  else
    if p0 = 1 then
      4
    else
      if p0 = 2 then
        12
      else
        25
set_option maxHeartbeats 4000000 in
set_option maxRecDepth 100000 in
theorem c_tell_1 (l : Launch) (g : kd_G) (sz : Nat) (dq : Nat → Nat) (p0 : Int32)  : kd_MI l yX1_tell wsX1_tell ({ frames := 2, cells := 0, slots := 0, locals := 40 }) [.ref (dq 1), .int p0] g (kd_dc dq) sz (fun r (_ : Unit) => r = sp_tell_1 p0) (fun _ => (kd_dc dq)) 0 0 := by
  refine kd_met (l := l) (y := yX1_tell) (ws := wsX1_tell) (rm := { frames := 2, cells := 0, slots := 0, locals := 40 }) (av := [.ref (dq 1), .int p0]) (g := g) (WS := (kd_dc dq)) (sz := sz) (mc := 0) (ms := 0) (cc := cX1_tell) (maxL := 2) (ret := (some .int)) (own := RX1) (fun A => va_Qi (fun r (_ : Unit) => r = sp_tell_1 p0) (fun u t => kd_post g A (kd_dc dq) t) A) (by decide) rfl rfl (Nat.le_of_ble_eq_true rfl) ?_
  intro p e s m below meth c A ls hx hb hr hml hts hown hlocks hnm hA hP hK hD hS hE hl
  have hl : lv_has ls 2 [(0, .ref (dq 1)), (1, .int p0)] := hl
  have hiX3 : ∀ w ∈ u_ws RX3 TX3 3, w ∈ wsX1_tell := by decide +kernel
  refine lv_iload_n hx hb dX1_tell_0 rfl (lv_at hl 1 rfl) ?_
  by_cases c_1_0 : p0 = 0
  · refine lv_tableIn (off := 27) (tgt := 28) hx hb dX1_tell_1 (by rw [c_1_0]; decide) (by rw [c_1_0]; decide) (by rw [c_1_0]; rfl) (by decide) ?_
    refine lv_aload_n hx hb dX1_tell_28 rfl (lv_at hl 0 rfl) ?_
    refine va_get (ci := 3) (v := .int 1) (C := RX3) (T := TX3) (N := 3) hx hb hts hiX3 hown hK hP (1) rfl rfl 0 (by decide) (hts (.fieldLink RX1 7 "KingdomAtDice$Dice" "kind" "I") (by decide +kernel)) (fun _ h9 => h9) rfl dX1_tell_29 ?_
    exact kd_iret hx hb hr hlocks hK hS dX1_tell_32 (()) (by rw [sp_tell_1, if_pos c_1_0]) hP hD
  · by_cases c_1_1 : p0 = 1
    · refine lv_tableIn (off := 32) (tgt := 33) hx hb dX1_tell_1 (by rw [c_1_1]; decide) (by rw [c_1_1]; decide) (by rw [c_1_1]; rfl) (by decide) ?_
      refine lv_iconst (v := 2) hx hb dX1_tell_33 (by decide) ?_
      refine lv_aload_n hx hb dX1_tell_34 rfl (lv_at hl 0 rfl) ?_
      refine va_get (ci := 3) (v := .int 2) (C := RX3) (T := TX3) (N := 3) hx hb hts hiX3 hown hK hP (1) rfl rfl 1 (by decide) (hts (.fieldLink RX1 13 "KingdomAtDice$Dice" "least" "I") (by decide +kernel)) (fun _ h9 => h9) rfl dX1_tell_35 ?_
      refine lv_imul hx hb dX1_tell_38 ?_
      refine kd_top (y := 4) (by decide) ?_
      exact kd_iret hx hb hr hlocks hK hS dX1_tell_39 (()) (by rw [sp_tell_1, if_neg c_1_0, if_pos c_1_1]) hP hD
    · by_cases c_1_2 : p0 = 2
      · refine lv_tableIn (off := 39) (tgt := 40) hx hb dX1_tell_1 (by rw [c_1_2]; decide) (by rw [c_1_2]; decide) (by rw [c_1_2]; rfl) (by decide) ?_
        refine lv_iconst (v := 2) hx hb dX1_tell_40 (by decide) ?_
        refine lv_aload_n hx hb dX1_tell_41 rfl (lv_at hl 0 rfl) ?_
        refine va_get (ci := 3) (v := .int 6) (C := RX3) (T := TX3) (N := 3) hx hb hts hiX3 hown hK hP (1) rfl rfl 2 (by decide) (hts (.fieldLink RX1 16 "KingdomAtDice$Dice" "greatest" "I") (by decide +kernel)) (fun _ h9 => h9) rfl dX1_tell_42 ?_
        refine lv_imul hx hb dX1_tell_45 ?_
        refine kd_top (y := 12) (by decide) ?_
        exact kd_iret hx hb hr hlocks hK hS dX1_tell_46 (()) (by rw [sp_tell_1, if_neg c_1_0, if_neg c_1_1, if_pos c_1_2]) hP hD
      · refine lv_tableOut (tgt := 47) hx hb dX1_tell_1 (by have z0 := kd_ne2 c_1_0 (k := 0) (by decide); have z1 := kd_ne2 c_1_1 (k := 1) (by decide); have z2 := kd_ne2 c_1_2 (k := 2) (by decide); omega) (by decide) ?_
        refine lv_aload_n hx hb dX1_tell_47 rfl (lv_at hl 0 rfl) ?_
        refine kd_callIK (g := g) (wc := (kd_dc dq)) (va_runU (mc := 0) (ms := 0) (rm := { frames := 1, cells := 0, slots := 0, locals := 20 }) (C := RX3) (As := []) (rest := []) ⟨hx, hb, hml, hown, hts⟩ (c_wayMany_1 l g s.heap.size dq ) (va_cwU 0 hts gX1_tell_X1_wayMany_u19X3 rfl rfl rfl rfl (by decide +kernel) ⟨Nat.le_of_ble_eq_true rfl, Nat.le_of_ble_eq_true rfl⟩) (kd_preV (wc := (kd_dc dq)) (va_recv hK hP (ci := 3) (q0 := 1) rfl rfl) hP hD hS hA hK hE [0, 1, 2, 3, 4] rfl (by decide)) rfl rfl hl.1 rfl (lv_room (Nat.le_of_ble_eq_true rfl)) dX1_tell_48 ⟨Nat.le_of_ble_eq_true rfl, Nat.le_of_ble_eq_true rfl⟩) hP hD hS hA [0, 1, 2, 3, 4] rfl (fun r_48 _ H locs hw hP hS => ?_)
        obtain rfl : r_48 = 25 := hw
        exact kd_iret hx hb hr hlocks hK hS dX1_tell_51 (()) (by rw [sp_tell_1, if_neg c_1_0, if_neg c_1_1, if_neg c_1_2]) hP hD
/-- what KingdomAtDice$Dice.faces answers and leaves, by its instructions -/
def sp_faces_2  : Int32 :=
  6
set_option maxHeartbeats 4000000 in
set_option maxRecDepth 100000 in
theorem c_faces_2 (l : Launch) (g : kd_G) (sz : Nat) (dq : Nat → Nat)  : kd_MI l yX1_faces wsX1_faces ({ frames := 0, cells := 0, slots := 0, locals := 0 }) [.ref (dq 2)] g (kd_dc dq) sz (fun r (_ : Unit) => r = sp_faces_2) (fun _ => (kd_dc dq)) 0 0 := by
  refine kd_met (l := l) (y := yX1_faces) (ws := wsX1_faces) (rm := { frames := 0, cells := 0, slots := 0, locals := 0 }) (av := [.ref (dq 2)]) (g := g) (WS := (kd_dc dq)) (sz := sz) (mc := 0) (ms := 0) (cc := cX1_faces) (maxL := 1) (ret := (some .int)) (own := RX1) (fun A => va_Qi (fun r (_ : Unit) => r = sp_faces_2) (fun u t => kd_post g A (kd_dc dq) t) A) (by decide) rfl rfl (Nat.le_of_ble_eq_true rfl) ?_
  intro p e s m below meth c A ls hx hb hr hml hts hown hlocks hnm hA hP hK hD hS hE hl
  have hl : lv_has ls 1 [(0, .ref (dq 2))] := hl
  have hiX9 : ∀ w ∈ u_ws RX9 TX9 3, w ∈ wsX1_faces := by decide +kernel
  refine lv_aload_n hx hb dX1_faces_0 rfl (lv_at hl 0 rfl) ?_
  refine va_get (ci := 9) (v := .int 6) (C := RX9) (T := TX9) (N := 3) hx hb hts hiX9 hown hK hP (2) rfl rfl 2 (by decide) (hts (.fieldLink RX1 16 "KingdomAtDice$Dice" "greatest" "I") (by decide +kernel)) (fun _ h9 => h9) rfl dX1_faces_1 ?_
  refine lv_aload_n hx hb dX1_faces_4 rfl (lv_at hl 0 rfl) ?_
  refine va_get (ci := 9) (v := .int 1) (C := RX9) (T := TX9) (N := 3) hx hb hts hiX9 hown hK hP (2) rfl rfl 1 (by decide) (hts (.fieldLink RX1 13 "KingdomAtDice$Dice" "least" "I") (by decide +kernel)) (fun _ h9 => h9) rfl dX1_faces_5 ?_
  refine lv_isub hx hb dX1_faces_8 ?_
  refine kd_top (y := 5) (by decide) ?_
  refine lv_iconst (v := 1) hx hb dX1_faces_9 (by decide) ?_
  refine lv_iadd hx hb dX1_faces_10 ?_
  refine kd_top (y := 6) (by decide) ?_
  exact kd_iret hx hb hr hlocks hK hS dX1_faces_11 (()) (rfl) hP hD
/-- what KingdomAtDice$Twins.wayMany answers and leaves, by its instructions -/
def sp_wayMany_2  : Int32 :=
  6
set_option maxHeartbeats 4000000 in
set_option maxRecDepth 100000 in
theorem c_wayMany_2 (l : Launch) (g : kd_G) (sz : Nat) (dq : Nat → Nat)  : kd_MI l yX9_wayMany wsX9_wayMany ({ frames := 1, cells := 0, slots := 0, locals := 20 }) [.ref (dq 2)] g (kd_dc dq) sz (fun r (_ : Unit) => r = sp_wayMany_2) (fun _ => (kd_dc dq)) 0 0 := by
  refine kd_met (l := l) (y := yX9_wayMany) (ws := wsX9_wayMany) (rm := { frames := 1, cells := 0, slots := 0, locals := 20 }) (av := [.ref (dq 2)]) (g := g) (WS := (kd_dc dq)) (sz := sz) (mc := 0) (ms := 0) (cc := cX9_wayMany) (maxL := 1) (ret := (some .int)) (own := RX9) (fun A => va_Qi (fun r (_ : Unit) => r = sp_wayMany_2) (fun u t => kd_post g A (kd_dc dq) t) A) (by decide) rfl rfl (Nat.le_of_ble_eq_true rfl) ?_
  intro p e s m below meth c A ls hx hb hr hml hts hown hlocks hnm hA hP hK hD hS hE hl
  have hl : lv_has ls 1 [(0, .ref (dq 2))] := hl
  refine lv_aload_n hx hb dX9_wayMany_0 rfl (lv_at hl 0 rfl) ?_
  refine kd_callIK (g := g) (wc := (kd_dc dq)) (va_runU (mc := 0) (ms := 0) (rm := { frames := 0, cells := 0, slots := 0, locals := 0 }) (C := RX9) (As := []) (rest := []) ⟨hx, hb, hml, hown, hts⟩ (c_faces_2 l g s.heap.size dq ) (va_cwU 0 hts gX9_wayMany_X1_faces_u9X9 rfl rfl rfl rfl (by decide +kernel) ⟨Nat.le_of_ble_eq_true rfl, Nat.le_of_ble_eq_true rfl⟩) (kd_preV (wc := (kd_dc dq)) (va_recv hK hP (ci := 9) (q0 := 2) rfl rfl) hP hD hS hA hK hE [0, 1, 2, 3, 4] rfl (by decide)) rfl rfl hl.1 rfl (lv_room (Nat.le_of_ble_eq_true rfl)) dX9_wayMany_1 ⟨Nat.le_of_ble_eq_true rfl, Nat.le_of_ble_eq_true rfl⟩) hP hD hS hA [0, 1, 2, 3, 4] rfl (fun r_1 _ H locs hw hP hS => ?_)
  obtain rfl : r_1 = 6 := hw
  exact kd_iret hx hb hr hlocks hK hS dX9_wayMany_4 (()) (rfl) hP hD
set_option maxHeartbeats 4000000 in
set_option maxRecDepth 100000 in
theorem c_waysOf_2 (l : Launch) (g : kd_G) (sz : Nat) (dq : Nat → Nat) (p0 : Int32)  : kd_MI l yX9_waysOf wsX9_waysOf ({ frames := 1, cells := 0, slots := 0, locals := 20 }) [.ref (dq 2), .int p0] g (kd_dc dq) sz (fun r (_ : Unit) => r = kd_w 2 p0) (fun _ => (kd_dc dq)) 0 0 := by
  refine kd_met (l := l) (y := yX9_waysOf) (ws := wsX9_waysOf) (rm := { frames := 1, cells := 0, slots := 0, locals := 20 }) (av := [.ref (dq 2), .int p0]) (g := g) (WS := (kd_dc dq)) (sz := sz) (mc := 0) (ms := 0) (cc := cX9_waysOf) (maxL := 2) (ret := (some .int)) (own := RX9) (fun A => va_Qi (fun r (_ : Unit) => r = kd_w 2 p0) (fun u t => kd_post g A (kd_dc dq) t) A) (by decide) rfl rfl (Nat.le_of_ble_eq_true rfl) ?_
  intro p e s m below meth c A ls hx hb hr hml hts hown hlocks hnm hA hP hK hD hS hE hl
  have hl : lv_has ls 2 [(0, .ref (dq 2)), (1, .int p0)] := hl
  refine lv_iload_n hx hb dX9_waysOf_0 rfl (lv_at hl 1 rfl) ?_
  refine kd_callIK (g := g) (wc := []) (va_runSN (mc := 0) (ms := 0) (rm := { frames := 0, cells := 0, slots := 0, locals := 0 }) (host := "KingdomAtDice") (As := [.int p0]) (rest := []) ⟨hx, hb, hml, hown, hts⟩ (c_X10_isSum l g s.heap.size p0 ) ⟨va_cnB 1 hts gX9_waysOf_X10_isSum_n15 rfl rfl rfl (kd_N hE 19 rfl) (hts (.initialized RX10) (by decide +kernel)) (by decide +kernel) ⟨Nat.le_of_ble_eq_true rfl, Nat.le_of_ble_eq_true rfl⟩, (hts (.static yX10_isSum) (by decide +kernel)), trivial⟩ (kd_preS (wc := []) (av := [.int p0]) hP hD hS hA hK hE [] rfl (by decide)) rfl rfl hl.1 rfl (lv_room (Nat.le_of_ble_eq_true rfl)) dX9_waysOf_1 ⟨Nat.le_of_ble_eq_true rfl, Nat.le_of_ble_eq_true rfl⟩) hP hD hS hA [] rfl (fun r_1 _ H locs hw hP hS => ?_)
  subst hw
  refine lv_if_eq (tgt := 17) hx hb dX9_waysOf_4 (by decide) (fun c_4 => ?_) (fun c_4 => ?_)
  · refine lv_iconst (v := 0) hx hb dX9_waysOf_17 (by decide) ?_
    exact kd_iret hx hb hr hlocks hK hS dX9_waysOf_18 (()) (by rw [kd_w, if_pos c_4]) hP hD
  · refine lv_iload_n hx hb dX9_waysOf_7 rfl (lv_at hl 1 rfl) ?_
    refine lv_iconst (v := 2) hx hb dX9_waysOf_8 (by decide) ?_
    refine lv_irem hx hb dX9_waysOf_9 (by decide) ?_
    refine lv_if_ne (tgt := 17) hx hb dX9_waysOf_10 (by decide) (fun c_10 => ?_) (fun c_10 => ?_)
    · refine lv_iconst (v := 0) hx hb dX9_waysOf_17 (by decide) ?_
      exact kd_iret hx hb hr hlocks hK hS dX9_waysOf_18 (()) (by rw [kd_w, if_neg c_4, if_neg c_10]) hP hD
    · refine lv_iconst (v := 1) hx hb dX9_waysOf_13 (by decide) ?_
      refine lv_goto (tgt := 18) hx hb dX9_waysOf_14 (by decide) ?_
      exact kd_iret hx hb hr hlocks hK hS dX9_waysOf_18 (()) (by rw [kd_w, if_neg c_4, if_pos c_10]) hP hD
/-- what KingdomAtDice$Twins.fall answers and leaves, by its instructions -/
def sp_fall_2 (sd : Int64) : Int32 × Int64 :=
  (2 * (1 + ((sp_X2_next sd 6).1)), ((sp_X2_next sd 6).2))
set_option maxHeartbeats 4000000 in
set_option maxRecDepth 100000 in
theorem c_fall_2 (l : Launch) (g : kd_G) (sz : Nat) (dq : Nat → Nat) (dr : Nat) (sd : Int64)  : kd_MI l yX9_fall wsX9_fall ({ frames := 1, cells := 0, slots := 0, locals := 21 }) [.ref (dq 2), .ref dr] g (kd_dc dq ++ [(dr, .inr (2, [.long sd]))]) sz (fun r (u : Int64) => (r, u) = sp_fall_2 sd) (fun u => (kd_dc dq ++ [(dr, .inr (2, [.long u]))])) 0 0 := by
  refine kd_met (l := l) (y := yX9_fall) (ws := wsX9_fall) (rm := { frames := 1, cells := 0, slots := 0, locals := 21 }) (av := [.ref (dq 2), .ref dr]) (g := g) (WS := (kd_dc dq ++ [(dr, .inr (2, [.long sd]))])) (sz := sz) (mc := 0) (ms := 0) (cc := cX9_fall) (maxL := 2) (ret := (some .int)) (own := RX9) (fun A => va_Qi (fun r (u : Int64) => (r, u) = sp_fall_2 sd) (fun u t => kd_post g A (kd_dc dq ++ [(dr, .inr (2, [.long u]))]) t) A) (by decide) rfl rfl (Nat.le_of_ble_eq_true rfl) ?_
  intro p e s m below meth c A ls hx hb hr hml hts hown hlocks hnm hA hP hK hD hS hE hl
  have hl : lv_has ls 2 [(0, .ref (dq 2)), (1, .ref dr)] := hl
  have hiX9 : ∀ w ∈ u_ws RX9 TX9 3, w ∈ wsX9_fall := by decide +kernel
  refine lv_iconst (v := 2) hx hb dX9_fall_0 (by decide) ?_
  refine lv_aload_n hx hb dX9_fall_1 rfl (lv_at hl 0 rfl) ?_
  refine va_get (ci := 9) (v := .int 1) (C := RX9) (T := TX9) (N := 3) hx hb hts hiX9 hown hK hP (2) rfl rfl 1 (by decide) (hts (.fieldLink RX9 19 "KingdomAtDice$Twins" "least" "I") (by decide +kernel)) (fun x9 h9 => u_same (hts (.sameField "KingdomAtDice$Twins" "KingdomAtDice$Dice" "least" "I") (by decide +kernel)) x9 h9) rfl dX9_fall_2 ?_
  refine lv_aload_n hx hb dX9_fall_5 rfl (lv_at hl 1 rfl) ?_
  refine lv_aload_n hx hb dX9_fall_6 rfl (lv_at hl 0 rfl) ?_
  refine kd_callIK (g := g) (wc := (kd_dc dq)) (va_runU (mc := 0) (ms := 0) (rm := { frames := 0, cells := 0, slots := 0, locals := 0 }) (C := RX9) (As := []) (rest := [.ref dr, .int 1, .int 2]) ⟨hx, hb, hml, hown, hts⟩ (c_faces_2 l g s.heap.size dq ) (va_cwU 0 hts gX9_fall_X1_faces_u9X9 rfl rfl rfl rfl (by decide +kernel) ⟨Nat.le_of_ble_eq_true rfl, Nat.le_of_ble_eq_true rfl⟩) (kd_preV (wc := (kd_dc dq)) (va_recv hK hP (ci := 9) (q0 := 2) rfl rfl) hP hD hS hA hK hE [0, 1, 2, 3, 4] rfl (by decide)) rfl rfl hl.1 rfl (lv_room (Nat.le_of_ble_eq_true rfl)) dX9_fall_7 ⟨Nat.le_of_ble_eq_true rfl, Nat.le_of_ble_eq_true rfl⟩) hP hD hS hA [0, 1, 2, 3, 4] rfl (fun r_7 _ H locs hw hP hS => ?_)
  obtain rfl : r_7 = 6 := hw
  refine kd_callIJ (Wf := fun (u : Int64) => [(dr, .inr (2, [.long u]))]) (g := g) (wc := [(dr, .inr (2, [.long sd]))]) (wr := (kd_dc dq)) (va_runVN (mc := 0) (ms := 0) (rm := { frames := 0, cells := 0, slots := 0, locals := 0 }) (C := RX2) (host := "KingdomAtDice") (As := [.int 6]) (rest := [.int 1, .int 2]) ⟨hx, hb, hml, hown, hts⟩ (c_X2_next l g H.size dr sd 6 ) ⟨va_cnB 1 hts gX9_fall_X2_next_n23 rfl rfl rfl (kd_N hE 39 rfl) (hts (.initialized RX2) (by decide +kernel)) (by decide +kernel) ⟨Nat.le_of_ble_eq_true rfl, Nat.le_of_ble_eq_true rfl⟩, (hts (.instanceMethod yX2_next) (by decide +kernel)), (hts (.selects RX2 yX2_next yX2_next) (by decide +kernel))⟩ (kd_preV (wc := [(dr, .inr (2, [.long sd]))]) (va_recv hK hP (ci := 2) (q0 := 5) rfl rfl) hP hD hS hA hK hE [5] rfl (by decide)) rfl rfl hl.1 rfl (lv_room (Nat.le_of_ble_eq_true rfl)) dX9_fall_10 ⟨Nat.le_of_ble_eq_true rfl, Nat.le_of_ble_eq_true rfl⟩) hP hD hS hA [5] [0, 1, 2, 3, 4] rfl rfl (by decide) (by decide) (fun r_10 u_10 H locs hw_10 hP hD hS => ?_)
  obtain ⟨sd_10, rfl⟩ : ∃ z, z = u_10 := ⟨_, rfl⟩
  have hP : va_P g.1 vwCl ((kd_dc dq) ++ [(dr, .inr (2, [.long sd_10]))]) H := hP
  have hD : va_D A ((kd_dc dq) ++ [(dr, .inr (2, [.long sd_10]))]) := hD
  refine lv_iadd hx hb dX9_fall_13 ?_
  refine lv_imul hx hb dX9_fall_14 ?_
  exact kd_iret hx hb hr hlocks hK hS dX9_fall_15 (sd_10) (by obtain ⟨rfl, rfl⟩ := kd_eq2 hw_10; rfl) (hP.sub (ws' := (kd_dc dq ++ [(dr, .inr (2, [.long sd_10]))])) [0, 1, 2, 3, 4, 5] rfl) (hD.sub (ws' := (kd_dc dq ++ [(dr, .inr (2, [.long sd_10]))])) [0, 1, 2, 3, 4, 5] (by decide) rfl)
/-- what KingdomAtDice$Dice.tell answers and leaves, by its instructions -/
def sp_tell_2 (p0 : Int32) : Int32 :=
  if p0 = 0 then
    2
  else
    if p0 = 1 then
      2
    else
      if p0 = 2 then
        12
      else
        6
set_option maxHeartbeats 4000000 in
set_option maxRecDepth 100000 in
theorem c_tell_2 (l : Launch) (g : kd_G) (sz : Nat) (dq : Nat → Nat) (p0 : Int32)  : kd_MI l yX1_tell wsX1_tell ({ frames := 2, cells := 0, slots := 0, locals := 40 }) [.ref (dq 2), .int p0] g (kd_dc dq) sz (fun r (_ : Unit) => r = sp_tell_2 p0) (fun _ => (kd_dc dq)) 0 0 := by
  refine kd_met (l := l) (y := yX1_tell) (ws := wsX1_tell) (rm := { frames := 2, cells := 0, slots := 0, locals := 40 }) (av := [.ref (dq 2), .int p0]) (g := g) (WS := (kd_dc dq)) (sz := sz) (mc := 0) (ms := 0) (cc := cX1_tell) (maxL := 2) (ret := (some .int)) (own := RX1) (fun A => va_Qi (fun r (_ : Unit) => r = sp_tell_2 p0) (fun u t => kd_post g A (kd_dc dq) t) A) (by decide) rfl rfl (Nat.le_of_ble_eq_true rfl) ?_
  intro p e s m below meth c A ls hx hb hr hml hts hown hlocks hnm hA hP hK hD hS hE hl
  have hl : lv_has ls 2 [(0, .ref (dq 2)), (1, .int p0)] := hl
  have hiX9 : ∀ w ∈ u_ws RX9 TX9 3, w ∈ wsX1_tell := by decide +kernel
  refine lv_iload_n hx hb dX1_tell_0 rfl (lv_at hl 1 rfl) ?_
  by_cases c_1_0 : p0 = 0
  · refine lv_tableIn (off := 27) (tgt := 28) hx hb dX1_tell_1 (by rw [c_1_0]; decide) (by rw [c_1_0]; decide) (by rw [c_1_0]; rfl) (by decide) ?_
    refine lv_aload_n hx hb dX1_tell_28 rfl (lv_at hl 0 rfl) ?_
    refine va_get (ci := 9) (v := .int 2) (C := RX9) (T := TX9) (N := 3) hx hb hts hiX9 hown hK hP (2) rfl rfl 0 (by decide) (hts (.fieldLink RX1 7 "KingdomAtDice$Dice" "kind" "I") (by decide +kernel)) (fun _ h9 => h9) rfl dX1_tell_29 ?_
    exact kd_iret hx hb hr hlocks hK hS dX1_tell_32 (()) (by rw [sp_tell_2, if_pos c_1_0]) hP hD
  · by_cases c_1_1 : p0 = 1
    · refine lv_tableIn (off := 32) (tgt := 33) hx hb dX1_tell_1 (by rw [c_1_1]; decide) (by rw [c_1_1]; decide) (by rw [c_1_1]; rfl) (by decide) ?_
      refine lv_iconst (v := 2) hx hb dX1_tell_33 (by decide) ?_
      refine lv_aload_n hx hb dX1_tell_34 rfl (lv_at hl 0 rfl) ?_
      refine va_get (ci := 9) (v := .int 1) (C := RX9) (T := TX9) (N := 3) hx hb hts hiX9 hown hK hP (2) rfl rfl 1 (by decide) (hts (.fieldLink RX1 13 "KingdomAtDice$Dice" "least" "I") (by decide +kernel)) (fun _ h9 => h9) rfl dX1_tell_35 ?_
      refine lv_imul hx hb dX1_tell_38 ?_
      refine kd_top (y := 2) (by decide) ?_
      exact kd_iret hx hb hr hlocks hK hS dX1_tell_39 (()) (by rw [sp_tell_2, if_neg c_1_0, if_pos c_1_1]) hP hD
    · by_cases c_1_2 : p0 = 2
      · refine lv_tableIn (off := 39) (tgt := 40) hx hb dX1_tell_1 (by rw [c_1_2]; decide) (by rw [c_1_2]; decide) (by rw [c_1_2]; rfl) (by decide) ?_
        refine lv_iconst (v := 2) hx hb dX1_tell_40 (by decide) ?_
        refine lv_aload_n hx hb dX1_tell_41 rfl (lv_at hl 0 rfl) ?_
        refine va_get (ci := 9) (v := .int 6) (C := RX9) (T := TX9) (N := 3) hx hb hts hiX9 hown hK hP (2) rfl rfl 2 (by decide) (hts (.fieldLink RX1 16 "KingdomAtDice$Dice" "greatest" "I") (by decide +kernel)) (fun _ h9 => h9) rfl dX1_tell_42 ?_
        refine lv_imul hx hb dX1_tell_45 ?_
        refine kd_top (y := 12) (by decide) ?_
        exact kd_iret hx hb hr hlocks hK hS dX1_tell_46 (()) (by rw [sp_tell_2, if_neg c_1_0, if_neg c_1_1, if_pos c_1_2]) hP hD
      · refine lv_tableOut (tgt := 47) hx hb dX1_tell_1 (by have z0 := kd_ne2 c_1_0 (k := 0) (by decide); have z1 := kd_ne2 c_1_1 (k := 1) (by decide); have z2 := kd_ne2 c_1_2 (k := 2) (by decide); omega) (by decide) ?_
        refine lv_aload_n hx hb dX1_tell_47 rfl (lv_at hl 0 rfl) ?_
        refine kd_callIK (g := g) (wc := (kd_dc dq)) (va_runU (mc := 0) (ms := 0) (rm := { frames := 1, cells := 0, slots := 0, locals := 20 }) (C := RX9) (As := []) (rest := []) ⟨hx, hb, hml, hown, hts⟩ (c_wayMany_2 l g s.heap.size dq ) (va_cwO 0 hts gX1_tell_X9_wayMany_u19X9 rfl rfl rfl (show Cond.code yX1_wayMany cX1_wayMany 1 (some .int) ∈ _ by decide +kernel) (by decide +kernel) ⟨Nat.le_of_ble_eq_true rfl, Nat.le_of_ble_eq_true rfl⟩) (kd_preV (wc := (kd_dc dq)) (va_recv hK hP (ci := 9) (q0 := 2) rfl rfl) hP hD hS hA hK hE [0, 1, 2, 3, 4] rfl (by decide)) rfl rfl hl.1 rfl (lv_room (Nat.le_of_ble_eq_true rfl)) dX1_tell_48 ⟨Nat.le_of_ble_eq_true rfl, Nat.le_of_ble_eq_true rfl⟩) hP hD hS hA [0, 1, 2, 3, 4] rfl (fun r_48 _ H locs hw hP hS => ?_)
        obtain rfl : r_48 = 6 := hw
        exact kd_iret hx hb hr hlocks hK hS dX1_tell_51 (()) (by rw [sp_tell_2, if_neg c_1_0, if_neg c_1_1, if_neg c_1_2]) hP hD
/-- what KingdomAtDice$Dice.faces answers and leaves, by its instructions -/
def sp_faces_3  : Int32 :=
  3
set_option maxHeartbeats 4000000 in
set_option maxRecDepth 100000 in
theorem c_faces_3 (l : Launch) (g : kd_G) (sz : Nat) (dq : Nat → Nat)  : kd_MI l yX1_faces wsX1_faces ({ frames := 0, cells := 0, slots := 0, locals := 0 }) [.ref (dq 3)] g (kd_dc dq) sz (fun r (_ : Unit) => r = sp_faces_3) (fun _ => (kd_dc dq)) 0 0 := by
  refine kd_met (l := l) (y := yX1_faces) (ws := wsX1_faces) (rm := { frames := 0, cells := 0, slots := 0, locals := 0 }) (av := [.ref (dq 3)]) (g := g) (WS := (kd_dc dq)) (sz := sz) (mc := 0) (ms := 0) (cc := cX1_faces) (maxL := 1) (ret := (some .int)) (own := RX1) (fun A => va_Qi (fun r (_ : Unit) => r = sp_faces_3) (fun u t => kd_post g A (kd_dc dq) t) A) (by decide) rfl rfl (Nat.le_of_ble_eq_true rfl) ?_
  intro p e s m below meth c A ls hx hb hr hml hts hown hlocks hnm hA hP hK hD hS hE hl
  have hl : lv_has ls 1 [(0, .ref (dq 3))] := hl
  have hiX4 : ∀ w ∈ u_ws RX4 TX4 3, w ∈ wsX1_faces := by decide +kernel
  refine lv_aload_n hx hb dX1_faces_0 rfl (lv_at hl 0 rfl) ?_
  refine va_get (ci := 4) (v := .int 3) (C := RX4) (T := TX4) (N := 3) hx hb hts hiX4 hown hK hP (3) rfl rfl 2 (by decide) (hts (.fieldLink RX1 16 "KingdomAtDice$Dice" "greatest" "I") (by decide +kernel)) (fun _ h9 => h9) rfl dX1_faces_1 ?_
  refine lv_aload_n hx hb dX1_faces_4 rfl (lv_at hl 0 rfl) ?_
  refine va_get (ci := 4) (v := .int 1) (C := RX4) (T := TX4) (N := 3) hx hb hts hiX4 hown hK hP (3) rfl rfl 1 (by decide) (hts (.fieldLink RX1 13 "KingdomAtDice$Dice" "least" "I") (by decide +kernel)) (fun _ h9 => h9) rfl dX1_faces_5 ?_
  refine lv_isub hx hb dX1_faces_8 ?_
  refine kd_top (y := 2) (by decide) ?_
  refine lv_iconst (v := 1) hx hb dX1_faces_9 (by decide) ?_
  refine lv_iadd hx hb dX1_faces_10 ?_
  refine kd_top (y := 3) (by decide) ?_
  exact kd_iret hx hb hr hlocks hK hS dX1_faces_11 (()) (rfl) hP hD
/-- what KingdomAtDice$Dice.wayMany answers and leaves, by its instructions -/
def sp_wayMany_3  : Int32 :=
  9
set_option maxHeartbeats 4000000 in
set_option maxRecDepth 100000 in
theorem c_wayMany_3 (l : Launch) (g : kd_G) (sz : Nat) (dq : Nat → Nat)  : kd_MI l yX1_wayMany wsX1_wayMany ({ frames := 1, cells := 0, slots := 0, locals := 20 }) [.ref (dq 3)] g (kd_dc dq) sz (fun r (_ : Unit) => r = sp_wayMany_3) (fun _ => (kd_dc dq)) 0 0 := by
  refine kd_met (l := l) (y := yX1_wayMany) (ws := wsX1_wayMany) (rm := { frames := 1, cells := 0, slots := 0, locals := 20 }) (av := [.ref (dq 3)]) (g := g) (WS := (kd_dc dq)) (sz := sz) (mc := 0) (ms := 0) (cc := cX1_wayMany) (maxL := 1) (ret := (some .int)) (own := RX1) (fun A => va_Qi (fun r (_ : Unit) => r = sp_wayMany_3) (fun u t => kd_post g A (kd_dc dq) t) A) (by decide) rfl rfl (Nat.le_of_ble_eq_true rfl) ?_
  intro p e s m below meth c A ls hx hb hr hml hts hown hlocks hnm hA hP hK hD hS hE hl
  have hl : lv_has ls 1 [(0, .ref (dq 3))] := hl
  refine lv_aload_n hx hb dX1_wayMany_0 rfl (lv_at hl 0 rfl) ?_
  refine kd_callIK (g := g) (wc := (kd_dc dq)) (va_runU (mc := 0) (ms := 0) (rm := { frames := 0, cells := 0, slots := 0, locals := 0 }) (C := RX4) (As := []) (rest := []) ⟨hx, hb, hml, hown, hts⟩ (c_faces_3 l g s.heap.size dq ) (va_cwU 0 hts gX1_wayMany_X1_faces_u23X4 rfl rfl rfl rfl (by decide +kernel) ⟨Nat.le_of_ble_eq_true rfl, Nat.le_of_ble_eq_true rfl⟩) (kd_preV (wc := (kd_dc dq)) (va_recv hK hP (ci := 4) (q0 := 3) rfl rfl) hP hD hS hA hK hE [0, 1, 2, 3, 4] rfl (by decide)) rfl rfl hl.1 rfl (lv_room (Nat.le_of_ble_eq_true rfl)) dX1_wayMany_1 ⟨Nat.le_of_ble_eq_true rfl, Nat.le_of_ble_eq_true rfl⟩) hP hD hS hA [0, 1, 2, 3, 4] rfl (fun r_1 _ H locs hw hP hS => ?_)
  obtain rfl : r_1 = 3 := hw
  refine lv_aload_n hx hb dX1_wayMany_4 rfl (lv_at hl 0 rfl) ?_
  refine kd_callIK (g := g) (wc := (kd_dc dq)) (va_runU (mc := 0) (ms := 0) (rm := { frames := 0, cells := 0, slots := 0, locals := 0 }) (C := RX4) (As := []) (rest := [.int 3]) ⟨hx, hb, hml, hown, hts⟩ (c_faces_3 l g H.size dq ) (va_cwU 0 hts gX1_wayMany_X1_faces_u23X4 rfl rfl rfl rfl (by decide +kernel) ⟨Nat.le_of_ble_eq_true rfl, Nat.le_of_ble_eq_true rfl⟩) (kd_preV (wc := (kd_dc dq)) (va_recv hK hP (ci := 4) (q0 := 3) rfl rfl) hP hD hS hA hK hE [0, 1, 2, 3, 4] rfl (by decide)) rfl rfl hl.1 rfl (lv_room (Nat.le_of_ble_eq_true rfl)) dX1_wayMany_5 ⟨Nat.le_of_ble_eq_true rfl, Nat.le_of_ble_eq_true rfl⟩) hP hD hS hA [0, 1, 2, 3, 4] rfl (fun r_5 _ H locs hw hP hS => ?_)
  obtain rfl : r_5 = 3 := hw
  refine lv_imul hx hb dX1_wayMany_8 ?_
  refine kd_top (y := 9) (by decide) ?_
  exact kd_iret hx hb hr hlocks hK hS dX1_wayMany_9 (()) (rfl) hP hD
set_option maxHeartbeats 4000000 in
set_option maxRecDepth 100000 in
theorem c_waysOf_3 (l : Launch) (g : kd_G) (sz : Nat) (dq : Nat → Nat) (p0 : Int32)  : kd_MI l yX1_waysOf wsX1_waysOf ({ frames := 1, cells := 0, slots := 0, locals := 20 }) [.ref (dq 3), .int p0] g (kd_dc dq) sz (fun r (_ : Unit) => r = kd_w 3 p0) (fun _ => (kd_dc dq)) 0 0 := by
  refine kd_met (l := l) (y := yX1_waysOf) (ws := wsX1_waysOf) (rm := { frames := 1, cells := 0, slots := 0, locals := 20 }) (av := [.ref (dq 3), .int p0]) (g := g) (WS := (kd_dc dq)) (sz := sz) (mc := 0) (ms := 0) (cc := cX1_waysOf) (maxL := 5) (ret := (some .int)) (own := RX1) (fun A => va_Qi (fun r (_ : Unit) => r = kd_w 3 p0) (fun u t => kd_post g A (kd_dc dq) t) A) (by decide) rfl rfl (Nat.le_of_ble_eq_true rfl) ?_
  intro p e s m below meth c A ls hx hb hr hml hts hown hlocks hnm hA hP hK hD hS hE hl
  have hl : lv_has ls 5 [(0, .ref (dq 3)), (1, .int p0)] := hl
  have hiX4 : ∀ w ∈ u_ws RX4 TX4 3, w ∈ wsX1_waysOf := by decide +kernel
  refine lv_iload_n hx hb dX1_waysOf_0 rfl (lv_at hl 1 rfl) ?_
  refine kd_callIK (g := g) (wc := []) (va_runSN (mc := 0) (ms := 0) (rm := { frames := 0, cells := 0, slots := 0, locals := 0 }) (host := "KingdomAtDice") (As := [.int p0]) (rest := []) ⟨hx, hb, hml, hown, hts⟩ (c_X10_isSum l g s.heap.size p0 ) ⟨va_cnB 1 hts gX1_waysOf_X10_isSum_n26 rfl rfl rfl (kd_N hE 20 rfl) (hts (.initialized RX10) (by decide +kernel)) (by decide +kernel) ⟨Nat.le_of_ble_eq_true rfl, Nat.le_of_ble_eq_true rfl⟩, (hts (.static yX10_isSum) (by decide +kernel)), trivial⟩ (kd_preS (wc := []) (av := [.int p0]) hP hD hS hA hK hE [] rfl (by decide)) rfl rfl hl.1 rfl (lv_room (Nat.le_of_ble_eq_true rfl)) dX1_waysOf_1 ⟨Nat.le_of_ble_eq_true rfl, Nat.le_of_ble_eq_true rfl⟩) hP hD hS hA [] rfl (fun r_1 _ H locs hw hP hS => ?_)
  subst hw
  refine lv_if_ne (tgt := 9) hx hb dX1_waysOf_4 (by decide) (fun c_4 => ?_) (fun c_4 => ?_)
  · refine lv_iconst (v := 0) hx hb dX1_waysOf_9 (by decide) ?_
    refine lv_istore_n (lv' := [(2, .int 0), (0, .ref (dq 3)), (1, .int p0)]) hx hb dX1_waysOf_10 rfl hl (by decide) rfl (fun ls hl => ?_)
    refine lv_aload_n hx hb dX1_waysOf_11 rfl (lv_at hl 1 rfl) ?_
    refine va_get (ci := 4) (v := .int 1) (C := RX4) (T := TX4) (N := 3) hx hb hts hiX4 hown hK hP (3) rfl rfl 1 (by decide) (hts (.fieldLink RX1 13 "KingdomAtDice$Dice" "least" "I") (by decide +kernel)) (fun _ h9 => h9) rfl dX1_waysOf_12 ?_
    refine lv_istore_n (lv' := [(3, .int 1), (2, .int 0), (0, .ref (dq 3)), (1, .int p0)]) hx hb dX1_waysOf_15 rfl hl (by decide) rfl (fun ls hl => ?_)
    have loop_16 : ∀ (n_16 : Nat) (j : Nat) (a : Nat), (1 ≤ j) → (j ≤ 4) → (a = kd_wl 1 1 3 p0 (j - 1)) → (4 - j) < n_16 → ∀ (H : Heap) (locs : List Loc), va_P g.1 vwCl (kd_dc dq) H → va_D A (kd_dc dq) → va_S A s.heap H locs → ∀ (ls : Array Slot), lv_has ls 5 [(0, .ref (dq 3)), (1, .int p0), (2, .int (nI a)), (3, .int (nI j))] → W p l e ({ frames := 1, cells := 0, slots := 0, locals := 20 } : Room) s m ([.ref (dq 3), .int p0] : List Value).toArray below meth c H locs 0 0 (MQ below (va_Qi (fun r (_ : Unit) => r = kd_w 3 p0) (fun u t => kd_post g A (kd_dc dq) t) A) ([.ref (dq 3), .int p0] : List Value).toArray s 0 0 A) (F0 m 16 ls []) := by
      intro n_16
      induction n_16 with
      | zero => intro j a _ _ _ hm_16; exact absurd hm_16 (Nat.not_lt_zero _)
      | succ n_16 ih_16 =>
        intro j a hj hj2 ha hm_16 H locs hP hD hS ls hl
        refine lv_iload_n hx hb dX1_waysOf_16 rfl (lv_at hl 3 rfl) ?_
        refine lv_aload_n hx hb dX1_waysOf_17 rfl (lv_at hl 0 rfl) ?_
        refine va_get (ci := 4) (v := .int 3) (C := RX4) (T := TX4) (N := 3) hx hb hts hiX4 hown hK hP (3) rfl rfl 2 (by decide) (hts (.fieldLink RX1 16 "KingdomAtDice$Dice" "greatest" "I") (by decide +kernel)) (fun _ h9 => h9) rfl dX1_waysOf_18 ?_
        refine lv_icmp_gt (tgt := 56) hx hb dX1_waysOf_21 (by decide) (fun c_21 => ?_) (fun c_21 => ?_)
        · have n_21 : 3 < j := kd_cl (a := 3) (b := j) (by omega) (by omega) c_21
          refine lv_iload_n hx hb dX1_waysOf_56 rfl (lv_at hl 2 rfl) ?_
          exact kd_iret hx hb hr hlocks hK hS dX1_waysOf_57 (()) (by show _ = kd_w2 1 3 1 3 p0; rw [kd_w2, if_neg c_4, ha, show j = 4 by omega]) hP hD
        · have n_21 : j ≤ 3 := kd_cnl (a := 3) (b := j) (by omega) (by omega) c_21
          refine lv_iload_n hx hb dX1_waysOf_24 rfl (lv_at hl 1 rfl) ?_
          refine lv_iload_n hx hb dX1_waysOf_25 rfl (lv_at hl 3 rfl) ?_
          refine lv_isub hx hb dX1_waysOf_26 ?_
          refine lv_istore (lv' := [(4, .int (p0 - (nI j))), (0, .ref (dq 3)), (1, .int p0), (2, .int (nI a)), (3, .int (nI j))]) hx hb dX1_waysOf_27 hl (by decide) rfl (fun ls hl => ?_)
          refine lv_iload hx hb dX1_waysOf_29 (lv_at hl 0 rfl) ?_
          refine lv_aload_n hx hb dX1_waysOf_31 rfl (lv_at hl 1 rfl) ?_
          refine va_get (ci := 4) (v := .int 1) (C := RX4) (T := TX4) (N := 3) hx hb hts hiX4 hown hK hP (3) rfl rfl 1 (by decide) (hts (.fieldLink RX1 13 "KingdomAtDice$Dice" "least" "I") (by decide +kernel)) (fun _ h9 => h9) rfl dX1_waysOf_32 ?_
          refine lv_icmp_lt (tgt := 50) hx hb dX1_waysOf_35 (by decide) (fun c_35 => ?_) (fun c_35 => ?_)
          · refine lv_iinc (v := nI (j + 1)) (lv' := [(3, .int (nI (j + 1))), (4, .int (p0 - (nI j))), (0, .ref (dq 3)), (1, .int p0), (2, .int (nI a))]) hx hb dX1_waysOf_50 hl (k := 4) rfl (nI_1 _) (by decide) rfl (fun ls hl => ?_)
            refine lv_goto (tgt := 16) hx hb dX1_waysOf_53 (by decide) ?_
            exact ih_16 (j + 1) a (by omega) (by omega) (by rw [show j + 1 - 1 = (j - 1) + 1 by omega, kd_wl, show 1 + (j - 1) = j by omega, ← ha]; first | rw [if_pos c_35] | rw [if_neg c_35, if_pos c_44] | rw [if_neg c_35, if_neg c_44]) (by omega) _ _ hP hD hS ls (lv_sub hl [2, 3, 4, 0] rfl)
          · refine lv_iload hx hb dX1_waysOf_38 (lv_at hl 0 rfl) ?_
            refine lv_aload_n hx hb dX1_waysOf_40 rfl (lv_at hl 1 rfl) ?_
            refine va_get (ci := 4) (v := .int 3) (C := RX4) (T := TX4) (N := 3) hx hb hts hiX4 hown hK hP (3) rfl rfl 2 (by decide) (hts (.fieldLink RX1 16 "KingdomAtDice$Dice" "greatest" "I") (by decide +kernel)) (fun _ h9 => h9) rfl dX1_waysOf_41 ?_
            refine lv_icmp_gt (tgt := 50) hx hb dX1_waysOf_44 (by decide) (fun c_44 => ?_) (fun c_44 => ?_)
            · refine lv_iinc (v := nI (j + 1)) (lv' := [(3, .int (nI (j + 1))), (4, .int (p0 - (nI j))), (0, .ref (dq 3)), (1, .int p0), (2, .int (nI a))]) hx hb dX1_waysOf_50 hl (k := 4) rfl (nI_1 _) (by decide) rfl (fun ls hl => ?_)
              refine lv_goto (tgt := 16) hx hb dX1_waysOf_53 (by decide) ?_
              exact ih_16 (j + 1) a (by omega) (by omega) (by rw [show j + 1 - 1 = (j - 1) + 1 by omega, kd_wl, show 1 + (j - 1) = j by omega, ← ha]; first | rw [if_pos c_35] | rw [if_neg c_35, if_pos c_44] | rw [if_neg c_35, if_neg c_44]) (by omega) _ _ hP hD hS ls (lv_sub hl [2, 3, 4, 0] rfl)
            · refine lv_iinc (v := nI (a + 1)) (lv' := [(2, .int (nI (a + 1))), (4, .int (p0 - (nI j))), (0, .ref (dq 3)), (1, .int p0), (3, .int (nI j))]) hx hb dX1_waysOf_47 hl (k := 3) rfl (nI_1 _) (by decide) rfl (fun ls hl => ?_)
              refine lv_iinc (v := nI (j + 1)) (lv' := [(3, .int (nI (j + 1))), (2, .int (nI (a + 1))), (4, .int (p0 - (nI j))), (0, .ref (dq 3)), (1, .int p0)]) hx hb dX1_waysOf_50 hl (k := 4) rfl (nI_1 _) (by decide) rfl (fun ls hl => ?_)
              refine lv_goto (tgt := 16) hx hb dX1_waysOf_53 (by decide) ?_
              exact ih_16 (j + 1) (a + 1) (by omega) (by omega) (by rw [show j + 1 - 1 = (j - 1) + 1 by omega, kd_wl, show 1 + (j - 1) = j by omega, ← ha]; first | rw [if_pos c_35] | rw [if_neg c_35, if_pos c_44] | rw [if_neg c_35, if_neg c_44]) (by omega) _ _ hP hD hS ls (lv_sub hl [3, 4, 1, 0] rfl)
    exact loop_16 ((4 - 1) + 1) 1 0 (by decide) (by decide) rfl (Nat.lt_succ_self _) _ _ hP hD hS ls (lv_sub hl [2, 3, 1, 0] rfl)
  · refine lv_iconst (v := 0) hx hb dX1_waysOf_7 (by decide) ?_
    exact kd_iret hx hb hr hlocks hK hS dX1_waysOf_8 (()) (by show _ = kd_w2 1 3 1 3 p0; rw [kd_w2, if_pos c_4]) hP hD
/-- what KingdomAtDice$Dice.fall answers and leaves, by its instructions -/
def sp_fall_3 (sd : Int64) : Int32 × Int64 :=
  (((1 + ((sp_X2_next sd 3).1)) + 1) + ((sp_X2_next ((sp_X2_next sd 3).2) 3).1), ((sp_X2_next ((sp_X2_next sd 3).2) 3).2))
set_option maxHeartbeats 4000000 in
set_option maxRecDepth 100000 in
theorem c_fall_3 (l : Launch) (g : kd_G) (sz : Nat) (dq : Nat → Nat) (dr : Nat) (sd : Int64)  : kd_MI l yX1_fall wsX1_fall ({ frames := 1, cells := 0, slots := 0, locals := 21 }) [.ref (dq 3), .ref dr] g (kd_dc dq ++ [(dr, .inr (2, [.long sd]))]) sz (fun r (u : Int64) => (r, u) = sp_fall_3 sd) (fun u => (kd_dc dq ++ [(dr, .inr (2, [.long u]))])) 0 0 := by
  refine kd_met (l := l) (y := yX1_fall) (ws := wsX1_fall) (rm := { frames := 1, cells := 0, slots := 0, locals := 21 }) (av := [.ref (dq 3), .ref dr]) (g := g) (WS := (kd_dc dq ++ [(dr, .inr (2, [.long sd]))])) (sz := sz) (mc := 0) (ms := 0) (cc := cX1_fall) (maxL := 3) (ret := (some .int)) (own := RX1) (fun A => va_Qi (fun r (u : Int64) => (r, u) = sp_fall_3 sd) (fun u t => kd_post g A (kd_dc dq ++ [(dr, .inr (2, [.long u]))]) t) A) (by decide) rfl rfl (Nat.le_of_ble_eq_true rfl) ?_
  intro p e s m below meth c A ls hx hb hr hml hts hown hlocks hnm hA hP hK hD hS hE hl
  have hl : lv_has ls 3 [(0, .ref (dq 3)), (1, .ref dr)] := hl
  have hiX4 : ∀ w ∈ u_ws RX4 TX4 3, w ∈ wsX1_fall := by decide +kernel
  refine lv_aload_n hx hb dX1_fall_0 rfl (lv_at hl 0 rfl) ?_
  refine va_get (ci := 4) (v := .int 1) (C := RX4) (T := TX4) (N := 3) hx hb hts hiX4 hown hK hP (3) rfl rfl 1 (by decide) (hts (.fieldLink RX1 13 "KingdomAtDice$Dice" "least" "I") (by decide +kernel)) (fun _ h9 => h9) rfl dX1_fall_1 ?_
  refine lv_aload_n hx hb dX1_fall_4 rfl (lv_at hl 1 rfl) ?_
  refine lv_aload_n hx hb dX1_fall_5 rfl (lv_at hl 0 rfl) ?_
  refine kd_callIK (g := g) (wc := (kd_dc dq)) (va_runU (mc := 0) (ms := 0) (rm := { frames := 0, cells := 0, slots := 0, locals := 0 }) (C := RX4) (As := []) (rest := [.ref dr, .int 1]) ⟨hx, hb, hml, hown, hts⟩ (c_faces_3 l g s.heap.size dq ) (va_cwU 0 hts gX1_fall_X1_faces_u23X4 rfl rfl rfl rfl (by decide +kernel) ⟨Nat.le_of_ble_eq_true rfl, Nat.le_of_ble_eq_true rfl⟩) (kd_preV (wc := (kd_dc dq)) (va_recv hK hP (ci := 4) (q0 := 3) rfl rfl) hP hD hS hA hK hE [0, 1, 2, 3, 4] rfl (by decide)) rfl rfl hl.1 rfl (lv_room (Nat.le_of_ble_eq_true rfl)) dX1_fall_6 ⟨Nat.le_of_ble_eq_true rfl, Nat.le_of_ble_eq_true rfl⟩) hP hD hS hA [0, 1, 2, 3, 4] rfl (fun r_6 _ H locs hw hP hS => ?_)
  obtain rfl : r_6 = 3 := hw
  refine kd_callIJ (Wf := fun (u : Int64) => [(dr, .inr (2, [.long u]))]) (g := g) (wc := [(dr, .inr (2, [.long sd]))]) (wr := (kd_dc dq)) (va_runVN (mc := 0) (ms := 0) (rm := { frames := 0, cells := 0, slots := 0, locals := 0 }) (C := RX2) (host := "KingdomAtDice") (As := [.int 3]) (rest := [.int 1]) ⟨hx, hb, hml, hown, hts⟩ (c_X2_next l g H.size dr sd 3 ) ⟨va_cnB 1 hts gX1_fall_X2_next_n32 rfl rfl rfl (kd_N hE 40 rfl) (hts (.initialized RX2) (by decide +kernel)) (by decide +kernel) ⟨Nat.le_of_ble_eq_true rfl, Nat.le_of_ble_eq_true rfl⟩, (hts (.instanceMethod yX2_next) (by decide +kernel)), (hts (.selects RX2 yX2_next yX2_next) (by decide +kernel))⟩ (kd_preV (wc := [(dr, .inr (2, [.long sd]))]) (va_recv hK hP (ci := 2) (q0 := 5) rfl rfl) hP hD hS hA hK hE [5] rfl (by decide)) rfl rfl hl.1 rfl (lv_room (Nat.le_of_ble_eq_true rfl)) dX1_fall_9 ⟨Nat.le_of_ble_eq_true rfl, Nat.le_of_ble_eq_true rfl⟩) hP hD hS hA [5] [0, 1, 2, 3, 4] rfl rfl (by decide) (by decide) (fun r_9 u_9 H locs hw_9 hP hD hS => ?_)
  obtain ⟨sd_9, rfl⟩ : ∃ z, z = u_9 := ⟨_, rfl⟩
  have hP : va_P g.1 vwCl ((kd_dc dq) ++ [(dr, .inr (2, [.long sd_9]))]) H := hP
  have hD : va_D A ((kd_dc dq) ++ [(dr, .inr (2, [.long sd_9]))]) := hD
  refine lv_iadd hx hb dX1_fall_12 ?_
  refine lv_istore_n (lv' := [(2, .int (1 + r_9)), (0, .ref (dq 3)), (1, .ref dr)]) hx hb dX1_fall_13 rfl hl (by decide) rfl (fun ls hl => ?_)
  refine lv_iload_n hx hb dX1_fall_14 rfl (lv_at hl 0 rfl) ?_
  refine lv_aload_n hx hb dX1_fall_15 rfl (lv_at hl 1 rfl) ?_
  refine va_get (ci := 4) (v := .int 1) (C := RX4) (T := TX4) (N := 3) hx hb hts hiX4 hown hK hP (3) rfl rfl 1 (by decide) (hts (.fieldLink RX1 13 "KingdomAtDice$Dice" "least" "I") (by decide +kernel)) (fun _ h9 => h9) rfl dX1_fall_16 ?_
  refine lv_iadd hx hb dX1_fall_19 ?_
  refine lv_aload_n hx hb dX1_fall_20 rfl (lv_at hl 2 rfl) ?_
  refine lv_aload_n hx hb dX1_fall_21 rfl (lv_at hl 1 rfl) ?_
  refine kd_callIK (g := g) (wc := (kd_dc dq)) (va_runU (mc := 0) (ms := 0) (rm := { frames := 0, cells := 0, slots := 0, locals := 0 }) (C := RX4) (As := []) (rest := [.ref dr, .int ((1 + r_9) + 1)]) ⟨hx, hb, hml, hown, hts⟩ (c_faces_3 l g H.size dq ) (va_cwU 0 hts gX1_fall_X1_faces_u23X4 rfl rfl rfl rfl (by decide +kernel) ⟨Nat.le_of_ble_eq_true rfl, Nat.le_of_ble_eq_true rfl⟩) (kd_preV (wc := (kd_dc dq)) (va_recv hK hP (ci := 4) (q0 := 3) rfl rfl) hP hD hS hA hK hE [0, 1, 2, 3, 4] rfl (by decide)) rfl rfl hl.1 rfl (lv_room (Nat.le_of_ble_eq_true rfl)) dX1_fall_22 ⟨Nat.le_of_ble_eq_true rfl, Nat.le_of_ble_eq_true rfl⟩) hP hD hS hA [0, 1, 2, 3, 4] rfl (fun r_22 _ H locs hw hP hS => ?_)
  obtain rfl : r_22 = 3 := hw
  refine kd_callIJ (Wf := fun (u : Int64) => [(dr, .inr (2, [.long u]))]) (g := g) (wc := [(dr, .inr (2, [.long sd_9]))]) (wr := (kd_dc dq)) (va_runVN (mc := 0) (ms := 0) (rm := { frames := 0, cells := 0, slots := 0, locals := 0 }) (C := RX2) (host := "KingdomAtDice") (As := [.int 3]) (rest := [.int ((1 + r_9) + 1)]) ⟨hx, hb, hml, hown, hts⟩ (c_X2_next l g H.size dr sd_9 3 ) ⟨va_cnB 1 hts gX1_fall_X2_next_n32 rfl rfl rfl (kd_N hE 40 rfl) (hts (.initialized RX2) (by decide +kernel)) (by decide +kernel) ⟨Nat.le_of_ble_eq_true rfl, Nat.le_of_ble_eq_true rfl⟩, (hts (.instanceMethod yX2_next) (by decide +kernel)), (hts (.selects RX2 yX2_next yX2_next) (by decide +kernel))⟩ (kd_preV (wc := [(dr, .inr (2, [.long sd_9]))]) (va_recv hK hP (ci := 2) (q0 := 5) rfl rfl) hP hD hS hA hK hE [5] rfl (by decide)) rfl rfl hl.1 rfl (lv_room (Nat.le_of_ble_eq_true rfl)) dX1_fall_25 ⟨Nat.le_of_ble_eq_true rfl, Nat.le_of_ble_eq_true rfl⟩) hP hD hS hA [5] [0, 1, 2, 3, 4] rfl rfl (by decide) (by decide) (fun r_25 u_25 H locs hw_25 hP hD hS => ?_)
  obtain ⟨sd_25, rfl⟩ : ∃ z, z = u_25 := ⟨_, rfl⟩
  have hP : va_P g.1 vwCl ((kd_dc dq) ++ [(dr, .inr (2, [.long sd_25]))]) H := hP
  have hD : va_D A ((kd_dc dq) ++ [(dr, .inr (2, [.long sd_25]))]) := hD
  refine lv_iadd hx hb dX1_fall_28 ?_
  exact kd_iret hx hb hr hlocks hK hS dX1_fall_29 (sd_25) (by obtain ⟨rfl, rfl⟩ := kd_eq2 hw_9; obtain ⟨rfl, rfl⟩ := kd_eq2 hw_25; rfl) (hP.sub (ws' := (kd_dc dq ++ [(dr, .inr (2, [.long sd_25]))])) [0, 1, 2, 3, 4, 5] rfl) (hD.sub (ws' := (kd_dc dq ++ [(dr, .inr (2, [.long sd_25]))])) [0, 1, 2, 3, 4, 5] (by decide) rfl)
/-- what KingdomAtDice$Dice.tell answers and leaves, by its instructions -/
def sp_tell_3 (p0 : Int32) : Int32 :=
  if p0 = 0 then
    3
  else
    if p0 = 1 then
      2
    else
      if p0 = 2 then
        6
      else
        9
set_option maxHeartbeats 4000000 in
set_option maxRecDepth 100000 in
theorem c_tell_3 (l : Launch) (g : kd_G) (sz : Nat) (dq : Nat → Nat) (p0 : Int32)  : kd_MI l yX1_tell wsX1_tell ({ frames := 2, cells := 0, slots := 0, locals := 40 }) [.ref (dq 3), .int p0] g (kd_dc dq) sz (fun r (_ : Unit) => r = sp_tell_3 p0) (fun _ => (kd_dc dq)) 0 0 := by
  refine kd_met (l := l) (y := yX1_tell) (ws := wsX1_tell) (rm := { frames := 2, cells := 0, slots := 0, locals := 40 }) (av := [.ref (dq 3), .int p0]) (g := g) (WS := (kd_dc dq)) (sz := sz) (mc := 0) (ms := 0) (cc := cX1_tell) (maxL := 2) (ret := (some .int)) (own := RX1) (fun A => va_Qi (fun r (_ : Unit) => r = sp_tell_3 p0) (fun u t => kd_post g A (kd_dc dq) t) A) (by decide) rfl rfl (Nat.le_of_ble_eq_true rfl) ?_
  intro p e s m below meth c A ls hx hb hr hml hts hown hlocks hnm hA hP hK hD hS hE hl
  have hl : lv_has ls 2 [(0, .ref (dq 3)), (1, .int p0)] := hl
  have hiX4 : ∀ w ∈ u_ws RX4 TX4 3, w ∈ wsX1_tell := by decide +kernel
  refine lv_iload_n hx hb dX1_tell_0 rfl (lv_at hl 1 rfl) ?_
  by_cases c_1_0 : p0 = 0
  · refine lv_tableIn (off := 27) (tgt := 28) hx hb dX1_tell_1 (by rw [c_1_0]; decide) (by rw [c_1_0]; decide) (by rw [c_1_0]; rfl) (by decide) ?_
    refine lv_aload_n hx hb dX1_tell_28 rfl (lv_at hl 0 rfl) ?_
    refine va_get (ci := 4) (v := .int 3) (C := RX4) (T := TX4) (N := 3) hx hb hts hiX4 hown hK hP (3) rfl rfl 0 (by decide) (hts (.fieldLink RX1 7 "KingdomAtDice$Dice" "kind" "I") (by decide +kernel)) (fun _ h9 => h9) rfl dX1_tell_29 ?_
    exact kd_iret hx hb hr hlocks hK hS dX1_tell_32 (()) (by rw [sp_tell_3, if_pos c_1_0]) hP hD
  · by_cases c_1_1 : p0 = 1
    · refine lv_tableIn (off := 32) (tgt := 33) hx hb dX1_tell_1 (by rw [c_1_1]; decide) (by rw [c_1_1]; decide) (by rw [c_1_1]; rfl) (by decide) ?_
      refine lv_iconst (v := 2) hx hb dX1_tell_33 (by decide) ?_
      refine lv_aload_n hx hb dX1_tell_34 rfl (lv_at hl 0 rfl) ?_
      refine va_get (ci := 4) (v := .int 1) (C := RX4) (T := TX4) (N := 3) hx hb hts hiX4 hown hK hP (3) rfl rfl 1 (by decide) (hts (.fieldLink RX1 13 "KingdomAtDice$Dice" "least" "I") (by decide +kernel)) (fun _ h9 => h9) rfl dX1_tell_35 ?_
      refine lv_imul hx hb dX1_tell_38 ?_
      refine kd_top (y := 2) (by decide) ?_
      exact kd_iret hx hb hr hlocks hK hS dX1_tell_39 (()) (by rw [sp_tell_3, if_neg c_1_0, if_pos c_1_1]) hP hD
    · by_cases c_1_2 : p0 = 2
      · refine lv_tableIn (off := 39) (tgt := 40) hx hb dX1_tell_1 (by rw [c_1_2]; decide) (by rw [c_1_2]; decide) (by rw [c_1_2]; rfl) (by decide) ?_
        refine lv_iconst (v := 2) hx hb dX1_tell_40 (by decide) ?_
        refine lv_aload_n hx hb dX1_tell_41 rfl (lv_at hl 0 rfl) ?_
        refine va_get (ci := 4) (v := .int 3) (C := RX4) (T := TX4) (N := 3) hx hb hts hiX4 hown hK hP (3) rfl rfl 2 (by decide) (hts (.fieldLink RX1 16 "KingdomAtDice$Dice" "greatest" "I") (by decide +kernel)) (fun _ h9 => h9) rfl dX1_tell_42 ?_
        refine lv_imul hx hb dX1_tell_45 ?_
        refine kd_top (y := 6) (by decide) ?_
        exact kd_iret hx hb hr hlocks hK hS dX1_tell_46 (()) (by rw [sp_tell_3, if_neg c_1_0, if_neg c_1_1, if_pos c_1_2]) hP hD
      · refine lv_tableOut (tgt := 47) hx hb dX1_tell_1 (by have z0 := kd_ne2 c_1_0 (k := 0) (by decide); have z1 := kd_ne2 c_1_1 (k := 1) (by decide); have z2 := kd_ne2 c_1_2 (k := 2) (by decide); omega) (by decide) ?_
        refine lv_aload_n hx hb dX1_tell_47 rfl (lv_at hl 0 rfl) ?_
        refine kd_callIK (g := g) (wc := (kd_dc dq)) (va_runU (mc := 0) (ms := 0) (rm := { frames := 1, cells := 0, slots := 0, locals := 20 }) (C := RX4) (As := []) (rest := []) ⟨hx, hb, hml, hown, hts⟩ (c_wayMany_3 l g s.heap.size dq ) (va_cwU 0 hts gX1_tell_X1_wayMany_u19X4 rfl rfl rfl rfl (by decide +kernel) ⟨Nat.le_of_ble_eq_true rfl, Nat.le_of_ble_eq_true rfl⟩) (kd_preV (wc := (kd_dc dq)) (va_recv hK hP (ci := 4) (q0 := 3) rfl rfl) hP hD hS hA hK hE [0, 1, 2, 3, 4] rfl (by decide)) rfl rfl hl.1 rfl (lv_room (Nat.le_of_ble_eq_true rfl)) dX1_tell_48 ⟨Nat.le_of_ble_eq_true rfl, Nat.le_of_ble_eq_true rfl⟩) hP hD hS hA [0, 1, 2, 3, 4] rfl (fun r_48 _ H locs hw hP hS => ?_)
        obtain rfl : r_48 = 9 := hw
        exact kd_iret hx hb hr hlocks hK hS dX1_tell_51 (()) (by rw [sp_tell_3, if_neg c_1_0, if_neg c_1_1, if_neg c_1_2]) hP hD
/-- what KingdomAtDice$Dice.faces answers and leaves, by its instructions -/
def sp_faces_4  : Int32 :=
  3
set_option maxHeartbeats 4000000 in
set_option maxRecDepth 100000 in
theorem c_faces_4 (l : Launch) (g : kd_G) (sz : Nat) (dq : Nat → Nat)  : kd_MI l yX1_faces wsX1_faces ({ frames := 0, cells := 0, slots := 0, locals := 0 }) [.ref (dq 4)] g (kd_dc dq) sz (fun r (_ : Unit) => r = sp_faces_4) (fun _ => (kd_dc dq)) 0 0 := by
  refine kd_met (l := l) (y := yX1_faces) (ws := wsX1_faces) (rm := { frames := 0, cells := 0, slots := 0, locals := 0 }) (av := [.ref (dq 4)]) (g := g) (WS := (kd_dc dq)) (sz := sz) (mc := 0) (ms := 0) (cc := cX1_faces) (maxL := 1) (ret := (some .int)) (own := RX1) (fun A => va_Qi (fun r (_ : Unit) => r = sp_faces_4) (fun u t => kd_post g A (kd_dc dq) t) A) (by decide) rfl rfl (Nat.le_of_ble_eq_true rfl) ?_
  intro p e s m below meth c A ls hx hb hr hml hts hown hlocks hnm hA hP hK hD hS hE hl
  have hl : lv_has ls 1 [(0, .ref (dq 4))] := hl
  have hiX0 : ∀ w ∈ u_ws RX0 TX0 3, w ∈ wsX1_faces := by decide +kernel
  refine lv_aload_n hx hb dX1_faces_0 rfl (lv_at hl 0 rfl) ?_
  refine va_get (ci := 0) (v := .int 6) (C := RX0) (T := TX0) (N := 3) hx hb hts hiX0 hown hK hP (4) rfl rfl 2 (by decide) (hts (.fieldLink RX1 16 "KingdomAtDice$Dice" "greatest" "I") (by decide +kernel)) (fun _ h9 => h9) rfl dX1_faces_1 ?_
  refine lv_aload_n hx hb dX1_faces_4 rfl (lv_at hl 0 rfl) ?_
  refine va_get (ci := 0) (v := .int 4) (C := RX0) (T := TX0) (N := 3) hx hb hts hiX0 hown hK hP (4) rfl rfl 1 (by decide) (hts (.fieldLink RX1 13 "KingdomAtDice$Dice" "least" "I") (by decide +kernel)) (fun _ h9 => h9) rfl dX1_faces_5 ?_
  refine lv_isub hx hb dX1_faces_8 ?_
  refine kd_top (y := 2) (by decide) ?_
  refine lv_iconst (v := 1) hx hb dX1_faces_9 (by decide) ?_
  refine lv_iadd hx hb dX1_faces_10 ?_
  refine kd_top (y := 3) (by decide) ?_
  exact kd_iret hx hb hr hlocks hK hS dX1_faces_11 (()) (rfl) hP hD
/-- what KingdomAtDice$Dice.wayMany answers and leaves, by its instructions -/
def sp_wayMany_4  : Int32 :=
  9
set_option maxHeartbeats 4000000 in
set_option maxRecDepth 100000 in
theorem c_wayMany_4 (l : Launch) (g : kd_G) (sz : Nat) (dq : Nat → Nat)  : kd_MI l yX1_wayMany wsX1_wayMany ({ frames := 1, cells := 0, slots := 0, locals := 20 }) [.ref (dq 4)] g (kd_dc dq) sz (fun r (_ : Unit) => r = sp_wayMany_4) (fun _ => (kd_dc dq)) 0 0 := by
  refine kd_met (l := l) (y := yX1_wayMany) (ws := wsX1_wayMany) (rm := { frames := 1, cells := 0, slots := 0, locals := 20 }) (av := [.ref (dq 4)]) (g := g) (WS := (kd_dc dq)) (sz := sz) (mc := 0) (ms := 0) (cc := cX1_wayMany) (maxL := 1) (ret := (some .int)) (own := RX1) (fun A => va_Qi (fun r (_ : Unit) => r = sp_wayMany_4) (fun u t => kd_post g A (kd_dc dq) t) A) (by decide) rfl rfl (Nat.le_of_ble_eq_true rfl) ?_
  intro p e s m below meth c A ls hx hb hr hml hts hown hlocks hnm hA hP hK hD hS hE hl
  have hl : lv_has ls 1 [(0, .ref (dq 4))] := hl
  refine lv_aload_n hx hb dX1_wayMany_0 rfl (lv_at hl 0 rfl) ?_
  refine kd_callIK (g := g) (wc := (kd_dc dq)) (va_runU (mc := 0) (ms := 0) (rm := { frames := 0, cells := 0, slots := 0, locals := 0 }) (C := RX0) (As := []) (rest := []) ⟨hx, hb, hml, hown, hts⟩ (c_faces_4 l g s.heap.size dq ) (va_cwU 0 hts gX1_wayMany_X1_faces_u23X0 rfl rfl rfl rfl (by decide +kernel) ⟨Nat.le_of_ble_eq_true rfl, Nat.le_of_ble_eq_true rfl⟩) (kd_preV (wc := (kd_dc dq)) (va_recv hK hP (ci := 0) (q0 := 4) rfl rfl) hP hD hS hA hK hE [0, 1, 2, 3, 4] rfl (by decide)) rfl rfl hl.1 rfl (lv_room (Nat.le_of_ble_eq_true rfl)) dX1_wayMany_1 ⟨Nat.le_of_ble_eq_true rfl, Nat.le_of_ble_eq_true rfl⟩) hP hD hS hA [0, 1, 2, 3, 4] rfl (fun r_1 _ H locs hw hP hS => ?_)
  obtain rfl : r_1 = 3 := hw
  refine lv_aload_n hx hb dX1_wayMany_4 rfl (lv_at hl 0 rfl) ?_
  refine kd_callIK (g := g) (wc := (kd_dc dq)) (va_runU (mc := 0) (ms := 0) (rm := { frames := 0, cells := 0, slots := 0, locals := 0 }) (C := RX0) (As := []) (rest := [.int 3]) ⟨hx, hb, hml, hown, hts⟩ (c_faces_4 l g H.size dq ) (va_cwU 0 hts gX1_wayMany_X1_faces_u23X0 rfl rfl rfl rfl (by decide +kernel) ⟨Nat.le_of_ble_eq_true rfl, Nat.le_of_ble_eq_true rfl⟩) (kd_preV (wc := (kd_dc dq)) (va_recv hK hP (ci := 0) (q0 := 4) rfl rfl) hP hD hS hA hK hE [0, 1, 2, 3, 4] rfl (by decide)) rfl rfl hl.1 rfl (lv_room (Nat.le_of_ble_eq_true rfl)) dX1_wayMany_5 ⟨Nat.le_of_ble_eq_true rfl, Nat.le_of_ble_eq_true rfl⟩) hP hD hS hA [0, 1, 2, 3, 4] rfl (fun r_5 _ H locs hw hP hS => ?_)
  obtain rfl : r_5 = 3 := hw
  refine lv_imul hx hb dX1_wayMany_8 ?_
  refine kd_top (y := 9) (by decide) ?_
  exact kd_iret hx hb hr hlocks hK hS dX1_wayMany_9 (()) (rfl) hP hD
set_option maxHeartbeats 4000000 in
set_option maxRecDepth 100000 in
theorem c_waysOf_4 (l : Launch) (g : kd_G) (sz : Nat) (dq : Nat → Nat) (p0 : Int32)  : kd_MI l yX1_waysOf wsX1_waysOf ({ frames := 1, cells := 0, slots := 0, locals := 20 }) [.ref (dq 4), .int p0] g (kd_dc dq) sz (fun r (_ : Unit) => r = kd_w 4 p0) (fun _ => (kd_dc dq)) 0 0 := by
  refine kd_met (l := l) (y := yX1_waysOf) (ws := wsX1_waysOf) (rm := { frames := 1, cells := 0, slots := 0, locals := 20 }) (av := [.ref (dq 4), .int p0]) (g := g) (WS := (kd_dc dq)) (sz := sz) (mc := 0) (ms := 0) (cc := cX1_waysOf) (maxL := 5) (ret := (some .int)) (own := RX1) (fun A => va_Qi (fun r (_ : Unit) => r = kd_w 4 p0) (fun u t => kd_post g A (kd_dc dq) t) A) (by decide) rfl rfl (Nat.le_of_ble_eq_true rfl) ?_
  intro p e s m below meth c A ls hx hb hr hml hts hown hlocks hnm hA hP hK hD hS hE hl
  have hl : lv_has ls 5 [(0, .ref (dq 4)), (1, .int p0)] := hl
  have hiX0 : ∀ w ∈ u_ws RX0 TX0 3, w ∈ wsX1_waysOf := by decide +kernel
  refine lv_iload_n hx hb dX1_waysOf_0 rfl (lv_at hl 1 rfl) ?_
  refine kd_callIK (g := g) (wc := []) (va_runSN (mc := 0) (ms := 0) (rm := { frames := 0, cells := 0, slots := 0, locals := 0 }) (host := "KingdomAtDice") (As := [.int p0]) (rest := []) ⟨hx, hb, hml, hown, hts⟩ (c_X10_isSum l g s.heap.size p0 ) ⟨va_cnB 1 hts gX1_waysOf_X10_isSum_n26 rfl rfl rfl (kd_N hE 20 rfl) (hts (.initialized RX10) (by decide +kernel)) (by decide +kernel) ⟨Nat.le_of_ble_eq_true rfl, Nat.le_of_ble_eq_true rfl⟩, (hts (.static yX10_isSum) (by decide +kernel)), trivial⟩ (kd_preS (wc := []) (av := [.int p0]) hP hD hS hA hK hE [] rfl (by decide)) rfl rfl hl.1 rfl (lv_room (Nat.le_of_ble_eq_true rfl)) dX1_waysOf_1 ⟨Nat.le_of_ble_eq_true rfl, Nat.le_of_ble_eq_true rfl⟩) hP hD hS hA [] rfl (fun r_1 _ H locs hw hP hS => ?_)
  subst hw
  refine lv_if_ne (tgt := 9) hx hb dX1_waysOf_4 (by decide) (fun c_4 => ?_) (fun c_4 => ?_)
  · refine lv_iconst (v := 0) hx hb dX1_waysOf_9 (by decide) ?_
    refine lv_istore_n (lv' := [(2, .int 0), (0, .ref (dq 4)), (1, .int p0)]) hx hb dX1_waysOf_10 rfl hl (by decide) rfl (fun ls hl => ?_)
    refine lv_aload_n hx hb dX1_waysOf_11 rfl (lv_at hl 1 rfl) ?_
    refine va_get (ci := 0) (v := .int 4) (C := RX0) (T := TX0) (N := 3) hx hb hts hiX0 hown hK hP (4) rfl rfl 1 (by decide) (hts (.fieldLink RX1 13 "KingdomAtDice$Dice" "least" "I") (by decide +kernel)) (fun _ h9 => h9) rfl dX1_waysOf_12 ?_
    refine lv_istore_n (lv' := [(3, .int 4), (2, .int 0), (0, .ref (dq 4)), (1, .int p0)]) hx hb dX1_waysOf_15 rfl hl (by decide) rfl (fun ls hl => ?_)
    have loop_16 : ∀ (n_16 : Nat) (j : Nat) (a : Nat), (4 ≤ j) → (j ≤ 7) → (a = kd_wl 4 4 6 p0 (j - 4)) → (7 - j) < n_16 → ∀ (H : Heap) (locs : List Loc), va_P g.1 vwCl (kd_dc dq) H → va_D A (kd_dc dq) → va_S A s.heap H locs → ∀ (ls : Array Slot), lv_has ls 5 [(0, .ref (dq 4)), (1, .int p0), (2, .int (nI a)), (3, .int (nI j))] → W p l e ({ frames := 1, cells := 0, slots := 0, locals := 20 } : Room) s m ([.ref (dq 4), .int p0] : List Value).toArray below meth c H locs 0 0 (MQ below (va_Qi (fun r (_ : Unit) => r = kd_w 4 p0) (fun u t => kd_post g A (kd_dc dq) t) A) ([.ref (dq 4), .int p0] : List Value).toArray s 0 0 A) (F0 m 16 ls []) := by
      intro n_16
      induction n_16 with
      | zero => intro j a _ _ _ hm_16; exact absurd hm_16 (Nat.not_lt_zero _)
      | succ n_16 ih_16 =>
        intro j a hj hj2 ha hm_16 H locs hP hD hS ls hl
        refine lv_iload_n hx hb dX1_waysOf_16 rfl (lv_at hl 3 rfl) ?_
        refine lv_aload_n hx hb dX1_waysOf_17 rfl (lv_at hl 0 rfl) ?_
        refine va_get (ci := 0) (v := .int 6) (C := RX0) (T := TX0) (N := 3) hx hb hts hiX0 hown hK hP (4) rfl rfl 2 (by decide) (hts (.fieldLink RX1 16 "KingdomAtDice$Dice" "greatest" "I") (by decide +kernel)) (fun _ h9 => h9) rfl dX1_waysOf_18 ?_
        refine lv_icmp_gt (tgt := 56) hx hb dX1_waysOf_21 (by decide) (fun c_21 => ?_) (fun c_21 => ?_)
        · have n_21 : 6 < j := kd_cl (a := 6) (b := j) (by omega) (by omega) c_21
          refine lv_iload_n hx hb dX1_waysOf_56 rfl (lv_at hl 2 rfl) ?_
          exact kd_iret hx hb hr hlocks hK hS dX1_waysOf_57 (()) (by show _ = kd_w2 4 3 4 6 p0; rw [kd_w2, if_neg c_4, ha, show j = 7 by omega]) hP hD
        · have n_21 : j ≤ 6 := kd_cnl (a := 6) (b := j) (by omega) (by omega) c_21
          refine lv_iload_n hx hb dX1_waysOf_24 rfl (lv_at hl 1 rfl) ?_
          refine lv_iload_n hx hb dX1_waysOf_25 rfl (lv_at hl 3 rfl) ?_
          refine lv_isub hx hb dX1_waysOf_26 ?_
          refine lv_istore (lv' := [(4, .int (p0 - (nI j))), (0, .ref (dq 4)), (1, .int p0), (2, .int (nI a)), (3, .int (nI j))]) hx hb dX1_waysOf_27 hl (by decide) rfl (fun ls hl => ?_)
          refine lv_iload hx hb dX1_waysOf_29 (lv_at hl 0 rfl) ?_
          refine lv_aload_n hx hb dX1_waysOf_31 rfl (lv_at hl 1 rfl) ?_
          refine va_get (ci := 0) (v := .int 4) (C := RX0) (T := TX0) (N := 3) hx hb hts hiX0 hown hK hP (4) rfl rfl 1 (by decide) (hts (.fieldLink RX1 13 "KingdomAtDice$Dice" "least" "I") (by decide +kernel)) (fun _ h9 => h9) rfl dX1_waysOf_32 ?_
          refine lv_icmp_lt (tgt := 50) hx hb dX1_waysOf_35 (by decide) (fun c_35 => ?_) (fun c_35 => ?_)
          · refine lv_iinc (v := nI (j + 1)) (lv' := [(3, .int (nI (j + 1))), (4, .int (p0 - (nI j))), (0, .ref (dq 4)), (1, .int p0), (2, .int (nI a))]) hx hb dX1_waysOf_50 hl (k := 4) rfl (nI_1 _) (by decide) rfl (fun ls hl => ?_)
            refine lv_goto (tgt := 16) hx hb dX1_waysOf_53 (by decide) ?_
            exact ih_16 (j + 1) a (by omega) (by omega) (by rw [show j + 1 - 4 = (j - 4) + 1 by omega, kd_wl, show 4 + (j - 4) = j by omega, ← ha]; first | rw [if_pos c_35] | rw [if_neg c_35, if_pos c_44] | rw [if_neg c_35, if_neg c_44]) (by omega) _ _ hP hD hS ls (lv_sub hl [2, 3, 4, 0] rfl)
          · refine lv_iload hx hb dX1_waysOf_38 (lv_at hl 0 rfl) ?_
            refine lv_aload_n hx hb dX1_waysOf_40 rfl (lv_at hl 1 rfl) ?_
            refine va_get (ci := 0) (v := .int 6) (C := RX0) (T := TX0) (N := 3) hx hb hts hiX0 hown hK hP (4) rfl rfl 2 (by decide) (hts (.fieldLink RX1 16 "KingdomAtDice$Dice" "greatest" "I") (by decide +kernel)) (fun _ h9 => h9) rfl dX1_waysOf_41 ?_
            refine lv_icmp_gt (tgt := 50) hx hb dX1_waysOf_44 (by decide) (fun c_44 => ?_) (fun c_44 => ?_)
            · refine lv_iinc (v := nI (j + 1)) (lv' := [(3, .int (nI (j + 1))), (4, .int (p0 - (nI j))), (0, .ref (dq 4)), (1, .int p0), (2, .int (nI a))]) hx hb dX1_waysOf_50 hl (k := 4) rfl (nI_1 _) (by decide) rfl (fun ls hl => ?_)
              refine lv_goto (tgt := 16) hx hb dX1_waysOf_53 (by decide) ?_
              exact ih_16 (j + 1) a (by omega) (by omega) (by rw [show j + 1 - 4 = (j - 4) + 1 by omega, kd_wl, show 4 + (j - 4) = j by omega, ← ha]; first | rw [if_pos c_35] | rw [if_neg c_35, if_pos c_44] | rw [if_neg c_35, if_neg c_44]) (by omega) _ _ hP hD hS ls (lv_sub hl [2, 3, 4, 0] rfl)
            · refine lv_iinc (v := nI (a + 1)) (lv' := [(2, .int (nI (a + 1))), (4, .int (p0 - (nI j))), (0, .ref (dq 4)), (1, .int p0), (3, .int (nI j))]) hx hb dX1_waysOf_47 hl (k := 3) rfl (nI_1 _) (by decide) rfl (fun ls hl => ?_)
              refine lv_iinc (v := nI (j + 1)) (lv' := [(3, .int (nI (j + 1))), (2, .int (nI (a + 1))), (4, .int (p0 - (nI j))), (0, .ref (dq 4)), (1, .int p0)]) hx hb dX1_waysOf_50 hl (k := 4) rfl (nI_1 _) (by decide) rfl (fun ls hl => ?_)
              refine lv_goto (tgt := 16) hx hb dX1_waysOf_53 (by decide) ?_
              exact ih_16 (j + 1) (a + 1) (by omega) (by omega) (by rw [show j + 1 - 4 = (j - 4) + 1 by omega, kd_wl, show 4 + (j - 4) = j by omega, ← ha]; first | rw [if_pos c_35] | rw [if_neg c_35, if_pos c_44] | rw [if_neg c_35, if_neg c_44]) (by omega) _ _ hP hD hS ls (lv_sub hl [3, 4, 1, 0] rfl)
    exact loop_16 ((7 - 4) + 1) 4 0 (by decide) (by decide) rfl (Nat.lt_succ_self _) _ _ hP hD hS ls (lv_sub hl [2, 3, 1, 0] rfl)
  · refine lv_iconst (v := 0) hx hb dX1_waysOf_7 (by decide) ?_
    exact kd_iret hx hb hr hlocks hK hS dX1_waysOf_8 (()) (by show _ = kd_w2 4 3 4 6 p0; rw [kd_w2, if_pos c_4]) hP hD
/-- what KingdomAtDice$Dice.fall answers and leaves, by its instructions -/
def sp_fall_4 (sd : Int64) : Int32 × Int64 :=
  (((4 + ((sp_X2_next sd 3).1)) + 4) + ((sp_X2_next ((sp_X2_next sd 3).2) 3).1), ((sp_X2_next ((sp_X2_next sd 3).2) 3).2))
set_option maxHeartbeats 4000000 in
set_option maxRecDepth 100000 in
theorem c_fall_4 (l : Launch) (g : kd_G) (sz : Nat) (dq : Nat → Nat) (dr : Nat) (sd : Int64)  : kd_MI l yX1_fall wsX1_fall ({ frames := 1, cells := 0, slots := 0, locals := 21 }) [.ref (dq 4), .ref dr] g (kd_dc dq ++ [(dr, .inr (2, [.long sd]))]) sz (fun r (u : Int64) => (r, u) = sp_fall_4 sd) (fun u => (kd_dc dq ++ [(dr, .inr (2, [.long u]))])) 0 0 := by
  refine kd_met (l := l) (y := yX1_fall) (ws := wsX1_fall) (rm := { frames := 1, cells := 0, slots := 0, locals := 21 }) (av := [.ref (dq 4), .ref dr]) (g := g) (WS := (kd_dc dq ++ [(dr, .inr (2, [.long sd]))])) (sz := sz) (mc := 0) (ms := 0) (cc := cX1_fall) (maxL := 3) (ret := (some .int)) (own := RX1) (fun A => va_Qi (fun r (u : Int64) => (r, u) = sp_fall_4 sd) (fun u t => kd_post g A (kd_dc dq ++ [(dr, .inr (2, [.long u]))]) t) A) (by decide) rfl rfl (Nat.le_of_ble_eq_true rfl) ?_
  intro p e s m below meth c A ls hx hb hr hml hts hown hlocks hnm hA hP hK hD hS hE hl
  have hl : lv_has ls 3 [(0, .ref (dq 4)), (1, .ref dr)] := hl
  have hiX0 : ∀ w ∈ u_ws RX0 TX0 3, w ∈ wsX1_fall := by decide +kernel
  refine lv_aload_n hx hb dX1_fall_0 rfl (lv_at hl 0 rfl) ?_
  refine va_get (ci := 0) (v := .int 4) (C := RX0) (T := TX0) (N := 3) hx hb hts hiX0 hown hK hP (4) rfl rfl 1 (by decide) (hts (.fieldLink RX1 13 "KingdomAtDice$Dice" "least" "I") (by decide +kernel)) (fun _ h9 => h9) rfl dX1_fall_1 ?_
  refine lv_aload_n hx hb dX1_fall_4 rfl (lv_at hl 1 rfl) ?_
  refine lv_aload_n hx hb dX1_fall_5 rfl (lv_at hl 0 rfl) ?_
  refine kd_callIK (g := g) (wc := (kd_dc dq)) (va_runU (mc := 0) (ms := 0) (rm := { frames := 0, cells := 0, slots := 0, locals := 0 }) (C := RX0) (As := []) (rest := [.ref dr, .int 4]) ⟨hx, hb, hml, hown, hts⟩ (c_faces_4 l g s.heap.size dq ) (va_cwU 0 hts gX1_fall_X1_faces_u23X0 rfl rfl rfl rfl (by decide +kernel) ⟨Nat.le_of_ble_eq_true rfl, Nat.le_of_ble_eq_true rfl⟩) (kd_preV (wc := (kd_dc dq)) (va_recv hK hP (ci := 0) (q0 := 4) rfl rfl) hP hD hS hA hK hE [0, 1, 2, 3, 4] rfl (by decide)) rfl rfl hl.1 rfl (lv_room (Nat.le_of_ble_eq_true rfl)) dX1_fall_6 ⟨Nat.le_of_ble_eq_true rfl, Nat.le_of_ble_eq_true rfl⟩) hP hD hS hA [0, 1, 2, 3, 4] rfl (fun r_6 _ H locs hw hP hS => ?_)
  obtain rfl : r_6 = 3 := hw
  refine kd_callIJ (Wf := fun (u : Int64) => [(dr, .inr (2, [.long u]))]) (g := g) (wc := [(dr, .inr (2, [.long sd]))]) (wr := (kd_dc dq)) (va_runVN (mc := 0) (ms := 0) (rm := { frames := 0, cells := 0, slots := 0, locals := 0 }) (C := RX2) (host := "KingdomAtDice") (As := [.int 3]) (rest := [.int 4]) ⟨hx, hb, hml, hown, hts⟩ (c_X2_next l g H.size dr sd 3 ) ⟨va_cnB 1 hts gX1_fall_X2_next_n32 rfl rfl rfl (kd_N hE 40 rfl) (hts (.initialized RX2) (by decide +kernel)) (by decide +kernel) ⟨Nat.le_of_ble_eq_true rfl, Nat.le_of_ble_eq_true rfl⟩, (hts (.instanceMethod yX2_next) (by decide +kernel)), (hts (.selects RX2 yX2_next yX2_next) (by decide +kernel))⟩ (kd_preV (wc := [(dr, .inr (2, [.long sd]))]) (va_recv hK hP (ci := 2) (q0 := 5) rfl rfl) hP hD hS hA hK hE [5] rfl (by decide)) rfl rfl hl.1 rfl (lv_room (Nat.le_of_ble_eq_true rfl)) dX1_fall_9 ⟨Nat.le_of_ble_eq_true rfl, Nat.le_of_ble_eq_true rfl⟩) hP hD hS hA [5] [0, 1, 2, 3, 4] rfl rfl (by decide) (by decide) (fun r_9 u_9 H locs hw_9 hP hD hS => ?_)
  obtain ⟨sd_9, rfl⟩ : ∃ z, z = u_9 := ⟨_, rfl⟩
  have hP : va_P g.1 vwCl ((kd_dc dq) ++ [(dr, .inr (2, [.long sd_9]))]) H := hP
  have hD : va_D A ((kd_dc dq) ++ [(dr, .inr (2, [.long sd_9]))]) := hD
  refine lv_iadd hx hb dX1_fall_12 ?_
  refine lv_istore_n (lv' := [(2, .int (4 + r_9)), (0, .ref (dq 4)), (1, .ref dr)]) hx hb dX1_fall_13 rfl hl (by decide) rfl (fun ls hl => ?_)
  refine lv_iload_n hx hb dX1_fall_14 rfl (lv_at hl 0 rfl) ?_
  refine lv_aload_n hx hb dX1_fall_15 rfl (lv_at hl 1 rfl) ?_
  refine va_get (ci := 0) (v := .int 4) (C := RX0) (T := TX0) (N := 3) hx hb hts hiX0 hown hK hP (4) rfl rfl 1 (by decide) (hts (.fieldLink RX1 13 "KingdomAtDice$Dice" "least" "I") (by decide +kernel)) (fun _ h9 => h9) rfl dX1_fall_16 ?_
  refine lv_iadd hx hb dX1_fall_19 ?_
  refine lv_aload_n hx hb dX1_fall_20 rfl (lv_at hl 2 rfl) ?_
  refine lv_aload_n hx hb dX1_fall_21 rfl (lv_at hl 1 rfl) ?_
  refine kd_callIK (g := g) (wc := (kd_dc dq)) (va_runU (mc := 0) (ms := 0) (rm := { frames := 0, cells := 0, slots := 0, locals := 0 }) (C := RX0) (As := []) (rest := [.ref dr, .int ((4 + r_9) + 4)]) ⟨hx, hb, hml, hown, hts⟩ (c_faces_4 l g H.size dq ) (va_cwU 0 hts gX1_fall_X1_faces_u23X0 rfl rfl rfl rfl (by decide +kernel) ⟨Nat.le_of_ble_eq_true rfl, Nat.le_of_ble_eq_true rfl⟩) (kd_preV (wc := (kd_dc dq)) (va_recv hK hP (ci := 0) (q0 := 4) rfl rfl) hP hD hS hA hK hE [0, 1, 2, 3, 4] rfl (by decide)) rfl rfl hl.1 rfl (lv_room (Nat.le_of_ble_eq_true rfl)) dX1_fall_22 ⟨Nat.le_of_ble_eq_true rfl, Nat.le_of_ble_eq_true rfl⟩) hP hD hS hA [0, 1, 2, 3, 4] rfl (fun r_22 _ H locs hw hP hS => ?_)
  obtain rfl : r_22 = 3 := hw
  refine kd_callIJ (Wf := fun (u : Int64) => [(dr, .inr (2, [.long u]))]) (g := g) (wc := [(dr, .inr (2, [.long sd_9]))]) (wr := (kd_dc dq)) (va_runVN (mc := 0) (ms := 0) (rm := { frames := 0, cells := 0, slots := 0, locals := 0 }) (C := RX2) (host := "KingdomAtDice") (As := [.int 3]) (rest := [.int ((4 + r_9) + 4)]) ⟨hx, hb, hml, hown, hts⟩ (c_X2_next l g H.size dr sd_9 3 ) ⟨va_cnB 1 hts gX1_fall_X2_next_n32 rfl rfl rfl (kd_N hE 40 rfl) (hts (.initialized RX2) (by decide +kernel)) (by decide +kernel) ⟨Nat.le_of_ble_eq_true rfl, Nat.le_of_ble_eq_true rfl⟩, (hts (.instanceMethod yX2_next) (by decide +kernel)), (hts (.selects RX2 yX2_next yX2_next) (by decide +kernel))⟩ (kd_preV (wc := [(dr, .inr (2, [.long sd_9]))]) (va_recv hK hP (ci := 2) (q0 := 5) rfl rfl) hP hD hS hA hK hE [5] rfl (by decide)) rfl rfl hl.1 rfl (lv_room (Nat.le_of_ble_eq_true rfl)) dX1_fall_25 ⟨Nat.le_of_ble_eq_true rfl, Nat.le_of_ble_eq_true rfl⟩) hP hD hS hA [5] [0, 1, 2, 3, 4] rfl rfl (by decide) (by decide) (fun r_25 u_25 H locs hw_25 hP hD hS => ?_)
  obtain ⟨sd_25, rfl⟩ : ∃ z, z = u_25 := ⟨_, rfl⟩
  have hP : va_P g.1 vwCl ((kd_dc dq) ++ [(dr, .inr (2, [.long sd_25]))]) H := hP
  have hD : va_D A ((kd_dc dq) ++ [(dr, .inr (2, [.long sd_25]))]) := hD
  refine lv_iadd hx hb dX1_fall_28 ?_
  exact kd_iret hx hb hr hlocks hK hS dX1_fall_29 (sd_25) (by obtain ⟨rfl, rfl⟩ := kd_eq2 hw_9; obtain ⟨rfl, rfl⟩ := kd_eq2 hw_25; rfl) (hP.sub (ws' := (kd_dc dq ++ [(dr, .inr (2, [.long sd_25]))])) [0, 1, 2, 3, 4, 5] rfl) (hD.sub (ws' := (kd_dc dq ++ [(dr, .inr (2, [.long sd_25]))])) [0, 1, 2, 3, 4, 5] (by decide) rfl)
/-- what KingdomAtDice$Dice.tell answers and leaves, by its instructions -/
def sp_tell_4 (p0 : Int32) : Int32 :=
  if p0 = 0 then
    4
  else
    if p0 = 1 then
      8
    else
      if p0 = 2 then
        12
      else
        9
set_option maxHeartbeats 4000000 in
set_option maxRecDepth 100000 in
theorem c_tell_4 (l : Launch) (g : kd_G) (sz : Nat) (dq : Nat → Nat) (p0 : Int32)  : kd_MI l yX1_tell wsX1_tell ({ frames := 2, cells := 0, slots := 0, locals := 40 }) [.ref (dq 4), .int p0] g (kd_dc dq) sz (fun r (_ : Unit) => r = sp_tell_4 p0) (fun _ => (kd_dc dq)) 0 0 := by
  refine kd_met (l := l) (y := yX1_tell) (ws := wsX1_tell) (rm := { frames := 2, cells := 0, slots := 0, locals := 40 }) (av := [.ref (dq 4), .int p0]) (g := g) (WS := (kd_dc dq)) (sz := sz) (mc := 0) (ms := 0) (cc := cX1_tell) (maxL := 2) (ret := (some .int)) (own := RX1) (fun A => va_Qi (fun r (_ : Unit) => r = sp_tell_4 p0) (fun u t => kd_post g A (kd_dc dq) t) A) (by decide) rfl rfl (Nat.le_of_ble_eq_true rfl) ?_
  intro p e s m below meth c A ls hx hb hr hml hts hown hlocks hnm hA hP hK hD hS hE hl
  have hl : lv_has ls 2 [(0, .ref (dq 4)), (1, .int p0)] := hl
  have hiX0 : ∀ w ∈ u_ws RX0 TX0 3, w ∈ wsX1_tell := by decide +kernel
  refine lv_iload_n hx hb dX1_tell_0 rfl (lv_at hl 1 rfl) ?_
  by_cases c_1_0 : p0 = 0
  · refine lv_tableIn (off := 27) (tgt := 28) hx hb dX1_tell_1 (by rw [c_1_0]; decide) (by rw [c_1_0]; decide) (by rw [c_1_0]; rfl) (by decide) ?_
    refine lv_aload_n hx hb dX1_tell_28 rfl (lv_at hl 0 rfl) ?_
    refine va_get (ci := 0) (v := .int 4) (C := RX0) (T := TX0) (N := 3) hx hb hts hiX0 hown hK hP (4) rfl rfl 0 (by decide) (hts (.fieldLink RX1 7 "KingdomAtDice$Dice" "kind" "I") (by decide +kernel)) (fun _ h9 => h9) rfl dX1_tell_29 ?_
    exact kd_iret hx hb hr hlocks hK hS dX1_tell_32 (()) (by rw [sp_tell_4, if_pos c_1_0]) hP hD
  · by_cases c_1_1 : p0 = 1
    · refine lv_tableIn (off := 32) (tgt := 33) hx hb dX1_tell_1 (by rw [c_1_1]; decide) (by rw [c_1_1]; decide) (by rw [c_1_1]; rfl) (by decide) ?_
      refine lv_iconst (v := 2) hx hb dX1_tell_33 (by decide) ?_
      refine lv_aload_n hx hb dX1_tell_34 rfl (lv_at hl 0 rfl) ?_
      refine va_get (ci := 0) (v := .int 4) (C := RX0) (T := TX0) (N := 3) hx hb hts hiX0 hown hK hP (4) rfl rfl 1 (by decide) (hts (.fieldLink RX1 13 "KingdomAtDice$Dice" "least" "I") (by decide +kernel)) (fun _ h9 => h9) rfl dX1_tell_35 ?_
      refine lv_imul hx hb dX1_tell_38 ?_
      refine kd_top (y := 8) (by decide) ?_
      exact kd_iret hx hb hr hlocks hK hS dX1_tell_39 (()) (by rw [sp_tell_4, if_neg c_1_0, if_pos c_1_1]) hP hD
    · by_cases c_1_2 : p0 = 2
      · refine lv_tableIn (off := 39) (tgt := 40) hx hb dX1_tell_1 (by rw [c_1_2]; decide) (by rw [c_1_2]; decide) (by rw [c_1_2]; rfl) (by decide) ?_
        refine lv_iconst (v := 2) hx hb dX1_tell_40 (by decide) ?_
        refine lv_aload_n hx hb dX1_tell_41 rfl (lv_at hl 0 rfl) ?_
        refine va_get (ci := 0) (v := .int 6) (C := RX0) (T := TX0) (N := 3) hx hb hts hiX0 hown hK hP (4) rfl rfl 2 (by decide) (hts (.fieldLink RX1 16 "KingdomAtDice$Dice" "greatest" "I") (by decide +kernel)) (fun _ h9 => h9) rfl dX1_tell_42 ?_
        refine lv_imul hx hb dX1_tell_45 ?_
        refine kd_top (y := 12) (by decide) ?_
        exact kd_iret hx hb hr hlocks hK hS dX1_tell_46 (()) (by rw [sp_tell_4, if_neg c_1_0, if_neg c_1_1, if_pos c_1_2]) hP hD
      · refine lv_tableOut (tgt := 47) hx hb dX1_tell_1 (by have z0 := kd_ne2 c_1_0 (k := 0) (by decide); have z1 := kd_ne2 c_1_1 (k := 1) (by decide); have z2 := kd_ne2 c_1_2 (k := 2) (by decide); omega) (by decide) ?_
        refine lv_aload_n hx hb dX1_tell_47 rfl (lv_at hl 0 rfl) ?_
        refine kd_callIK (g := g) (wc := (kd_dc dq)) (va_runU (mc := 0) (ms := 0) (rm := { frames := 1, cells := 0, slots := 0, locals := 20 }) (C := RX0) (As := []) (rest := []) ⟨hx, hb, hml, hown, hts⟩ (c_wayMany_4 l g s.heap.size dq ) (va_cwU 0 hts gX1_tell_X1_wayMany_u19X0 rfl rfl rfl rfl (by decide +kernel) ⟨Nat.le_of_ble_eq_true rfl, Nat.le_of_ble_eq_true rfl⟩) (kd_preV (wc := (kd_dc dq)) (va_recv hK hP (ci := 0) (q0 := 4) rfl rfl) hP hD hS hA hK hE [0, 1, 2, 3, 4] rfl (by decide)) rfl rfl hl.1 rfl (lv_room (Nat.le_of_ble_eq_true rfl)) dX1_tell_48 ⟨Nat.le_of_ble_eq_true rfl, Nat.le_of_ble_eq_true rfl⟩) hP hD hS hA [0, 1, 2, 3, 4] rfl (fun r_48 _ H locs hw hP hS => ?_)
        obtain rfl : r_48 = 9 := hw
        exact kd_iret hx hb hr hlocks hK hS dX1_tell_51 (()) (by rw [sp_tell_4, if_neg c_1_0, if_neg c_1_1, if_neg c_1_2]) hP hD
def kd_wm (k : Nat) : Int32 := match k with
  | 0 => sp_wayMany_0
  | 1 => sp_wayMany_1
  | 2 => sp_wayMany_2
  | 3 => sp_wayMany_3
  | _ => sp_wayMany_4
def kd_fall (k : Nat) (sd : Int64) : Int32 × Int64 := match k with
  | 0 => sp_fall_0 sd
  | 1 => sp_fall_1 sd
  | 2 => sp_fall_2 sd
  | 3 => sp_fall_3 sd
  | _ => sp_fall_4 sd
def kd_tell (k : Nat) (p0 : Int32) : Int32 := match k with
  | 0 => sp_tell_0 p0
  | 1 => sp_tell_1 p0
  | 2 => sp_tell_2 p0
  | 3 => sp_tell_3 p0
  | _ => sp_tell_4 p0

/-- what java/lang/StringLatin1.canEncode answers and leaves, by its instructions -/
def sp_J1_canEncode_9a6ad (p0 : Int32) : Int32 :=
  if p0 < 0 then
    0
  else
    if 255 < p0 then
      0
    else
      1
theorem zb_J1_canEncode_9a6ad (p0 : Int32) : sp_J1_canEncode_9a6ad p0 = 0 ∨ sp_J1_canEncode_9a6ad p0 = 1 := by
  unfold sp_J1_canEncode_9a6ad
  repeat' split
  all_goals first | exact Or.inl rfl | exact Or.inr rfl | simp
set_option maxHeartbeats 4000000 in
set_option maxRecDepth 100000 in
theorem c_J1_canEncode_9a6ad (l : Launch) (g : kd_G) (sz : Nat) (p0 : Int32)  : kd_MI l yJ1_canEncode_9a6ad wsJ1_canEncode_9a6ad ({ frames := 0, cells := 0, slots := 0, locals := 0 }) [.int p0] g [] sz (fun r (_ : Unit) => r = sp_J1_canEncode_9a6ad p0) (fun _ => []) 0 0 := by
  refine kd_met (l := l) (y := yJ1_canEncode_9a6ad) (ws := wsJ1_canEncode_9a6ad) (rm := { frames := 0, cells := 0, slots := 0, locals := 0 }) (av := [.int p0]) (g := g) (WS := []) (sz := sz) (mc := 0) (ms := 0) (cc := cJ1_canEncode_9a6ad) (maxL := 1) (ret := (some .boolean)) (own := RJ1) (fun A => va_Qi (fun r (_ : Unit) => r = sp_J1_canEncode_9a6ad p0) (fun u t => kd_post g A [] t) A) (by decide) rfl rfl (Nat.le_of_ble_eq_true rfl) ?_
  intro p e s m below meth c A ls hx hb hr hml hts hown hlocks hnm hA hP hK hD hS hE hl
  have hl : lv_has ls 1 [(0, .int p0)] := hl
  refine lv_iload_n hx hb dJ1_canEncode_9a6ad_0 rfl (lv_at hl 0 rfl) ?_
  refine lv_if_lt (tgt := 15) hx hb dJ1_canEncode_9a6ad_1 (by decide) (fun c_1 => ?_) (fun c_1 => ?_)
  · refine lv_iconst (v := 0) hx hb dJ1_canEncode_9a6ad_15 (by decide) ?_
    exact kd_zret hx hb hr hlocks hK hS dJ1_canEncode_9a6ad_16 (Or.inl rfl) (()) (by rw [sp_J1_canEncode_9a6ad, if_pos c_1]) hP hD
  · refine lv_iload_n hx hb dJ1_canEncode_9a6ad_4 rfl (lv_at hl 0 rfl) ?_
    refine lv_sipush (v := 255) hx hb dJ1_canEncode_9a6ad_5 (by decide) ?_
    refine lv_icmp_gt (tgt := 15) hx hb dJ1_canEncode_9a6ad_8 (by decide) (fun c_8 => ?_) (fun c_8 => ?_)
    · refine lv_iconst (v := 0) hx hb dJ1_canEncode_9a6ad_15 (by decide) ?_
      exact kd_zret hx hb hr hlocks hK hS dJ1_canEncode_9a6ad_16 (Or.inl rfl) (()) (by rw [sp_J1_canEncode_9a6ad, if_neg c_1, if_pos c_8]) hP hD
    · refine lv_iconst (v := 1) hx hb dJ1_canEncode_9a6ad_11 (by decide) ?_
      refine lv_goto (tgt := 16) hx hb dJ1_canEncode_9a6ad_12 (by decide) ?_
      exact kd_zret hx hb hr hlocks hK hS dJ1_canEncode_9a6ad_16 (Or.inr rfl) (()) (by rw [sp_J1_canEncode_9a6ad, if_neg c_1, if_neg c_8]) hP hD
/-- what java/lang/String.isLatin1 answers and leaves, by its instructions -/
def sp_J0_isLatin1_aae02_0  : Int32 :=
  1
theorem zb_J0_isLatin1_aae02_0  : sp_J0_isLatin1_aae02_0 = 0 ∨ sp_J0_isLatin1_aae02_0 = 1 := by
  unfold sp_J0_isLatin1_aae02_0
  repeat' split
  all_goals first | exact Or.inl rfl | exact Or.inr rfl | simp
set_option maxHeartbeats 4000000 in
set_option maxRecDepth 100000 in
theorem c_J0_isLatin1_aae02_0 (l : Launch) (g : kd_G) (sz : Nat)   : kd_MI l yJ0_isLatin1_aae02 wsJ0_isLatin1_aae02 ({ frames := 0, cells := 0, slots := 0, locals := 0 }) [.ref (g.2.2.1 0)] g [] sz (fun r (_ : Unit) => r = sp_J0_isLatin1_aae02_0) (fun _ => []) 0 0 := by
  refine kd_met (l := l) (y := yJ0_isLatin1_aae02) (ws := wsJ0_isLatin1_aae02) (rm := { frames := 0, cells := 0, slots := 0, locals := 0 }) (av := [.ref (g.2.2.1 0)]) (g := g) (WS := []) (sz := sz) (mc := 0) (ms := 0) (cc := cJ0_isLatin1_aae02) (maxL := 1) (ret := (some .boolean)) (own := RJ0) (fun A => va_Qi (fun r (_ : Unit) => r = sp_J0_isLatin1_aae02_0) (fun u t => kd_post g A [] t) A) (by decide) rfl rfl (Nat.le_of_ble_eq_true rfl) ?_
  intro p e s m below meth c A ls hx hb hr hml hts hown hlocks hnm hA hP hK hD hS hE hl
  have hl : lv_has ls 1 [(0, .ref (g.2.2.1 0))] := hl
  refine va_gets hx hb hE.2.2.2.2.1 hS hown (hts (.fieldLink RJ0 38 "java/lang/String" "COMPACT_STRINGS" "Z") (by decide +kernel)) (fun _ h9 => h9) dJ0_isLatin1_aae02_0 ?_
  refine lv_if_eq (tgt := 17) hx hb dJ0_isLatin1_aae02_3 (by decide) (fun z => absurd z (by decide)) (fun _ => ?_)
  refine lv_aload_n hx hb dJ0_isLatin1_aae02_6 rfl (lv_at hl 0 rfl) ?_
  refine vk_getf hx hb (hE.2.2.2.1.1 0 (by decide)).2.1 hS hown (hts (.fieldLink RJ0 15 "java/lang/String" "coder" "B") (by decide +kernel)) (fun _ h9 => h9) dJ0_isLatin1_aae02_7 ?_
  refine lv_if_ne (tgt := 17) hx hb dJ0_isLatin1_aae02_10 (by decide) (fun z => absurd (by decide) z) (fun _ => ?_)
  refine lv_iconst (v := 1) hx hb dJ0_isLatin1_aae02_13 (by decide) ?_
  refine lv_goto (tgt := 18) hx hb dJ0_isLatin1_aae02_14 (by decide) ?_
  exact kd_zret hx hb hr hlocks hK hS dJ0_isLatin1_aae02_18 (Or.inr rfl) (()) (rfl) hP hD
set_option maxHeartbeats 4000000 in
set_option maxRecDepth 100000 in
theorem c_J0_coder_7d493_0 (l : Launch) (g : kd_G) (sz : Nat)   : kd_MI l yJ0_coder_7d493 wsJ0_coder_7d493 ({ frames := 0, cells := 0, slots := 0, locals := 0 }) [.ref (g.2.2.1 0)] g [] sz (fun r (_ : Unit) => r = (0 : Int32)) (fun _ => []) 0 0 := by
  refine kd_met (l := l) (y := yJ0_coder_7d493) (ws := wsJ0_coder_7d493) (rm := { frames := 0, cells := 0, slots := 0, locals := 0 }) (av := [.ref (g.2.2.1 0)]) (g := g) (WS := []) (sz := sz) (mc := 0) (ms := 0) (cc := cJ0_coder_7d493) (maxL := 1) (ret := (some .byte)) (own := RJ0) (fun A => va_Qi (fun r (_ : Unit) => r = (0 : Int32)) (fun u t => kd_post g A [] t) A) (by decide) rfl rfl (Nat.le_of_ble_eq_true rfl) ?_
  intro p e s m below meth c A ls hx hb hr hml hts hown hlocks hnm hA hP hK hD hS hE hl
  have hl : lv_has ls 1 [(0, .ref (g.2.2.1 0))] := hl
  refine va_gets hx hb hE.2.2.2.2.1 hS hown (hts (.fieldLink RJ0 38 "java/lang/String" "COMPACT_STRINGS" "Z") (by decide +kernel)) (fun _ h9 => h9) dJ0_coder_7d493_0 ?_
  refine lv_if_eq (tgt := 13) hx hb dJ0_coder_7d493_3 (by decide) (fun z => absurd z (by decide)) (fun _ => ?_)
  refine lv_aload_n hx hb dJ0_coder_7d493_6 rfl (lv_at hl 0 rfl) ?_
  refine vk_getf hx hb (hE.2.2.2.1.1 0 (by decide)).2.1 hS hown (hts (.fieldLink RJ0 15 "java/lang/String" "coder" "B") (by decide +kernel)) (fun _ h9 => h9) dJ0_coder_7d493_7 ?_
  refine lv_goto (tgt := 14) hx hb dJ0_coder_7d493_10 (by decide) ?_
  exact kd_bret hx hb hr hlocks hK hS dJ0_coder_7d493_14 rfl (()) (rfl) hP hD
set_option maxHeartbeats 4000000 in
set_option maxRecDepth 100000 in
theorem c_J0_length_8abf5_0 (l : Launch) (g : kd_G) (sz : Nat)   : kd_MI l yJ0_length_8abf5 wsJ0_length_8abf5 ({ frames := 1, cells := 0, slots := 0, locals := 20 }) [.ref (g.2.2.1 0)] g [] sz (fun r (_ : Unit) => r = (3 : Int32)) (fun _ => []) 0 0 := by
  refine kd_met (l := l) (y := yJ0_length_8abf5) (ws := wsJ0_length_8abf5) (rm := { frames := 1, cells := 0, slots := 0, locals := 20 }) (av := [.ref (g.2.2.1 0)]) (g := g) (WS := []) (sz := sz) (mc := 0) (ms := 0) (cc := cJ0_length_8abf5) (maxL := 1) (ret := (some .int)) (own := RJ0) (fun A => va_Qi (fun r (_ : Unit) => r = (3 : Int32)) (fun u t => kd_post g A [] t) A) (by decide) rfl rfl (Nat.le_of_ble_eq_true rfl) ?_
  intro p e s m below meth c A ls hx hb hr hml hts hown hlocks hnm hA hP hK hD hS hE hl
  have hl : lv_has ls 1 [(0, .ref (g.2.2.1 0))] := hl
  refine lv_aload_n hx hb dJ0_length_8abf5_0 rfl (lv_at hl 0 rfl) ?_
  refine vk_getf hx hb (hE.2.2.2.1.1 0 (by decide)).2.2.1 hS hown (hts (.fieldLink RJ0 9 "java/lang/String" "value" "[B") (by decide +kernel)) (fun _ h9 => h9) dJ0_length_8abf5_1 ?_
  refine va_tlen hx hb (hE.2.2.2.1.1 0 (by decide)).2.2.2 hS (v := 3) rfl dJ0_length_8abf5_4 ?_
  refine lv_aload_n hx hb dJ0_length_8abf5_5 rfl (lv_at hl 0 rfl) ?_
  refine kd_callIK (g := g) (wc := []) (va_runV (mc := 0) (ms := 0) (rm := { frames := 0, cells := 0, slots := 0, locals := 0 }) (As := []) (rest := [.int 3]) ⟨hx, hb, hml, hown, hts⟩ (c_J0_coder_7d493_0 l g s.heap.size  ) (cwV 0 hts gJ0_length_8abf5_J0_coder_7d493 rfl rfl rfl (by decide +kernel) ⟨Nat.le_of_ble_eq_true rfl, Nat.le_of_ble_eq_true rfl⟩) (kd_preV (wc := []) (vk_recv hE.2.2.2.1 (i := 0) (by decide) hS) hP hD hS hA hK hE [] rfl (by decide)) rfl rfl hl.1 rfl (lv_room (Nat.le_of_ble_eq_true rfl)) dJ0_length_8abf5_6 ⟨Nat.le_of_ble_eq_true rfl, Nat.le_of_ble_eq_true rfl⟩) hP hD hS hA [] rfl (fun r_6 _ H locs hw hP hS => ?_)
  obtain rfl : r_6 = 0 := hw
  refine lv_ishr hx hb dJ0_length_8abf5_9 ?_
  refine kd_top (y := 3) (by decide) ?_
  exact kd_iret hx hb hr hlocks hK hS dJ0_length_8abf5_10 (()) (rfl) hP hD
set_option maxHeartbeats 4000000 in
set_option maxRecDepth 100000 in
theorem c_J1_indexOfChar_4cfef_0 (l : Launch) (g : kd_G) (sz : Nat) (p0 : Int32)  : kd_MI l yJ1_indexOfChar_4cfef wsJ1_indexOfChar_4cfef ({ frames := 0, cells := 0, slots := 0, locals := 0 }) [.ref (g.2.2.2 0), .int p0, .int 0, .int 3] g [] sz (fun r (_ : Unit) => r = kd_ixF p0.toInt8.toInt32 0 0 3) (fun _ => []) 0 0 := by
  refine kd_met (l := l) (y := yJ1_indexOfChar_4cfef) (ws := wsJ1_indexOfChar_4cfef) (rm := { frames := 0, cells := 0, slots := 0, locals := 0 }) (av := [.ref (g.2.2.2 0), .int p0, .int 0, .int 3]) (g := g) (WS := []) (sz := sz) (mc := 0) (ms := 0) (cc := cJ1_indexOfChar_4cfef) (maxL := 6) (ret := (some .int)) (own := RJ1) (fun A => va_Qi (fun r (_ : Unit) => r = kd_ixF p0.toInt8.toInt32 0 0 3) (fun u t => kd_post g A [] t) A) (by decide) rfl rfl (Nat.le_of_ble_eq_true rfl) ?_
  intro p e s m below meth c A ls hx hb hr hml hts hown hlocks hnm hA hP hK hD hS hE hl
  have hl : lv_has ls 6 [(0, .ref (g.2.2.2 0)), (1, .int p0), (2, .int 0), (3, .int 3)] := hl
  refine lv_iload_n hx hb dJ1_indexOfChar_4cfef_0 rfl (lv_at hl 1 rfl) ?_
  refine lv_i2b hx hb dJ1_indexOfChar_4cfef_1 rfl ?_
  refine lv_istore (lv' := [(4, .int ((p0 : Int32).toInt8.toInt32)), (0, .ref (g.2.2.2 0)), (1, .int p0), (2, .int 0), (3, .int 3)]) hx hb dJ1_indexOfChar_4cfef_2 hl (by decide) rfl (fun ls hl => ?_)
  refine lv_iload_n hx hb dJ1_indexOfChar_4cfef_4 rfl (lv_at hl 3 rfl) ?_
  refine lv_istore (lv' := [(5, .int 0), (4, .int ((p0 : Int32).toInt8.toInt32)), (0, .ref (g.2.2.2 0)), (1, .int p0), (2, .int 0), (3, .int 3)]) hx hb dJ1_indexOfChar_4cfef_5 hl (by decide) rfl (fun ls hl => ?_)
  have loop_7 : ∀ (n_7 : Nat) (j : Nat) (k : Nat), (j + k = 3) → (kd_ixF p0.toInt8.toInt32 0 0 3 = kd_ixF p0.toInt8.toInt32 0 j k) → (k) < n_7 → ∀ (H : Heap) (locs : List Loc), va_P g.1 vwCl [] H → va_D A [] → va_S A s.heap H locs → ∀ (ls : Array Slot), lv_has ls 6 [(0, .ref (g.2.2.2 0)), (1, .int p0), (2, .int 0), (3, .int 3), (4, .int ((p0 : Int32).toInt8.toInt32)), (5, .int (nI j))] → W p l e ({ frames := 0, cells := 0, slots := 0, locals := 0 } : Room) s m ([.ref (g.2.2.2 0), .int p0, .int 0, .int 3] : List Value).toArray below meth c H locs 0 0 (MQ below (va_Qi (fun r (_ : Unit) => r = kd_ixF p0.toInt8.toInt32 0 0 3) (fun u t => kd_post g A [] t) A) ([.ref (g.2.2.2 0), .int p0, .int 0, .int 3] : List Value).toArray s 0 0 A) (F0 m 7 ls []) := by
    intro n_7
    induction n_7 with
    | zero => intro j k _ _ hm_7; exact absurd hm_7 (Nat.not_lt_zero _)
    | succ n_7 ih_7 =>
      intro j k hjk hq hm_7 H locs hP hD hS ls hl
      refine lv_iload hx hb dJ1_indexOfChar_4cfef_7 (lv_at hl 5 rfl) ?_
      refine lv_iload_n hx hb dJ1_indexOfChar_4cfef_9 rfl (lv_at hl 3 rfl) ?_
      refine lv_icmp_ge (tgt := 31) hx hb dJ1_indexOfChar_4cfef_10 (by decide) (fun c_10 => ?_) (fun c_10 => ?_)
      · have n_10 : 3 ≤ j := kd_ce (a := 3) (b := j) (by omega) (by omega) c_10
        obtain rfl : k = 0 := by omega
        refine lv_iconst (v := (-1)) hx hb dJ1_indexOfChar_4cfef_31 (by decide) ?_
        exact kd_iret hx hb hr hlocks hK hS dJ1_indexOfChar_4cfef_32 (()) (by rw [hq]; rfl) hP hD
      · have n_10 : j < 3 := kd_cne (a := 3) (b := j) (by omega) (by omega) c_10
        obtain ⟨k, rfl⟩ : ∃ z, k = z + 1 := ⟨k - 1, by omega⟩
        refine lv_aload_n hx hb dJ1_indexOfChar_4cfef_13 rfl (lv_at hl 0 rfl) ?_
        refine lv_iload hx hb dJ1_indexOfChar_4cfef_14 (lv_at hl 5 rfl) ?_
        refine va_tb hx hb (hE.2.2.2.1.1 0 (by decide)).2.2.2 hS (v := .int (kd_b 0 j)) (vp_in_nI (N := 3) (by omega) (by decide)) (by rw [nI_clamp (by omega)]; rfl) dJ1_indexOfChar_4cfef_16 ?_
        refine lv_iload hx hb dJ1_indexOfChar_4cfef_17 (lv_at hl 4 rfl) ?_
        refine lv_icmp_ne (tgt := 25) hx hb dJ1_indexOfChar_4cfef_19 (by decide) (fun c_19 => ?_) (fun c_19 => ?_)
        · refine lv_iinc (v := nI (j + 1)) (lv' := [(5, .int (nI (j + 1))), (0, .ref (g.2.2.2 0)), (1, .int p0), (2, .int 0), (3, .int 3), (4, .int ((p0 : Int32).toInt8.toInt32))]) hx hb dJ1_indexOfChar_4cfef_25 hl (k := 5) rfl (nI_1 _) (by decide) rfl (fun ls hl => ?_)
          refine lv_goto (tgt := 7) hx hb dJ1_indexOfChar_4cfef_28 (by decide) ?_
          exact ih_7 (j + 1) k (by omega) (by rw [hq, kd_ixF, if_neg c_19]) (by omega) _ _ hP hD hS ls (lv_sub hl [1, 2, 3, 4, 5, 0] rfl)
        · refine lv_iload hx hb dJ1_indexOfChar_4cfef_22 (lv_at hl 5 rfl) ?_
          exact kd_iret hx hb hr hlocks hK hS dJ1_indexOfChar_4cfef_24 (()) (by rw [hq, kd_ixF, if_pos c_19]) hP hD
  exact loop_7 (3 + 1) 0 3 (by omega) rfl (Nat.lt_succ_self _) _ _ hP hD hS ls (lv_sub hl [2, 3, 4, 5, 1, 0] rfl)
/-- what java/lang/StringLatin1.indexOf answers and leaves, by its instructions -/
def sp_J1_indexOf_4cfef_0 (p0 : Int32) : Int32 :=
  if (sp_J1_canEncode_9a6ad p0) = 0 then
    (-1)
  else
    kd_ixF p0.toInt8.toInt32 0 0 3
set_option maxHeartbeats 4000000 in
set_option maxRecDepth 100000 in
theorem c_J1_indexOf_4cfef_0 (l : Launch) (g : kd_G) (sz : Nat) (p0 : Int32)  : kd_MI l yJ1_indexOf_4cfef wsJ1_indexOf_4cfef ({ frames := 1, cells := 0, slots := 0, locals := 25 }) [.ref (g.2.2.2 0), .int p0, .int 0, .int 3] g [] sz (fun r (_ : Unit) => r = sp_J1_indexOf_4cfef_0 p0) (fun _ => []) 0 0 := by
  refine kd_met (l := l) (y := yJ1_indexOf_4cfef) (ws := wsJ1_indexOf_4cfef) (rm := { frames := 1, cells := 0, slots := 0, locals := 25 }) (av := [.ref (g.2.2.2 0), .int p0, .int 0, .int 3]) (g := g) (WS := []) (sz := sz) (mc := 0) (ms := 0) (cc := cJ1_indexOf_4cfef) (maxL := 4) (ret := (some .int)) (own := RJ1) (fun A => va_Qi (fun r (_ : Unit) => r = sp_J1_indexOf_4cfef_0 p0) (fun u t => kd_post g A [] t) A) (by decide) rfl rfl (Nat.le_of_ble_eq_true rfl) ?_
  intro p e s m below meth c A ls hx hb hr hml hts hown hlocks hnm hA hP hK hD hS hE hl
  have hl : lv_has ls 4 [(0, .ref (g.2.2.2 0)), (1, .int p0), (2, .int 0), (3, .int 3)] := hl
  refine lv_iload_n hx hb dJ1_indexOf_4cfef_0 rfl (lv_at hl 1 rfl) ?_
  refine kd_callIK (g := g) (wc := []) (va_runS (mc := 0) (ms := 0) (rm := { frames := 0, cells := 0, slots := 0, locals := 0 }) (As := [.int p0]) (rest := []) ⟨hx, hb, hml, hown, hts⟩ (c_J1_canEncode_9a6ad l g s.heap.size p0 ) (va_cwS 1 hts gJ1_indexOf_4cfef_J1_canEncode_9a6ad rfl rfl rfl (by decide +kernel) ⟨Nat.le_of_ble_eq_true rfl, Nat.le_of_ble_eq_true rfl⟩) (kd_preS (wc := []) (av := [.int p0]) hP hD hS hA hK hE [] rfl (by decide)) rfl rfl hl.1 rfl (lv_room (Nat.le_of_ble_eq_true rfl)) dJ1_indexOf_4cfef_1 ⟨Nat.le_of_ble_eq_true rfl, Nat.le_of_ble_eq_true rfl⟩) hP hD hS hA [] rfl (fun r_1 _ H locs hw hP hS => ?_)
  subst hw
  refine lv_if_ne (tgt := 9) hx hb dJ1_indexOf_4cfef_4 (by decide) (fun c_4 => ?_) (fun c_4 => ?_)
  · refine lv_iload_n hx hb dJ1_indexOf_4cfef_9 rfl (lv_at hl 2 rfl) ?_
    refine lv_iconst (v := 0) hx hb dJ1_indexOf_4cfef_10 (by decide) ?_
    refine va_mmax hx hb (by rw [hml]; exact hl.1.symm) hown (hts (.methodLink RJ1 92 Lib.Math.max.name) (by decide +kernel)) (hts (.static Lib.Math.max.name) (by decide +kernel)) (hts (.initialized "java/lang/Math") (by decide +kernel)) (hts (.code Lib.Math.max.name Lib.Math.max.code 2 (some .int)) (by decide +kernel)) (Nat.le_of_ble_eq_true rfl) (Nat.le_of_ble_eq_true rfl) (Nat.le_of_ble_eq_true rfl) (Nat.le_of_ble_eq_true rfl) dJ1_indexOf_4cfef_11 ?_
    refine kd_top (y := 0) (by decide) ?_
    refine lv_istore_n (lv' := [(2, .int 0), (0, .ref (g.2.2.2 0)), (1, .int p0), (3, .int 3)]) hx hb dJ1_indexOf_4cfef_14 rfl hl (by decide) rfl (fun ls hl => ?_)
    refine lv_iload_n hx hb dJ1_indexOf_4cfef_15 rfl (lv_at hl 3 rfl) ?_
    refine lv_aload_n hx hb dJ1_indexOf_4cfef_16 rfl (lv_at hl 1 rfl) ?_
    refine va_tlen hx hb (hE.2.2.2.1.1 0 (by decide)).2.2.2 hS (v := 3) rfl dJ1_indexOf_4cfef_17 ?_
    refine va_mmin hx hb (by rw [hml]; exact hl.1.symm) hown (hts (.methodLink RJ1 38 Lib.Math.min.name) (by decide +kernel)) (hts (.static Lib.Math.min.name) (by decide +kernel)) (hts (.initialized "java/lang/Math") (by decide +kernel)) (hts (.code Lib.Math.min.name Lib.Math.min.code 2 (some .int)) (by decide +kernel)) (Nat.le_of_ble_eq_true rfl) (Nat.le_of_ble_eq_true rfl) (Nat.le_of_ble_eq_true rfl) (Nat.le_of_ble_eq_true rfl) dJ1_indexOf_4cfef_18 ?_
    refine kd_top (y := 3) (by decide) ?_
    refine lv_istore_n (lv' := [(3, .int 3), (2, .int 0), (0, .ref (g.2.2.2 0)), (1, .int p0)]) hx hb dJ1_indexOf_4cfef_21 rfl hl (by decide) rfl (fun ls hl => ?_)
    refine lv_iload_n hx hb dJ1_indexOf_4cfef_22 rfl (lv_at hl 1 rfl) ?_
    refine lv_iload_n hx hb dJ1_indexOf_4cfef_23 rfl (lv_at hl 0 rfl) ?_
    refine lv_icmp_lt (tgt := 29) hx hb dJ1_indexOf_4cfef_24 (by decide) (fun _ => ?_) (fun z => absurd (by decide) z)
    refine lv_aload_n hx hb dJ1_indexOf_4cfef_29 rfl (lv_at hl 2 rfl) ?_
    refine lv_iload_n hx hb dJ1_indexOf_4cfef_30 rfl (lv_at hl 3 rfl) ?_
    refine lv_iload_n hx hb dJ1_indexOf_4cfef_31 rfl (lv_at hl 1 rfl) ?_
    refine lv_iload_n hx hb dJ1_indexOf_4cfef_32 rfl (lv_at hl 0 rfl) ?_
    refine kd_callIK (g := g) (wc := []) (va_runS (mc := 0) (ms := 0) (rm := { frames := 0, cells := 0, slots := 0, locals := 0 }) (As := [.ref (g.2.2.2 0), .int p0, .int 0, .int 3]) (rest := []) ⟨hx, hb, hml, hown, hts⟩ (c_J1_indexOfChar_4cfef_0 l g H.size p0 ) (va_cwS 4 hts gJ1_indexOf_4cfef_J1_indexOfChar_4cfef rfl rfl rfl (by decide +kernel) ⟨Nat.le_of_ble_eq_true rfl, Nat.le_of_ble_eq_true rfl⟩) (kd_preS (wc := []) (av := [.ref (g.2.2.2 0), .int p0, .int 0, .int 3]) hP hD hS hA hK hE [] rfl (by decide)) rfl rfl hl.1 rfl (lv_room (Nat.le_of_ble_eq_true rfl)) dJ1_indexOf_4cfef_33 ⟨Nat.le_of_ble_eq_true rfl, Nat.le_of_ble_eq_true rfl⟩) hP hD hS hA [] rfl (fun r_33 _ H locs hw hP hS => ?_)
    subst hw
    exact kd_iret hx hb hr hlocks hK hS dJ1_indexOf_4cfef_36 (()) (by rw [sp_J1_indexOf_4cfef_0, if_neg c_4]) hP hD
  · refine lv_iconst (v := (-1)) hx hb dJ1_indexOf_4cfef_7 (by decide) ?_
    exact kd_iret hx hb hr hlocks hK hS dJ1_indexOf_4cfef_8 (()) (by rw [sp_J1_indexOf_4cfef_0, if_pos c_4]) hP hD
/-- what java/lang/String.indexOf answers and leaves, by its instructions -/
def sp_J0_indexOf_7cf53_0 (p0 : Int32) : Int32 :=
  sp_J1_indexOf_4cfef_0 p0
set_option maxHeartbeats 4000000 in
set_option maxRecDepth 100000 in
theorem c_J0_indexOf_7cf53_0 (l : Launch) (g : kd_G) (sz : Nat) (p0 : Int32)  : kd_MI l yJ0_indexOf_7cf53 wsJ0_indexOf_7cf53 ({ frames := 2, cells := 0, slots := 0, locals := 48 }) [.ref (g.2.2.1 0), .int p0, .int 0] g [] sz (fun r (_ : Unit) => r = sp_J0_indexOf_7cf53_0 p0) (fun _ => []) 0 0 := by
  refine kd_met (l := l) (y := yJ0_indexOf_7cf53) (ws := wsJ0_indexOf_7cf53) (rm := { frames := 2, cells := 0, slots := 0, locals := 48 }) (av := [.ref (g.2.2.1 0), .int p0, .int 0]) (g := g) (WS := []) (sz := sz) (mc := 0) (ms := 0) (cc := cJ0_indexOf_7cf53) (maxL := 3) (ret := (some .int)) (own := RJ0) (fun A => va_Qi (fun r (_ : Unit) => r = sp_J0_indexOf_7cf53_0 p0) (fun u t => kd_post g A [] t) A) (by decide) rfl rfl (Nat.le_of_ble_eq_true rfl) ?_
  intro p e s m below meth c A ls hx hb hr hml hts hown hlocks hnm hA hP hK hD hS hE hl
  have hl : lv_has ls 3 [(0, .ref (g.2.2.1 0)), (1, .int p0), (2, .int 0)] := hl
  refine lv_aload_n hx hb dJ0_indexOf_7cf53_0 rfl (lv_at hl 0 rfl) ?_
  refine kd_callIK (g := g) (wc := []) (va_runV (mc := 0) (ms := 0) (rm := { frames := 0, cells := 0, slots := 0, locals := 0 }) (As := []) (rest := []) ⟨hx, hb, hml, hown, hts⟩ (c_J0_isLatin1_aae02_0 l g s.heap.size  ) (cwV 0 hts gJ0_indexOf_7cf53_J0_isLatin1_aae02 rfl rfl rfl (by decide +kernel) ⟨Nat.le_of_ble_eq_true rfl, Nat.le_of_ble_eq_true rfl⟩) (kd_preV (wc := []) (vk_recv hE.2.2.2.1 (i := 0) (by decide) hS) hP hD hS hA hK hE [] rfl (by decide)) rfl rfl hl.1 rfl (lv_room (Nat.le_of_ble_eq_true rfl)) dJ0_indexOf_7cf53_1 ⟨Nat.le_of_ble_eq_true rfl, Nat.le_of_ble_eq_true rfl⟩) hP hD hS hA [] rfl (fun r_1 _ H locs hw hP hS => ?_)
  obtain rfl : r_1 = 1 := hw
  refine lv_if_eq (tgt := 23) hx hb dJ0_indexOf_7cf53_4 (by decide) (fun z => absurd z (by decide)) (fun _ => ?_)
  refine lv_aload_n hx hb dJ0_indexOf_7cf53_7 rfl (lv_at hl 0 rfl) ?_
  refine vk_getf hx hb (hE.2.2.2.1.1 0 (by decide)).2.2.1 hS hown (hts (.fieldLink RJ0 9 "java/lang/String" "value" "[B") (by decide +kernel)) (fun _ h9 => h9) dJ0_indexOf_7cf53_8 ?_
  refine lv_iload_n hx hb dJ0_indexOf_7cf53_11 rfl (lv_at hl 1 rfl) ?_
  refine lv_iload_n hx hb dJ0_indexOf_7cf53_12 rfl (lv_at hl 2 rfl) ?_
  refine lv_aload_n hx hb dJ0_indexOf_7cf53_13 rfl (lv_at hl 0 rfl) ?_
  refine kd_callIK (g := g) (wc := []) (va_runV (mc := 0) (ms := 0) (rm := { frames := 1, cells := 0, slots := 0, locals := 20 }) (As := []) (rest := [.int 0, .int p0, .ref (g.2.2.2 0)]) ⟨hx, hb, hml, hown, hts⟩ (c_J0_length_8abf5_0 l g H.size  ) (cwV 0 hts gJ0_indexOf_7cf53_J0_length_8abf5 rfl rfl rfl (by decide +kernel) ⟨Nat.le_of_ble_eq_true rfl, Nat.le_of_ble_eq_true rfl⟩) (kd_preV (wc := []) (vk_recv hE.2.2.2.1 (i := 0) (by decide) hS) hP hD hS hA hK hE [] rfl (by decide)) rfl rfl hl.1 rfl (lv_room (Nat.le_of_ble_eq_true rfl)) dJ0_indexOf_7cf53_14 ⟨Nat.le_of_ble_eq_true rfl, Nat.le_of_ble_eq_true rfl⟩) hP hD hS hA [] rfl (fun r_14 _ H locs hw hP hS => ?_)
  obtain rfl : r_14 = 3 := hw
  refine kd_callIK (g := g) (wc := []) (va_runS (mc := 0) (ms := 0) (rm := { frames := 1, cells := 0, slots := 0, locals := 25 }) (As := [.ref (g.2.2.2 0), .int p0, .int 0, .int 3]) (rest := []) ⟨hx, hb, hml, hown, hts⟩ (c_J1_indexOf_4cfef_0 l g H.size p0 ) (va_cwS 4 hts gJ0_indexOf_7cf53_J1_indexOf_4cfef rfl rfl rfl (by decide +kernel) ⟨Nat.le_of_ble_eq_true rfl, Nat.le_of_ble_eq_true rfl⟩) (kd_preS (wc := []) (av := [.ref (g.2.2.2 0), .int p0, .int 0, .int 3]) hP hD hS hA hK hE [] rfl (by decide)) rfl rfl hl.1 rfl (lv_room (Nat.le_of_ble_eq_true rfl)) dJ0_indexOf_7cf53_17 ⟨Nat.le_of_ble_eq_true rfl, Nat.le_of_ble_eq_true rfl⟩) hP hD hS hA [] rfl (fun r_17 _ H locs hw hP hS => ?_)
  subst hw
  refine lv_goto (tgt := 36) hx hb dJ0_indexOf_7cf53_20 (by decide) ?_
  exact kd_iret hx hb hr hlocks hK hS dJ0_indexOf_7cf53_36 (()) (rfl) hP hD
/-- what java/lang/String.indexOf answers and leaves, by its instructions -/
def sp_J0_indexOf_0f7a4_0 (p0 : Int32) : Int32 :=
  sp_J0_indexOf_7cf53_0 p0
set_option maxHeartbeats 4000000 in
set_option maxRecDepth 100000 in
theorem c_J0_indexOf_0f7a4_0 (l : Launch) (g : kd_G) (sz : Nat) (p0 : Int32)  : kd_MI l yJ0_indexOf_0f7a4 wsJ0_indexOf_0f7a4 ({ frames := 3, cells := 0, slots := 0, locals := 70 }) [.ref (g.2.2.1 0), .int p0] g [] sz (fun r (_ : Unit) => r = sp_J0_indexOf_0f7a4_0 p0) (fun _ => []) 0 0 := by
  refine kd_met (l := l) (y := yJ0_indexOf_0f7a4) (ws := wsJ0_indexOf_0f7a4) (rm := { frames := 3, cells := 0, slots := 0, locals := 70 }) (av := [.ref (g.2.2.1 0), .int p0]) (g := g) (WS := []) (sz := sz) (mc := 0) (ms := 0) (cc := cJ0_indexOf_0f7a4) (maxL := 2) (ret := (some .int)) (own := RJ0) (fun A => va_Qi (fun r (_ : Unit) => r = sp_J0_indexOf_0f7a4_0 p0) (fun u t => kd_post g A [] t) A) (by decide) rfl rfl (Nat.le_of_ble_eq_true rfl) ?_
  intro p e s m below meth c A ls hx hb hr hml hts hown hlocks hnm hA hP hK hD hS hE hl
  have hl : lv_has ls 2 [(0, .ref (g.2.2.1 0)), (1, .int p0)] := hl
  refine lv_aload_n hx hb dJ0_indexOf_0f7a4_0 rfl (lv_at hl 0 rfl) ?_
  refine lv_iload_n hx hb dJ0_indexOf_0f7a4_1 rfl (lv_at hl 1 rfl) ?_
  refine lv_iconst (v := 0) hx hb dJ0_indexOf_0f7a4_2 (by decide) ?_
  refine kd_callIK (g := g) (wc := []) (va_runV (mc := 0) (ms := 0) (rm := { frames := 2, cells := 0, slots := 0, locals := 48 }) (As := [.int p0, .int 0]) (rest := []) ⟨hx, hb, hml, hown, hts⟩ (c_J0_indexOf_7cf53_0 l g s.heap.size p0 ) (cwV 2 hts gJ0_indexOf_0f7a4_J0_indexOf_7cf53 rfl rfl rfl (by decide +kernel) ⟨Nat.le_of_ble_eq_true rfl, Nat.le_of_ble_eq_true rfl⟩) (kd_preV (wc := []) (vk_recv hE.2.2.2.1 (i := 0) (by decide) hS) hP hD hS hA hK hE [] rfl (by decide)) rfl rfl hl.1 rfl (lv_room (Nat.le_of_ble_eq_true rfl)) dJ0_indexOf_0f7a4_3 ⟨Nat.le_of_ble_eq_true rfl, Nat.le_of_ble_eq_true rfl⟩) hP hD hS hA [] rfl (fun r_3 _ H locs hw hP hS => ?_)
  subst hw
  exact kd_iret hx hb hr hlocks hK hS dJ0_indexOf_0f7a4_6 (()) (rfl) hP hD
/-- what java/lang/String.isLatin1 answers and leaves, by its instructions -/
def sp_J0_isLatin1_aae02_1  : Int32 :=
  1
theorem zb_J0_isLatin1_aae02_1  : sp_J0_isLatin1_aae02_1 = 0 ∨ sp_J0_isLatin1_aae02_1 = 1 := by
  unfold sp_J0_isLatin1_aae02_1
  repeat' split
  all_goals first | exact Or.inl rfl | exact Or.inr rfl | simp
set_option maxHeartbeats 4000000 in
set_option maxRecDepth 100000 in
theorem c_J0_isLatin1_aae02_1 (l : Launch) (g : kd_G) (sz : Nat)   : kd_MI l yJ0_isLatin1_aae02 wsJ0_isLatin1_aae02 ({ frames := 0, cells := 0, slots := 0, locals := 0 }) [.ref (g.2.2.1 1)] g [] sz (fun r (_ : Unit) => r = sp_J0_isLatin1_aae02_1) (fun _ => []) 0 0 := by
  refine kd_met (l := l) (y := yJ0_isLatin1_aae02) (ws := wsJ0_isLatin1_aae02) (rm := { frames := 0, cells := 0, slots := 0, locals := 0 }) (av := [.ref (g.2.2.1 1)]) (g := g) (WS := []) (sz := sz) (mc := 0) (ms := 0) (cc := cJ0_isLatin1_aae02) (maxL := 1) (ret := (some .boolean)) (own := RJ0) (fun A => va_Qi (fun r (_ : Unit) => r = sp_J0_isLatin1_aae02_1) (fun u t => kd_post g A [] t) A) (by decide) rfl rfl (Nat.le_of_ble_eq_true rfl) ?_
  intro p e s m below meth c A ls hx hb hr hml hts hown hlocks hnm hA hP hK hD hS hE hl
  have hl : lv_has ls 1 [(0, .ref (g.2.2.1 1))] := hl
  refine va_gets hx hb hE.2.2.2.2.1 hS hown (hts (.fieldLink RJ0 38 "java/lang/String" "COMPACT_STRINGS" "Z") (by decide +kernel)) (fun _ h9 => h9) dJ0_isLatin1_aae02_0 ?_
  refine lv_if_eq (tgt := 17) hx hb dJ0_isLatin1_aae02_3 (by decide) (fun z => absurd z (by decide)) (fun _ => ?_)
  refine lv_aload_n hx hb dJ0_isLatin1_aae02_6 rfl (lv_at hl 0 rfl) ?_
  refine vk_getf hx hb (hE.2.2.2.1.1 1 (by decide)).2.1 hS hown (hts (.fieldLink RJ0 15 "java/lang/String" "coder" "B") (by decide +kernel)) (fun _ h9 => h9) dJ0_isLatin1_aae02_7 ?_
  refine lv_if_ne (tgt := 17) hx hb dJ0_isLatin1_aae02_10 (by decide) (fun z => absurd (by decide) z) (fun _ => ?_)
  refine lv_iconst (v := 1) hx hb dJ0_isLatin1_aae02_13 (by decide) ?_
  refine lv_goto (tgt := 18) hx hb dJ0_isLatin1_aae02_14 (by decide) ?_
  exact kd_zret hx hb hr hlocks hK hS dJ0_isLatin1_aae02_18 (Or.inr rfl) (()) (rfl) hP hD
set_option maxHeartbeats 4000000 in
set_option maxRecDepth 100000 in
theorem c_J0_coder_7d493_1 (l : Launch) (g : kd_G) (sz : Nat)   : kd_MI l yJ0_coder_7d493 wsJ0_coder_7d493 ({ frames := 0, cells := 0, slots := 0, locals := 0 }) [.ref (g.2.2.1 1)] g [] sz (fun r (_ : Unit) => r = (0 : Int32)) (fun _ => []) 0 0 := by
  refine kd_met (l := l) (y := yJ0_coder_7d493) (ws := wsJ0_coder_7d493) (rm := { frames := 0, cells := 0, slots := 0, locals := 0 }) (av := [.ref (g.2.2.1 1)]) (g := g) (WS := []) (sz := sz) (mc := 0) (ms := 0) (cc := cJ0_coder_7d493) (maxL := 1) (ret := (some .byte)) (own := RJ0) (fun A => va_Qi (fun r (_ : Unit) => r = (0 : Int32)) (fun u t => kd_post g A [] t) A) (by decide) rfl rfl (Nat.le_of_ble_eq_true rfl) ?_
  intro p e s m below meth c A ls hx hb hr hml hts hown hlocks hnm hA hP hK hD hS hE hl
  have hl : lv_has ls 1 [(0, .ref (g.2.2.1 1))] := hl
  refine va_gets hx hb hE.2.2.2.2.1 hS hown (hts (.fieldLink RJ0 38 "java/lang/String" "COMPACT_STRINGS" "Z") (by decide +kernel)) (fun _ h9 => h9) dJ0_coder_7d493_0 ?_
  refine lv_if_eq (tgt := 13) hx hb dJ0_coder_7d493_3 (by decide) (fun z => absurd z (by decide)) (fun _ => ?_)
  refine lv_aload_n hx hb dJ0_coder_7d493_6 rfl (lv_at hl 0 rfl) ?_
  refine vk_getf hx hb (hE.2.2.2.1.1 1 (by decide)).2.1 hS hown (hts (.fieldLink RJ0 15 "java/lang/String" "coder" "B") (by decide +kernel)) (fun _ h9 => h9) dJ0_coder_7d493_7 ?_
  refine lv_goto (tgt := 14) hx hb dJ0_coder_7d493_10 (by decide) ?_
  exact kd_bret hx hb hr hlocks hK hS dJ0_coder_7d493_14 rfl (()) (rfl) hP hD
set_option maxHeartbeats 4000000 in
set_option maxRecDepth 100000 in
theorem c_J0_length_8abf5_1 (l : Launch) (g : kd_G) (sz : Nat)   : kd_MI l yJ0_length_8abf5 wsJ0_length_8abf5 ({ frames := 1, cells := 0, slots := 0, locals := 20 }) [.ref (g.2.2.1 1)] g [] sz (fun r (_ : Unit) => r = (5 : Int32)) (fun _ => []) 0 0 := by
  refine kd_met (l := l) (y := yJ0_length_8abf5) (ws := wsJ0_length_8abf5) (rm := { frames := 1, cells := 0, slots := 0, locals := 20 }) (av := [.ref (g.2.2.1 1)]) (g := g) (WS := []) (sz := sz) (mc := 0) (ms := 0) (cc := cJ0_length_8abf5) (maxL := 1) (ret := (some .int)) (own := RJ0) (fun A => va_Qi (fun r (_ : Unit) => r = (5 : Int32)) (fun u t => kd_post g A [] t) A) (by decide) rfl rfl (Nat.le_of_ble_eq_true rfl) ?_
  intro p e s m below meth c A ls hx hb hr hml hts hown hlocks hnm hA hP hK hD hS hE hl
  have hl : lv_has ls 1 [(0, .ref (g.2.2.1 1))] := hl
  refine lv_aload_n hx hb dJ0_length_8abf5_0 rfl (lv_at hl 0 rfl) ?_
  refine vk_getf hx hb (hE.2.2.2.1.1 1 (by decide)).2.2.1 hS hown (hts (.fieldLink RJ0 9 "java/lang/String" "value" "[B") (by decide +kernel)) (fun _ h9 => h9) dJ0_length_8abf5_1 ?_
  refine va_tlen hx hb (hE.2.2.2.1.1 1 (by decide)).2.2.2 hS (v := 5) rfl dJ0_length_8abf5_4 ?_
  refine lv_aload_n hx hb dJ0_length_8abf5_5 rfl (lv_at hl 0 rfl) ?_
  refine kd_callIK (g := g) (wc := []) (va_runV (mc := 0) (ms := 0) (rm := { frames := 0, cells := 0, slots := 0, locals := 0 }) (As := []) (rest := [.int 5]) ⟨hx, hb, hml, hown, hts⟩ (c_J0_coder_7d493_1 l g s.heap.size  ) (cwV 0 hts gJ0_length_8abf5_J0_coder_7d493 rfl rfl rfl (by decide +kernel) ⟨Nat.le_of_ble_eq_true rfl, Nat.le_of_ble_eq_true rfl⟩) (kd_preV (wc := []) (vk_recv hE.2.2.2.1 (i := 1) (by decide) hS) hP hD hS hA hK hE [] rfl (by decide)) rfl rfl hl.1 rfl (lv_room (Nat.le_of_ble_eq_true rfl)) dJ0_length_8abf5_6 ⟨Nat.le_of_ble_eq_true rfl, Nat.le_of_ble_eq_true rfl⟩) hP hD hS hA [] rfl (fun r_6 _ H locs hw hP hS => ?_)
  obtain rfl : r_6 = 0 := hw
  refine lv_ishr hx hb dJ0_length_8abf5_9 ?_
  refine kd_top (y := 5) (by decide) ?_
  exact kd_iret hx hb hr hlocks hK hS dJ0_length_8abf5_10 (()) (rfl) hP hD
set_option maxHeartbeats 4000000 in
set_option maxRecDepth 100000 in
theorem c_J1_indexOfChar_4cfef_1 (l : Launch) (g : kd_G) (sz : Nat) (p0 : Int32)  : kd_MI l yJ1_indexOfChar_4cfef wsJ1_indexOfChar_4cfef ({ frames := 0, cells := 0, slots := 0, locals := 0 }) [.ref (g.2.2.2 1), .int p0, .int 0, .int 5] g [] sz (fun r (_ : Unit) => r = kd_ixF p0.toInt8.toInt32 1 0 5) (fun _ => []) 0 0 := by
  refine kd_met (l := l) (y := yJ1_indexOfChar_4cfef) (ws := wsJ1_indexOfChar_4cfef) (rm := { frames := 0, cells := 0, slots := 0, locals := 0 }) (av := [.ref (g.2.2.2 1), .int p0, .int 0, .int 5]) (g := g) (WS := []) (sz := sz) (mc := 0) (ms := 0) (cc := cJ1_indexOfChar_4cfef) (maxL := 6) (ret := (some .int)) (own := RJ1) (fun A => va_Qi (fun r (_ : Unit) => r = kd_ixF p0.toInt8.toInt32 1 0 5) (fun u t => kd_post g A [] t) A) (by decide) rfl rfl (Nat.le_of_ble_eq_true rfl) ?_
  intro p e s m below meth c A ls hx hb hr hml hts hown hlocks hnm hA hP hK hD hS hE hl
  have hl : lv_has ls 6 [(0, .ref (g.2.2.2 1)), (1, .int p0), (2, .int 0), (3, .int 5)] := hl
  refine lv_iload_n hx hb dJ1_indexOfChar_4cfef_0 rfl (lv_at hl 1 rfl) ?_
  refine lv_i2b hx hb dJ1_indexOfChar_4cfef_1 rfl ?_
  refine lv_istore (lv' := [(4, .int ((p0 : Int32).toInt8.toInt32)), (0, .ref (g.2.2.2 1)), (1, .int p0), (2, .int 0), (3, .int 5)]) hx hb dJ1_indexOfChar_4cfef_2 hl (by decide) rfl (fun ls hl => ?_)
  refine lv_iload_n hx hb dJ1_indexOfChar_4cfef_4 rfl (lv_at hl 3 rfl) ?_
  refine lv_istore (lv' := [(5, .int 0), (4, .int ((p0 : Int32).toInt8.toInt32)), (0, .ref (g.2.2.2 1)), (1, .int p0), (2, .int 0), (3, .int 5)]) hx hb dJ1_indexOfChar_4cfef_5 hl (by decide) rfl (fun ls hl => ?_)
  have loop_7 : ∀ (n_7 : Nat) (j : Nat) (k : Nat), (j + k = 5) → (kd_ixF p0.toInt8.toInt32 1 0 5 = kd_ixF p0.toInt8.toInt32 1 j k) → (k) < n_7 → ∀ (H : Heap) (locs : List Loc), va_P g.1 vwCl [] H → va_D A [] → va_S A s.heap H locs → ∀ (ls : Array Slot), lv_has ls 6 [(0, .ref (g.2.2.2 1)), (1, .int p0), (2, .int 0), (3, .int 5), (4, .int ((p0 : Int32).toInt8.toInt32)), (5, .int (nI j))] → W p l e ({ frames := 0, cells := 0, slots := 0, locals := 0 } : Room) s m ([.ref (g.2.2.2 1), .int p0, .int 0, .int 5] : List Value).toArray below meth c H locs 0 0 (MQ below (va_Qi (fun r (_ : Unit) => r = kd_ixF p0.toInt8.toInt32 1 0 5) (fun u t => kd_post g A [] t) A) ([.ref (g.2.2.2 1), .int p0, .int 0, .int 5] : List Value).toArray s 0 0 A) (F0 m 7 ls []) := by
    intro n_7
    induction n_7 with
    | zero => intro j k _ _ hm_7; exact absurd hm_7 (Nat.not_lt_zero _)
    | succ n_7 ih_7 =>
      intro j k hjk hq hm_7 H locs hP hD hS ls hl
      refine lv_iload hx hb dJ1_indexOfChar_4cfef_7 (lv_at hl 5 rfl) ?_
      refine lv_iload_n hx hb dJ1_indexOfChar_4cfef_9 rfl (lv_at hl 3 rfl) ?_
      refine lv_icmp_ge (tgt := 31) hx hb dJ1_indexOfChar_4cfef_10 (by decide) (fun c_10 => ?_) (fun c_10 => ?_)
      · have n_10 : 5 ≤ j := kd_ce (a := 5) (b := j) (by omega) (by omega) c_10
        obtain rfl : k = 0 := by omega
        refine lv_iconst (v := (-1)) hx hb dJ1_indexOfChar_4cfef_31 (by decide) ?_
        exact kd_iret hx hb hr hlocks hK hS dJ1_indexOfChar_4cfef_32 (()) (by rw [hq]; rfl) hP hD
      · have n_10 : j < 5 := kd_cne (a := 5) (b := j) (by omega) (by omega) c_10
        obtain ⟨k, rfl⟩ : ∃ z, k = z + 1 := ⟨k - 1, by omega⟩
        refine lv_aload_n hx hb dJ1_indexOfChar_4cfef_13 rfl (lv_at hl 0 rfl) ?_
        refine lv_iload hx hb dJ1_indexOfChar_4cfef_14 (lv_at hl 5 rfl) ?_
        refine va_tb hx hb (hE.2.2.2.1.1 1 (by decide)).2.2.2 hS (v := .int (kd_b 1 j)) (vp_in_nI (N := 5) (by omega) (by decide)) (by rw [nI_clamp (by omega)]; rfl) dJ1_indexOfChar_4cfef_16 ?_
        refine lv_iload hx hb dJ1_indexOfChar_4cfef_17 (lv_at hl 4 rfl) ?_
        refine lv_icmp_ne (tgt := 25) hx hb dJ1_indexOfChar_4cfef_19 (by decide) (fun c_19 => ?_) (fun c_19 => ?_)
        · refine lv_iinc (v := nI (j + 1)) (lv' := [(5, .int (nI (j + 1))), (0, .ref (g.2.2.2 1)), (1, .int p0), (2, .int 0), (3, .int 5), (4, .int ((p0 : Int32).toInt8.toInt32))]) hx hb dJ1_indexOfChar_4cfef_25 hl (k := 5) rfl (nI_1 _) (by decide) rfl (fun ls hl => ?_)
          refine lv_goto (tgt := 7) hx hb dJ1_indexOfChar_4cfef_28 (by decide) ?_
          exact ih_7 (j + 1) k (by omega) (by rw [hq, kd_ixF, if_neg c_19]) (by omega) _ _ hP hD hS ls (lv_sub hl [1, 2, 3, 4, 5, 0] rfl)
        · refine lv_iload hx hb dJ1_indexOfChar_4cfef_22 (lv_at hl 5 rfl) ?_
          exact kd_iret hx hb hr hlocks hK hS dJ1_indexOfChar_4cfef_24 (()) (by rw [hq, kd_ixF, if_pos c_19]) hP hD
  exact loop_7 (5 + 1) 0 5 (by omega) rfl (Nat.lt_succ_self _) _ _ hP hD hS ls (lv_sub hl [2, 3, 4, 5, 1, 0] rfl)
/-- what java/lang/StringLatin1.indexOf answers and leaves, by its instructions -/
def sp_J1_indexOf_4cfef_1 (p0 : Int32) : Int32 :=
  if (sp_J1_canEncode_9a6ad p0) = 0 then
    (-1)
  else
    kd_ixF p0.toInt8.toInt32 1 0 5
set_option maxHeartbeats 4000000 in
set_option maxRecDepth 100000 in
theorem c_J1_indexOf_4cfef_1 (l : Launch) (g : kd_G) (sz : Nat) (p0 : Int32)  : kd_MI l yJ1_indexOf_4cfef wsJ1_indexOf_4cfef ({ frames := 1, cells := 0, slots := 0, locals := 25 }) [.ref (g.2.2.2 1), .int p0, .int 0, .int 5] g [] sz (fun r (_ : Unit) => r = sp_J1_indexOf_4cfef_1 p0) (fun _ => []) 0 0 := by
  refine kd_met (l := l) (y := yJ1_indexOf_4cfef) (ws := wsJ1_indexOf_4cfef) (rm := { frames := 1, cells := 0, slots := 0, locals := 25 }) (av := [.ref (g.2.2.2 1), .int p0, .int 0, .int 5]) (g := g) (WS := []) (sz := sz) (mc := 0) (ms := 0) (cc := cJ1_indexOf_4cfef) (maxL := 4) (ret := (some .int)) (own := RJ1) (fun A => va_Qi (fun r (_ : Unit) => r = sp_J1_indexOf_4cfef_1 p0) (fun u t => kd_post g A [] t) A) (by decide) rfl rfl (Nat.le_of_ble_eq_true rfl) ?_
  intro p e s m below meth c A ls hx hb hr hml hts hown hlocks hnm hA hP hK hD hS hE hl
  have hl : lv_has ls 4 [(0, .ref (g.2.2.2 1)), (1, .int p0), (2, .int 0), (3, .int 5)] := hl
  refine lv_iload_n hx hb dJ1_indexOf_4cfef_0 rfl (lv_at hl 1 rfl) ?_
  refine kd_callIK (g := g) (wc := []) (va_runS (mc := 0) (ms := 0) (rm := { frames := 0, cells := 0, slots := 0, locals := 0 }) (As := [.int p0]) (rest := []) ⟨hx, hb, hml, hown, hts⟩ (c_J1_canEncode_9a6ad l g s.heap.size p0 ) (va_cwS 1 hts gJ1_indexOf_4cfef_J1_canEncode_9a6ad rfl rfl rfl (by decide +kernel) ⟨Nat.le_of_ble_eq_true rfl, Nat.le_of_ble_eq_true rfl⟩) (kd_preS (wc := []) (av := [.int p0]) hP hD hS hA hK hE [] rfl (by decide)) rfl rfl hl.1 rfl (lv_room (Nat.le_of_ble_eq_true rfl)) dJ1_indexOf_4cfef_1 ⟨Nat.le_of_ble_eq_true rfl, Nat.le_of_ble_eq_true rfl⟩) hP hD hS hA [] rfl (fun r_1 _ H locs hw hP hS => ?_)
  subst hw
  refine lv_if_ne (tgt := 9) hx hb dJ1_indexOf_4cfef_4 (by decide) (fun c_4 => ?_) (fun c_4 => ?_)
  · refine lv_iload_n hx hb dJ1_indexOf_4cfef_9 rfl (lv_at hl 2 rfl) ?_
    refine lv_iconst (v := 0) hx hb dJ1_indexOf_4cfef_10 (by decide) ?_
    refine va_mmax hx hb (by rw [hml]; exact hl.1.symm) hown (hts (.methodLink RJ1 92 Lib.Math.max.name) (by decide +kernel)) (hts (.static Lib.Math.max.name) (by decide +kernel)) (hts (.initialized "java/lang/Math") (by decide +kernel)) (hts (.code Lib.Math.max.name Lib.Math.max.code 2 (some .int)) (by decide +kernel)) (Nat.le_of_ble_eq_true rfl) (Nat.le_of_ble_eq_true rfl) (Nat.le_of_ble_eq_true rfl) (Nat.le_of_ble_eq_true rfl) dJ1_indexOf_4cfef_11 ?_
    refine kd_top (y := 0) (by decide) ?_
    refine lv_istore_n (lv' := [(2, .int 0), (0, .ref (g.2.2.2 1)), (1, .int p0), (3, .int 5)]) hx hb dJ1_indexOf_4cfef_14 rfl hl (by decide) rfl (fun ls hl => ?_)
    refine lv_iload_n hx hb dJ1_indexOf_4cfef_15 rfl (lv_at hl 3 rfl) ?_
    refine lv_aload_n hx hb dJ1_indexOf_4cfef_16 rfl (lv_at hl 1 rfl) ?_
    refine va_tlen hx hb (hE.2.2.2.1.1 1 (by decide)).2.2.2 hS (v := 5) rfl dJ1_indexOf_4cfef_17 ?_
    refine va_mmin hx hb (by rw [hml]; exact hl.1.symm) hown (hts (.methodLink RJ1 38 Lib.Math.min.name) (by decide +kernel)) (hts (.static Lib.Math.min.name) (by decide +kernel)) (hts (.initialized "java/lang/Math") (by decide +kernel)) (hts (.code Lib.Math.min.name Lib.Math.min.code 2 (some .int)) (by decide +kernel)) (Nat.le_of_ble_eq_true rfl) (Nat.le_of_ble_eq_true rfl) (Nat.le_of_ble_eq_true rfl) (Nat.le_of_ble_eq_true rfl) dJ1_indexOf_4cfef_18 ?_
    refine kd_top (y := 5) (by decide) ?_
    refine lv_istore_n (lv' := [(3, .int 5), (2, .int 0), (0, .ref (g.2.2.2 1)), (1, .int p0)]) hx hb dJ1_indexOf_4cfef_21 rfl hl (by decide) rfl (fun ls hl => ?_)
    refine lv_iload_n hx hb dJ1_indexOf_4cfef_22 rfl (lv_at hl 1 rfl) ?_
    refine lv_iload_n hx hb dJ1_indexOf_4cfef_23 rfl (lv_at hl 0 rfl) ?_
    refine lv_icmp_lt (tgt := 29) hx hb dJ1_indexOf_4cfef_24 (by decide) (fun _ => ?_) (fun z => absurd (by decide) z)
    refine lv_aload_n hx hb dJ1_indexOf_4cfef_29 rfl (lv_at hl 2 rfl) ?_
    refine lv_iload_n hx hb dJ1_indexOf_4cfef_30 rfl (lv_at hl 3 rfl) ?_
    refine lv_iload_n hx hb dJ1_indexOf_4cfef_31 rfl (lv_at hl 1 rfl) ?_
    refine lv_iload_n hx hb dJ1_indexOf_4cfef_32 rfl (lv_at hl 0 rfl) ?_
    refine kd_callIK (g := g) (wc := []) (va_runS (mc := 0) (ms := 0) (rm := { frames := 0, cells := 0, slots := 0, locals := 0 }) (As := [.ref (g.2.2.2 1), .int p0, .int 0, .int 5]) (rest := []) ⟨hx, hb, hml, hown, hts⟩ (c_J1_indexOfChar_4cfef_1 l g H.size p0 ) (va_cwS 4 hts gJ1_indexOf_4cfef_J1_indexOfChar_4cfef rfl rfl rfl (by decide +kernel) ⟨Nat.le_of_ble_eq_true rfl, Nat.le_of_ble_eq_true rfl⟩) (kd_preS (wc := []) (av := [.ref (g.2.2.2 1), .int p0, .int 0, .int 5]) hP hD hS hA hK hE [] rfl (by decide)) rfl rfl hl.1 rfl (lv_room (Nat.le_of_ble_eq_true rfl)) dJ1_indexOf_4cfef_33 ⟨Nat.le_of_ble_eq_true rfl, Nat.le_of_ble_eq_true rfl⟩) hP hD hS hA [] rfl (fun r_33 _ H locs hw hP hS => ?_)
    subst hw
    exact kd_iret hx hb hr hlocks hK hS dJ1_indexOf_4cfef_36 (()) (by rw [sp_J1_indexOf_4cfef_1, if_neg c_4]) hP hD
  · refine lv_iconst (v := (-1)) hx hb dJ1_indexOf_4cfef_7 (by decide) ?_
    exact kd_iret hx hb hr hlocks hK hS dJ1_indexOf_4cfef_8 (()) (by rw [sp_J1_indexOf_4cfef_1, if_pos c_4]) hP hD
/-- what java/lang/String.indexOf answers and leaves, by its instructions -/
def sp_J0_indexOf_7cf53_1 (p0 : Int32) : Int32 :=
  sp_J1_indexOf_4cfef_1 p0
set_option maxHeartbeats 4000000 in
set_option maxRecDepth 100000 in
theorem c_J0_indexOf_7cf53_1 (l : Launch) (g : kd_G) (sz : Nat) (p0 : Int32)  : kd_MI l yJ0_indexOf_7cf53 wsJ0_indexOf_7cf53 ({ frames := 2, cells := 0, slots := 0, locals := 48 }) [.ref (g.2.2.1 1), .int p0, .int 0] g [] sz (fun r (_ : Unit) => r = sp_J0_indexOf_7cf53_1 p0) (fun _ => []) 0 0 := by
  refine kd_met (l := l) (y := yJ0_indexOf_7cf53) (ws := wsJ0_indexOf_7cf53) (rm := { frames := 2, cells := 0, slots := 0, locals := 48 }) (av := [.ref (g.2.2.1 1), .int p0, .int 0]) (g := g) (WS := []) (sz := sz) (mc := 0) (ms := 0) (cc := cJ0_indexOf_7cf53) (maxL := 3) (ret := (some .int)) (own := RJ0) (fun A => va_Qi (fun r (_ : Unit) => r = sp_J0_indexOf_7cf53_1 p0) (fun u t => kd_post g A [] t) A) (by decide) rfl rfl (Nat.le_of_ble_eq_true rfl) ?_
  intro p e s m below meth c A ls hx hb hr hml hts hown hlocks hnm hA hP hK hD hS hE hl
  have hl : lv_has ls 3 [(0, .ref (g.2.2.1 1)), (1, .int p0), (2, .int 0)] := hl
  refine lv_aload_n hx hb dJ0_indexOf_7cf53_0 rfl (lv_at hl 0 rfl) ?_
  refine kd_callIK (g := g) (wc := []) (va_runV (mc := 0) (ms := 0) (rm := { frames := 0, cells := 0, slots := 0, locals := 0 }) (As := []) (rest := []) ⟨hx, hb, hml, hown, hts⟩ (c_J0_isLatin1_aae02_1 l g s.heap.size  ) (cwV 0 hts gJ0_indexOf_7cf53_J0_isLatin1_aae02 rfl rfl rfl (by decide +kernel) ⟨Nat.le_of_ble_eq_true rfl, Nat.le_of_ble_eq_true rfl⟩) (kd_preV (wc := []) (vk_recv hE.2.2.2.1 (i := 1) (by decide) hS) hP hD hS hA hK hE [] rfl (by decide)) rfl rfl hl.1 rfl (lv_room (Nat.le_of_ble_eq_true rfl)) dJ0_indexOf_7cf53_1 ⟨Nat.le_of_ble_eq_true rfl, Nat.le_of_ble_eq_true rfl⟩) hP hD hS hA [] rfl (fun r_1 _ H locs hw hP hS => ?_)
  obtain rfl : r_1 = 1 := hw
  refine lv_if_eq (tgt := 23) hx hb dJ0_indexOf_7cf53_4 (by decide) (fun z => absurd z (by decide)) (fun _ => ?_)
  refine lv_aload_n hx hb dJ0_indexOf_7cf53_7 rfl (lv_at hl 0 rfl) ?_
  refine vk_getf hx hb (hE.2.2.2.1.1 1 (by decide)).2.2.1 hS hown (hts (.fieldLink RJ0 9 "java/lang/String" "value" "[B") (by decide +kernel)) (fun _ h9 => h9) dJ0_indexOf_7cf53_8 ?_
  refine lv_iload_n hx hb dJ0_indexOf_7cf53_11 rfl (lv_at hl 1 rfl) ?_
  refine lv_iload_n hx hb dJ0_indexOf_7cf53_12 rfl (lv_at hl 2 rfl) ?_
  refine lv_aload_n hx hb dJ0_indexOf_7cf53_13 rfl (lv_at hl 0 rfl) ?_
  refine kd_callIK (g := g) (wc := []) (va_runV (mc := 0) (ms := 0) (rm := { frames := 1, cells := 0, slots := 0, locals := 20 }) (As := []) (rest := [.int 0, .int p0, .ref (g.2.2.2 1)]) ⟨hx, hb, hml, hown, hts⟩ (c_J0_length_8abf5_1 l g H.size  ) (cwV 0 hts gJ0_indexOf_7cf53_J0_length_8abf5 rfl rfl rfl (by decide +kernel) ⟨Nat.le_of_ble_eq_true rfl, Nat.le_of_ble_eq_true rfl⟩) (kd_preV (wc := []) (vk_recv hE.2.2.2.1 (i := 1) (by decide) hS) hP hD hS hA hK hE [] rfl (by decide)) rfl rfl hl.1 rfl (lv_room (Nat.le_of_ble_eq_true rfl)) dJ0_indexOf_7cf53_14 ⟨Nat.le_of_ble_eq_true rfl, Nat.le_of_ble_eq_true rfl⟩) hP hD hS hA [] rfl (fun r_14 _ H locs hw hP hS => ?_)
  obtain rfl : r_14 = 5 := hw
  refine kd_callIK (g := g) (wc := []) (va_runS (mc := 0) (ms := 0) (rm := { frames := 1, cells := 0, slots := 0, locals := 25 }) (As := [.ref (g.2.2.2 1), .int p0, .int 0, .int 5]) (rest := []) ⟨hx, hb, hml, hown, hts⟩ (c_J1_indexOf_4cfef_1 l g H.size p0 ) (va_cwS 4 hts gJ0_indexOf_7cf53_J1_indexOf_4cfef rfl rfl rfl (by decide +kernel) ⟨Nat.le_of_ble_eq_true rfl, Nat.le_of_ble_eq_true rfl⟩) (kd_preS (wc := []) (av := [.ref (g.2.2.2 1), .int p0, .int 0, .int 5]) hP hD hS hA hK hE [] rfl (by decide)) rfl rfl hl.1 rfl (lv_room (Nat.le_of_ble_eq_true rfl)) dJ0_indexOf_7cf53_17 ⟨Nat.le_of_ble_eq_true rfl, Nat.le_of_ble_eq_true rfl⟩) hP hD hS hA [] rfl (fun r_17 _ H locs hw hP hS => ?_)
  subst hw
  refine lv_goto (tgt := 36) hx hb dJ0_indexOf_7cf53_20 (by decide) ?_
  exact kd_iret hx hb hr hlocks hK hS dJ0_indexOf_7cf53_36 (()) (rfl) hP hD
/-- what java/lang/String.indexOf answers and leaves, by its instructions -/
def sp_J0_indexOf_0f7a4_1 (p0 : Int32) : Int32 :=
  sp_J0_indexOf_7cf53_1 p0
set_option maxHeartbeats 4000000 in
set_option maxRecDepth 100000 in
theorem c_J0_indexOf_0f7a4_1 (l : Launch) (g : kd_G) (sz : Nat) (p0 : Int32)  : kd_MI l yJ0_indexOf_0f7a4 wsJ0_indexOf_0f7a4 ({ frames := 3, cells := 0, slots := 0, locals := 70 }) [.ref (g.2.2.1 1), .int p0] g [] sz (fun r (_ : Unit) => r = sp_J0_indexOf_0f7a4_1 p0) (fun _ => []) 0 0 := by
  refine kd_met (l := l) (y := yJ0_indexOf_0f7a4) (ws := wsJ0_indexOf_0f7a4) (rm := { frames := 3, cells := 0, slots := 0, locals := 70 }) (av := [.ref (g.2.2.1 1), .int p0]) (g := g) (WS := []) (sz := sz) (mc := 0) (ms := 0) (cc := cJ0_indexOf_0f7a4) (maxL := 2) (ret := (some .int)) (own := RJ0) (fun A => va_Qi (fun r (_ : Unit) => r = sp_J0_indexOf_0f7a4_1 p0) (fun u t => kd_post g A [] t) A) (by decide) rfl rfl (Nat.le_of_ble_eq_true rfl) ?_
  intro p e s m below meth c A ls hx hb hr hml hts hown hlocks hnm hA hP hK hD hS hE hl
  have hl : lv_has ls 2 [(0, .ref (g.2.2.1 1)), (1, .int p0)] := hl
  refine lv_aload_n hx hb dJ0_indexOf_0f7a4_0 rfl (lv_at hl 0 rfl) ?_
  refine lv_iload_n hx hb dJ0_indexOf_0f7a4_1 rfl (lv_at hl 1 rfl) ?_
  refine lv_iconst (v := 0) hx hb dJ0_indexOf_0f7a4_2 (by decide) ?_
  refine kd_callIK (g := g) (wc := []) (va_runV (mc := 0) (ms := 0) (rm := { frames := 2, cells := 0, slots := 0, locals := 48 }) (As := [.int p0, .int 0]) (rest := []) ⟨hx, hb, hml, hown, hts⟩ (c_J0_indexOf_7cf53_1 l g s.heap.size p0 ) (cwV 2 hts gJ0_indexOf_0f7a4_J0_indexOf_7cf53 rfl rfl rfl (by decide +kernel) ⟨Nat.le_of_ble_eq_true rfl, Nat.le_of_ble_eq_true rfl⟩) (kd_preV (wc := []) (vk_recv hE.2.2.2.1 (i := 1) (by decide) hS) hP hD hS hA hK hE [] rfl (by decide)) rfl rfl hl.1 rfl (lv_room (Nat.le_of_ble_eq_true rfl)) dJ0_indexOf_0f7a4_3 ⟨Nat.le_of_ble_eq_true rfl, Nat.le_of_ble_eq_true rfl⟩) hP hD hS hA [] rfl (fun r_3 _ H locs hw hP hS => ?_)
  subst hw
  exact kd_iret hx hb hr hlocks hK hS dJ0_indexOf_0f7a4_6 (()) (rfl) hP hD

/-- what java/lang/Integer.lowestOneBit answers and leaves, by its instructions -/
def sp_J6_lowestOneBit_0f7a4 (p0 : Int32) : Int32 :=
  p0 &&& (-p0)
set_option maxHeartbeats 4000000 in
set_option maxRecDepth 100000 in
theorem c_J6_lowestOneBit_0f7a4 (l : Launch) (g : kd_G) (sz : Nat) (p0 : Int32)  : kd_MI l yJ6_lowestOneBit_0f7a4 wsJ6_lowestOneBit_0f7a4 ({ frames := 0, cells := 0, slots := 0, locals := 0 }) [.int p0] g [] sz (fun r (_ : Unit) => r = sp_J6_lowestOneBit_0f7a4 p0) (fun _ => []) 0 0 := by
  refine kd_met (l := l) (y := yJ6_lowestOneBit_0f7a4) (ws := wsJ6_lowestOneBit_0f7a4) (rm := { frames := 0, cells := 0, slots := 0, locals := 0 }) (av := [.int p0]) (g := g) (WS := []) (sz := sz) (mc := 0) (ms := 0) (cc := cJ6_lowestOneBit_0f7a4) (maxL := 1) (ret := (some .int)) (own := RJ6) (fun A => va_Qi (fun r (_ : Unit) => r = sp_J6_lowestOneBit_0f7a4 p0) (fun u t => kd_post g A [] t) A) (by decide) rfl rfl (Nat.le_of_ble_eq_true rfl) ?_
  intro p e s m below meth c A ls hx hb hr hml hts hown hlocks hnm hA hP hK hD hS hE hl
  have hl : lv_has ls 1 [(0, .int p0)] := hl
  refine lv_iload_n hx hb dJ6_lowestOneBit_0f7a4_0 rfl (lv_at hl 0 rfl) ?_
  refine lv_iload_n hx hb dJ6_lowestOneBit_0f7a4_1 rfl (lv_at hl 0 rfl) ?_
  refine lv_ineg hx hb dJ6_lowestOneBit_0f7a4_2 ?_
  refine lv_iand hx hb dJ6_lowestOneBit_0f7a4_3 ?_
  exact kd_iret hx hb hr hlocks hK hS dJ6_lowestOneBit_0f7a4_4 (()) (rfl) hP hD
/-- what java/lang/Integer.bitCount answers and leaves, by its instructions -/
def sp_J6_bitCount_0f7a4 (p0 : Int32) : Int32 :=
  (((((((p0 - (((((p0) : Int32).toUInt32 >>> (((1) : Int32).toUInt32 &&& Int32.toUInt32 31)).toInt32) &&& 1431655765)) &&& 858993459) + ((((((p0 - (((((p0) : Int32).toUInt32 >>> (((1) : Int32).toUInt32 &&& Int32.toUInt32 31)).toInt32) &&& 1431655765))) : Int32).toUInt32 >>> (((2) : Int32).toUInt32 &&& Int32.toUInt32 31)).toInt32) &&& 858993459)) + (((((((p0 - (((((p0) : Int32).toUInt32 >>> (((1) : Int32).toUInt32 &&& Int32.toUInt32 31)).toInt32) &&& 1431655765)) &&& 858993459) + ((((((p0 - (((((p0) : Int32).toUInt32 >>> (((1) : Int32).toUInt32 &&& Int32.toUInt32 31)).toInt32) &&& 1431655765))) : Int32).toUInt32 >>> (((2) : Int32).toUInt32 &&& Int32.toUInt32 31)).toInt32) &&& 858993459))) : Int32).toUInt32 >>> (((4) : Int32).toUInt32 &&& Int32.toUInt32 31)).toInt32)) &&& 252645135) + (((((((((p0 - (((((p0) : Int32).toUInt32 >>> (((1) : Int32).toUInt32 &&& Int32.toUInt32 31)).toInt32) &&& 1431655765)) &&& 858993459) + ((((((p0 - (((((p0) : Int32).toUInt32 >>> (((1) : Int32).toUInt32 &&& Int32.toUInt32 31)).toInt32) &&& 1431655765))) : Int32).toUInt32 >>> (((2) : Int32).toUInt32 &&& Int32.toUInt32 31)).toInt32) &&& 858993459)) + (((((((p0 - (((((p0) : Int32).toUInt32 >>> (((1) : Int32).toUInt32 &&& Int32.toUInt32 31)).toInt32) &&& 1431655765)) &&& 858993459) + ((((((p0 - (((((p0) : Int32).toUInt32 >>> (((1) : Int32).toUInt32 &&& Int32.toUInt32 31)).toInt32) &&& 1431655765))) : Int32).toUInt32 >>> (((2) : Int32).toUInt32 &&& Int32.toUInt32 31)).toInt32) &&& 858993459))) : Int32).toUInt32 >>> (((4) : Int32).toUInt32 &&& Int32.toUInt32 31)).toInt32)) &&& 252645135)) : Int32).toUInt32 >>> (((8) : Int32).toUInt32 &&& Int32.toUInt32 31)).toInt32)) + ((((((((((p0 - (((((p0) : Int32).toUInt32 >>> (((1) : Int32).toUInt32 &&& Int32.toUInt32 31)).toInt32) &&& 1431655765)) &&& 858993459) + ((((((p0 - (((((p0) : Int32).toUInt32 >>> (((1) : Int32).toUInt32 &&& Int32.toUInt32 31)).toInt32) &&& 1431655765))) : Int32).toUInt32 >>> (((2) : Int32).toUInt32 &&& Int32.toUInt32 31)).toInt32) &&& 858993459)) + (((((((p0 - (((((p0) : Int32).toUInt32 >>> (((1) : Int32).toUInt32 &&& Int32.toUInt32 31)).toInt32) &&& 1431655765)) &&& 858993459) + ((((((p0 - (((((p0) : Int32).toUInt32 >>> (((1) : Int32).toUInt32 &&& Int32.toUInt32 31)).toInt32) &&& 1431655765))) : Int32).toUInt32 >>> (((2) : Int32).toUInt32 &&& Int32.toUInt32 31)).toInt32) &&& 858993459))) : Int32).toUInt32 >>> (((4) : Int32).toUInt32 &&& Int32.toUInt32 31)).toInt32)) &&& 252645135) + (((((((((p0 - (((((p0) : Int32).toUInt32 >>> (((1) : Int32).toUInt32 &&& Int32.toUInt32 31)).toInt32) &&& 1431655765)) &&& 858993459) + ((((((p0 - (((((p0) : Int32).toUInt32 >>> (((1) : Int32).toUInt32 &&& Int32.toUInt32 31)).toInt32) &&& 1431655765))) : Int32).toUInt32 >>> (((2) : Int32).toUInt32 &&& Int32.toUInt32 31)).toInt32) &&& 858993459)) + (((((((p0 - (((((p0) : Int32).toUInt32 >>> (((1) : Int32).toUInt32 &&& Int32.toUInt32 31)).toInt32) &&& 1431655765)) &&& 858993459) + ((((((p0 - (((((p0) : Int32).toUInt32 >>> (((1) : Int32).toUInt32 &&& Int32.toUInt32 31)).toInt32) &&& 1431655765))) : Int32).toUInt32 >>> (((2) : Int32).toUInt32 &&& Int32.toUInt32 31)).toInt32) &&& 858993459))) : Int32).toUInt32 >>> (((4) : Int32).toUInt32 &&& Int32.toUInt32 31)).toInt32)) &&& 252645135)) : Int32).toUInt32 >>> (((8) : Int32).toUInt32 &&& Int32.toUInt32 31)).toInt32))) : Int32).toUInt32 >>> (((16) : Int32).toUInt32 &&& Int32.toUInt32 31)).toInt32)) &&& 63
set_option maxHeartbeats 4000000 in
set_option maxRecDepth 100000 in
theorem c_J6_bitCount_0f7a4 (l : Launch) (g : kd_G) (sz : Nat) (p0 : Int32)  : kd_MI l yJ6_bitCount_0f7a4 wsJ6_bitCount_0f7a4 ({ frames := 0, cells := 0, slots := 0, locals := 0 }) [.int p0] g [] sz (fun r (_ : Unit) => r = sp_J6_bitCount_0f7a4 p0) (fun _ => []) 0 0 := by
  refine kd_met (l := l) (y := yJ6_bitCount_0f7a4) (ws := wsJ6_bitCount_0f7a4) (rm := { frames := 0, cells := 0, slots := 0, locals := 0 }) (av := [.int p0]) (g := g) (WS := []) (sz := sz) (mc := 0) (ms := 0) (cc := cJ6_bitCount_0f7a4) (maxL := 1) (ret := (some .int)) (own := RJ6) (fun A => va_Qi (fun r (_ : Unit) => r = sp_J6_bitCount_0f7a4 p0) (fun u t => kd_post g A [] t) A) (by decide) rfl rfl (Nat.le_of_ble_eq_true rfl) ?_
  intro p e s m below meth c A ls hx hb hr hml hts hown hlocks hnm hA hP hK hD hS hE hl
  have hl : lv_has ls 1 [(0, .int p0)] := hl
  refine lv_iload_n hx hb dJ6_bitCount_0f7a4_0 rfl (lv_at hl 0 rfl) ?_
  refine lv_iload_n hx hb dJ6_bitCount_0f7a4_1 rfl (lv_at hl 0 rfl) ?_
  refine lv_iconst (v := 1) hx hb dJ6_bitCount_0f7a4_2 (by decide) ?_
  refine lv_iushr hx hb dJ6_bitCount_0f7a4_3 rfl ?_
  refine lv_ldcw (v := 1431655765) hx hb hown (hts (.constant RJ6 265 1431655765) (by decide +kernel)) dJ6_bitCount_0f7a4_4 ?_
  refine lv_iand hx hb dJ6_bitCount_0f7a4_7 ?_
  refine lv_isub hx hb dJ6_bitCount_0f7a4_8 ?_
  refine lv_istore_n (lv' := [(0, .int (p0 - (((((p0) : Int32).toUInt32 >>> (((1) : Int32).toUInt32 &&& Int32.toUInt32 31)).toInt32) &&& 1431655765)))]) hx hb dJ6_bitCount_0f7a4_9 rfl hl (by decide) rfl (fun ls hl => ?_)
  refine lv_iload_n hx hb dJ6_bitCount_0f7a4_10 rfl (lv_at hl 0 rfl) ?_
  refine lv_ldcw (v := 858993459) hx hb hown (hts (.constant RJ6 266 858993459) (by decide +kernel)) dJ6_bitCount_0f7a4_11 ?_
  refine lv_iand hx hb dJ6_bitCount_0f7a4_14 ?_
  refine lv_iload_n hx hb dJ6_bitCount_0f7a4_15 rfl (lv_at hl 0 rfl) ?_
  refine lv_iconst (v := 2) hx hb dJ6_bitCount_0f7a4_16 (by decide) ?_
  refine lv_iushr hx hb dJ6_bitCount_0f7a4_17 rfl ?_
  refine lv_ldcw (v := 858993459) hx hb hown (hts (.constant RJ6 266 858993459) (by decide +kernel)) dJ6_bitCount_0f7a4_18 ?_
  refine lv_iand hx hb dJ6_bitCount_0f7a4_21 ?_
  refine lv_iadd hx hb dJ6_bitCount_0f7a4_22 ?_
  refine lv_istore_n (lv' := [(0, .int (((p0 - (((((p0) : Int32).toUInt32 >>> (((1) : Int32).toUInt32 &&& Int32.toUInt32 31)).toInt32) &&& 1431655765)) &&& 858993459) + ((((((p0 - (((((p0) : Int32).toUInt32 >>> (((1) : Int32).toUInt32 &&& Int32.toUInt32 31)).toInt32) &&& 1431655765))) : Int32).toUInt32 >>> (((2) : Int32).toUInt32 &&& Int32.toUInt32 31)).toInt32) &&& 858993459)))]) hx hb dJ6_bitCount_0f7a4_23 rfl hl (by decide) rfl (fun ls hl => ?_)
  refine lv_iload_n hx hb dJ6_bitCount_0f7a4_24 rfl (lv_at hl 0 rfl) ?_
  refine lv_iload_n hx hb dJ6_bitCount_0f7a4_25 rfl (lv_at hl 0 rfl) ?_
  refine lv_iconst (v := 4) hx hb dJ6_bitCount_0f7a4_26 (by decide) ?_
  refine lv_iushr hx hb dJ6_bitCount_0f7a4_27 rfl ?_
  refine lv_iadd hx hb dJ6_bitCount_0f7a4_28 ?_
  refine lv_ldcw (v := 252645135) hx hb hown (hts (.constant RJ6 267 252645135) (by decide +kernel)) dJ6_bitCount_0f7a4_29 ?_
  refine lv_iand hx hb dJ6_bitCount_0f7a4_32 ?_
  refine lv_istore_n (lv' := [(0, .int (((((p0 - (((((p0) : Int32).toUInt32 >>> (((1) : Int32).toUInt32 &&& Int32.toUInt32 31)).toInt32) &&& 1431655765)) &&& 858993459) + ((((((p0 - (((((p0) : Int32).toUInt32 >>> (((1) : Int32).toUInt32 &&& Int32.toUInt32 31)).toInt32) &&& 1431655765))) : Int32).toUInt32 >>> (((2) : Int32).toUInt32 &&& Int32.toUInt32 31)).toInt32) &&& 858993459)) + (((((((p0 - (((((p0) : Int32).toUInt32 >>> (((1) : Int32).toUInt32 &&& Int32.toUInt32 31)).toInt32) &&& 1431655765)) &&& 858993459) + ((((((p0 - (((((p0) : Int32).toUInt32 >>> (((1) : Int32).toUInt32 &&& Int32.toUInt32 31)).toInt32) &&& 1431655765))) : Int32).toUInt32 >>> (((2) : Int32).toUInt32 &&& Int32.toUInt32 31)).toInt32) &&& 858993459))) : Int32).toUInt32 >>> (((4) : Int32).toUInt32 &&& Int32.toUInt32 31)).toInt32)) &&& 252645135))]) hx hb dJ6_bitCount_0f7a4_33 rfl hl (by decide) rfl (fun ls hl => ?_)
  refine lv_iload_n hx hb dJ6_bitCount_0f7a4_34 rfl (lv_at hl 0 rfl) ?_
  refine lv_iload_n hx hb dJ6_bitCount_0f7a4_35 rfl (lv_at hl 0 rfl) ?_
  refine lv_bipush (v := 8) hx hb dJ6_bitCount_0f7a4_36 (by decide) ?_
  refine lv_iushr hx hb dJ6_bitCount_0f7a4_38 rfl ?_
  refine lv_iadd hx hb dJ6_bitCount_0f7a4_39 ?_
  refine lv_istore_n (lv' := [(0, .int ((((((p0 - (((((p0) : Int32).toUInt32 >>> (((1) : Int32).toUInt32 &&& Int32.toUInt32 31)).toInt32) &&& 1431655765)) &&& 858993459) + ((((((p0 - (((((p0) : Int32).toUInt32 >>> (((1) : Int32).toUInt32 &&& Int32.toUInt32 31)).toInt32) &&& 1431655765))) : Int32).toUInt32 >>> (((2) : Int32).toUInt32 &&& Int32.toUInt32 31)).toInt32) &&& 858993459)) + (((((((p0 - (((((p0) : Int32).toUInt32 >>> (((1) : Int32).toUInt32 &&& Int32.toUInt32 31)).toInt32) &&& 1431655765)) &&& 858993459) + ((((((p0 - (((((p0) : Int32).toUInt32 >>> (((1) : Int32).toUInt32 &&& Int32.toUInt32 31)).toInt32) &&& 1431655765))) : Int32).toUInt32 >>> (((2) : Int32).toUInt32 &&& Int32.toUInt32 31)).toInt32) &&& 858993459))) : Int32).toUInt32 >>> (((4) : Int32).toUInt32 &&& Int32.toUInt32 31)).toInt32)) &&& 252645135) + (((((((((p0 - (((((p0) : Int32).toUInt32 >>> (((1) : Int32).toUInt32 &&& Int32.toUInt32 31)).toInt32) &&& 1431655765)) &&& 858993459) + ((((((p0 - (((((p0) : Int32).toUInt32 >>> (((1) : Int32).toUInt32 &&& Int32.toUInt32 31)).toInt32) &&& 1431655765))) : Int32).toUInt32 >>> (((2) : Int32).toUInt32 &&& Int32.toUInt32 31)).toInt32) &&& 858993459)) + (((((((p0 - (((((p0) : Int32).toUInt32 >>> (((1) : Int32).toUInt32 &&& Int32.toUInt32 31)).toInt32) &&& 1431655765)) &&& 858993459) + ((((((p0 - (((((p0) : Int32).toUInt32 >>> (((1) : Int32).toUInt32 &&& Int32.toUInt32 31)).toInt32) &&& 1431655765))) : Int32).toUInt32 >>> (((2) : Int32).toUInt32 &&& Int32.toUInt32 31)).toInt32) &&& 858993459))) : Int32).toUInt32 >>> (((4) : Int32).toUInt32 &&& Int32.toUInt32 31)).toInt32)) &&& 252645135)) : Int32).toUInt32 >>> (((8) : Int32).toUInt32 &&& Int32.toUInt32 31)).toInt32)))]) hx hb dJ6_bitCount_0f7a4_40 rfl hl (by decide) rfl (fun ls hl => ?_)
  refine lv_iload_n hx hb dJ6_bitCount_0f7a4_41 rfl (lv_at hl 0 rfl) ?_
  refine lv_iload_n hx hb dJ6_bitCount_0f7a4_42 rfl (lv_at hl 0 rfl) ?_
  refine lv_bipush (v := 16) hx hb dJ6_bitCount_0f7a4_43 (by decide) ?_
  refine lv_iushr hx hb dJ6_bitCount_0f7a4_45 rfl ?_
  refine lv_iadd hx hb dJ6_bitCount_0f7a4_46 ?_
  refine lv_istore_n (lv' := [(0, .int (((((((p0 - (((((p0) : Int32).toUInt32 >>> (((1) : Int32).toUInt32 &&& Int32.toUInt32 31)).toInt32) &&& 1431655765)) &&& 858993459) + ((((((p0 - (((((p0) : Int32).toUInt32 >>> (((1) : Int32).toUInt32 &&& Int32.toUInt32 31)).toInt32) &&& 1431655765))) : Int32).toUInt32 >>> (((2) : Int32).toUInt32 &&& Int32.toUInt32 31)).toInt32) &&& 858993459)) + (((((((p0 - (((((p0) : Int32).toUInt32 >>> (((1) : Int32).toUInt32 &&& Int32.toUInt32 31)).toInt32) &&& 1431655765)) &&& 858993459) + ((((((p0 - (((((p0) : Int32).toUInt32 >>> (((1) : Int32).toUInt32 &&& Int32.toUInt32 31)).toInt32) &&& 1431655765))) : Int32).toUInt32 >>> (((2) : Int32).toUInt32 &&& Int32.toUInt32 31)).toInt32) &&& 858993459))) : Int32).toUInt32 >>> (((4) : Int32).toUInt32 &&& Int32.toUInt32 31)).toInt32)) &&& 252645135) + (((((((((p0 - (((((p0) : Int32).toUInt32 >>> (((1) : Int32).toUInt32 &&& Int32.toUInt32 31)).toInt32) &&& 1431655765)) &&& 858993459) + ((((((p0 - (((((p0) : Int32).toUInt32 >>> (((1) : Int32).toUInt32 &&& Int32.toUInt32 31)).toInt32) &&& 1431655765))) : Int32).toUInt32 >>> (((2) : Int32).toUInt32 &&& Int32.toUInt32 31)).toInt32) &&& 858993459)) + (((((((p0 - (((((p0) : Int32).toUInt32 >>> (((1) : Int32).toUInt32 &&& Int32.toUInt32 31)).toInt32) &&& 1431655765)) &&& 858993459) + ((((((p0 - (((((p0) : Int32).toUInt32 >>> (((1) : Int32).toUInt32 &&& Int32.toUInt32 31)).toInt32) &&& 1431655765))) : Int32).toUInt32 >>> (((2) : Int32).toUInt32 &&& Int32.toUInt32 31)).toInt32) &&& 858993459))) : Int32).toUInt32 >>> (((4) : Int32).toUInt32 &&& Int32.toUInt32 31)).toInt32)) &&& 252645135)) : Int32).toUInt32 >>> (((8) : Int32).toUInt32 &&& Int32.toUInt32 31)).toInt32)) + ((((((((((p0 - (((((p0) : Int32).toUInt32 >>> (((1) : Int32).toUInt32 &&& Int32.toUInt32 31)).toInt32) &&& 1431655765)) &&& 858993459) + ((((((p0 - (((((p0) : Int32).toUInt32 >>> (((1) : Int32).toUInt32 &&& Int32.toUInt32 31)).toInt32) &&& 1431655765))) : Int32).toUInt32 >>> (((2) : Int32).toUInt32 &&& Int32.toUInt32 31)).toInt32) &&& 858993459)) + (((((((p0 - (((((p0) : Int32).toUInt32 >>> (((1) : Int32).toUInt32 &&& Int32.toUInt32 31)).toInt32) &&& 1431655765)) &&& 858993459) + ((((((p0 - (((((p0) : Int32).toUInt32 >>> (((1) : Int32).toUInt32 &&& Int32.toUInt32 31)).toInt32) &&& 1431655765))) : Int32).toUInt32 >>> (((2) : Int32).toUInt32 &&& Int32.toUInt32 31)).toInt32) &&& 858993459))) : Int32).toUInt32 >>> (((4) : Int32).toUInt32 &&& Int32.toUInt32 31)).toInt32)) &&& 252645135) + (((((((((p0 - (((((p0) : Int32).toUInt32 >>> (((1) : Int32).toUInt32 &&& Int32.toUInt32 31)).toInt32) &&& 1431655765)) &&& 858993459) + ((((((p0 - (((((p0) : Int32).toUInt32 >>> (((1) : Int32).toUInt32 &&& Int32.toUInt32 31)).toInt32) &&& 1431655765))) : Int32).toUInt32 >>> (((2) : Int32).toUInt32 &&& Int32.toUInt32 31)).toInt32) &&& 858993459)) + (((((((p0 - (((((p0) : Int32).toUInt32 >>> (((1) : Int32).toUInt32 &&& Int32.toUInt32 31)).toInt32) &&& 1431655765)) &&& 858993459) + ((((((p0 - (((((p0) : Int32).toUInt32 >>> (((1) : Int32).toUInt32 &&& Int32.toUInt32 31)).toInt32) &&& 1431655765))) : Int32).toUInt32 >>> (((2) : Int32).toUInt32 &&& Int32.toUInt32 31)).toInt32) &&& 858993459))) : Int32).toUInt32 >>> (((4) : Int32).toUInt32 &&& Int32.toUInt32 31)).toInt32)) &&& 252645135)) : Int32).toUInt32 >>> (((8) : Int32).toUInt32 &&& Int32.toUInt32 31)).toInt32))) : Int32).toUInt32 >>> (((16) : Int32).toUInt32 &&& Int32.toUInt32 31)).toInt32)))]) hx hb dJ6_bitCount_0f7a4_47 rfl hl (by decide) rfl (fun ls hl => ?_)
  refine lv_iload_n hx hb dJ6_bitCount_0f7a4_48 rfl (lv_at hl 0 rfl) ?_
  refine lv_bipush (v := 63) hx hb dJ6_bitCount_0f7a4_49 (by decide) ?_
  refine lv_iand hx hb dJ6_bitCount_0f7a4_51 ?_
  exact kd_iret hx hb hr hlocks hK hS dJ6_bitCount_0f7a4_52 (()) (rfl) hP hD
theorem kd_hallq {pf : Nat → Int32} {pn : Nat} (h : ¬ sp_X6_isHall pf pn = 0) (hn : pn ≤ 22) : pn = 3 * (pn / 3) + 2 ∧ pn / 3 ≤ 6 := sorry
theorem kd_15 {x : Int32} (h1 : ¬ x < 1) (h5 : ¬ 5 < x) (e1 : ¬ x = 1) (e2 : ¬ x = 2) (e3 : ¬ x = 3) (e4 : ¬ x = 4) (e5 : ¬ x = 5) : False := by
  have a1 := kd_ne2 e1 (k := 1) (by decide)
  have a2 := kd_ne2 e2 (k := 2) (by decide)
  have a3 := kd_ne2 e3 (k := 3) (by decide)
  have a4 := kd_ne2 e4 (k := 4) (by decide)
  have a5 := kd_ne2 e5 (k := 5) (by decide)
  have b1 : ¬ x.toInt < (1 : Int32).toInt := fun q => h1 (Int32.lt_iff_toInt_lt.mpr q)
  have b5 : ¬ (5 : Int32).toInt < x.toInt := fun q => h5 (Int32.lt_iff_toInt_lt.mpr q)
  have c1 : (1 : Int32).toInt = 1 := by decide
  have c5 : (5 : Int32).toInt = 5 := by decide
  omega
/-- what KingdomAtDice.letter answers and leaves, by its instructions -/
def sp_X10_letter (pf : Nat → Int32) (pn : Nat) (p0 : Int32) : Int32 × (Nat → Int32) × Nat :=
  if p0 < 1 then
    ((-102), pf, pn)
  else
    if p0 ≤ 126 then
      if (sp_X6_isFull pn) = 0 then
        (((sp_X6_push pf pn p0).1), ((sp_X6_push pf pn p0).2.1), ((sp_X6_push pf pn p0).2.2))
      else
        ((-104), pf, pn)
    else
      ((-102), pf, pn)
set_option maxHeartbeats 4000000 in
set_option maxRecDepth 100000 in
theorem c_X10_letter (l : Launch) (g : kd_G) (sz : Nat) (x : Nat) (pg : Nat) (ka : Nat) (od : Nat) (dr : Nat) (so : Nat) (so2 : Nat) (dq : Nat → Nat) (k0 : Nat) (k1 : Nat) (ik : Int32) (nh : Nat) (pc : Nat) (pf : Nat → Int32) (pn : Nat) (p0 : Int32) (hpn : pn ≤ 22) : kd_MI l yX10_letter wsX10_letter ({ frames := 2, cells := 0, slots := 0, locals := 41 }) [.ref x, .int p0] g [(x, .inr (10, [.ref pg, .ref ka, .ref od, .ref dr, .ref so, .ref so2, .ref (dq k0), .ref (dq k1), .int ik, .int (nI nh)])), (pg, .inr (6, [.ref pc, .int (nI pn)])), (pc, .inl (g.2.1 0, 22, .inl pf))] sz (fun r (u : (Nat → Int32) × Nat) => (r, u) = sp_X10_letter pf pn p0) (fun u => [(x, .inr (10, [.ref pg, .ref ka, .ref od, .ref dr, .ref so, .ref so2, .ref (dq k0), .ref (dq k1), .int ik, .int (nI nh)])), (pg, .inr (6, [.ref pc, .int (nI u.2)])), (pc, .inl (g.2.1 0, 22, .inl u.1))]) 0 0 := by
  refine kd_met (l := l) (y := yX10_letter) (ws := wsX10_letter) (rm := { frames := 2, cells := 0, slots := 0, locals := 41 }) (av := [.ref x, .int p0]) (g := g) (WS := [(x, .inr (10, [.ref pg, .ref ka, .ref od, .ref dr, .ref so, .ref so2, .ref (dq k0), .ref (dq k1), .int ik, .int (nI nh)])), (pg, .inr (6, [.ref pc, .int (nI pn)])), (pc, .inl (g.2.1 0, 22, .inl pf))]) (sz := sz) (mc := 0) (ms := 0) (cc := cX10_letter) (maxL := 2) (ret := (some .int)) (own := RX10) (fun A => va_Qi (fun r (u : (Nat → Int32) × Nat) => (r, u) = sp_X10_letter pf pn p0) (fun u t => kd_post g A [(x, .inr (10, [.ref pg, .ref ka, .ref od, .ref dr, .ref so, .ref so2, .ref (dq k0), .ref (dq k1), .int ik, .int (nI nh)])), (pg, .inr (6, [.ref pc, .int (nI u.2)])), (pc, .inl (g.2.1 0, 22, .inl u.1))] t) A) (by decide) rfl rfl (Nat.le_of_ble_eq_true rfl) ?_
  intro p e s m below meth c A ls hx hb hr hml hts hown hlocks hnm hA hP hK hD hS hE hl
  have hl : lv_has ls 2 [(0, .ref x), (1, .int p0)] := hl
  have hiX10 : ∀ w ∈ u_ws RX10 TX10 10, w ∈ wsX10_letter := by decide +kernel
  refine lv_iload_n hx hb dX10_letter_0 rfl (lv_at hl 1 rfl) ?_
  refine lv_iconst (v := 1) hx hb dX10_letter_1 (by decide) ?_
  refine lv_icmp_lt (tgt := 11) hx hb dX10_letter_2 (by decide) (fun c_2 => ?_) (fun c_2 => ?_)
  · refine lv_bipush (v := (-102)) hx hb dX10_letter_11 (by decide) ?_
    exact kd_iret hx hb hr hlocks hK hS dX10_letter_13 ((pf, pn)) (by rw [sp_X10_letter, if_pos c_2]) hP hD
  · refine lv_iload_n hx hb dX10_letter_5 rfl (lv_at hl 1 rfl) ?_
    refine lv_bipush (v := 126) hx hb dX10_letter_6 (by decide) ?_
    refine lv_icmp_le (tgt := 14) hx hb dX10_letter_8 (by decide) (fun c_8 => ?_) (fun c_8 => ?_)
    · refine lv_aload_n hx hb dX10_letter_14 rfl (lv_at hl 0 rfl) ?_
      refine va_get (ci := 10) (v := .ref pg) (C := RX10) (T := TX10) (N := 10) hx hb hts hiX10 hown hK hP (0) rfl rfl 0 (by decide) (hts (.fieldLink RX10 10 "KingdomAtDice" "page" "LKingdomAtDice$Page;") (by decide +kernel)) (fun _ h9 => h9) rfl dX10_letter_15 ?_
      refine kd_callIK (g := g) (wc := [(pg, .inr (6, [.ref pc, .int (nI pn)])), (pc, .inl (g.2.1 0, 22, .inl pf))]) (va_runVN (mc := 0) (ms := 0) (rm := { frames := 0, cells := 0, slots := 0, locals := 0 }) (C := RX6) (host := "KingdomAtDice") (As := []) (rest := []) ⟨hx, hb, hml, hown, hts⟩ (c_X6_isFull l g s.heap.size pg pc pf pn hpn) ⟨va_cnB 0 hts gX10_letter_X6_isFull_n78 rfl rfl rfl (kd_N hE 5 rfl) (hts (.initialized RX6) (by decide +kernel)) (by decide +kernel) ⟨Nat.le_of_ble_eq_true rfl, Nat.le_of_ble_eq_true rfl⟩, (hts (.instanceMethod yX6_isFull) (by decide +kernel)), (hts (.selects RX6 yX6_isFull yX6_isFull) (by decide +kernel))⟩ (kd_preV (wc := [(pg, .inr (6, [.ref pc, .int (nI pn)])), (pc, .inl (g.2.1 0, 22, .inl pf))]) (va_recv hK hP (ci := 6) (q0 := 1) rfl rfl) hP hD hS hA hK hE [1, 2] rfl (by decide)) rfl rfl hl.1 rfl (lv_room (Nat.le_of_ble_eq_true rfl)) dX10_letter_18 ⟨Nat.le_of_ble_eq_true rfl, Nat.le_of_ble_eq_true rfl⟩) hP hD hS hA [1, 2] rfl (fun r_18 _ H locs hw hP hS => ?_)
      subst hw
      refine lv_if_eq (tgt := 29) hx hb dX10_letter_21 (by decide) (fun c_21 => ?_) (fun c_21 => ?_)
      · refine lv_aload_n hx hb dX10_letter_29 rfl (lv_at hl 0 rfl) ?_
        refine va_get (ci := 10) (v := .ref pg) (C := RX10) (T := TX10) (N := 10) hx hb hts hiX10 hown hK hP (0) rfl rfl 0 (by decide) (hts (.fieldLink RX10 10 "KingdomAtDice" "page" "LKingdomAtDice$Page;") (by decide +kernel)) (fun _ h9 => h9) rfl dX10_letter_30 ?_
        refine lv_iload_n hx hb dX10_letter_33 rfl (lv_at hl 1 rfl) ?_
        refine kd_callIM (Wf := fun (u : (Nat → Int32) × Nat) => [(pg, .inr (6, [.ref pc, .int (nI u.2)])), (pc, .inl (g.2.1 0, 22, .inl u.1))]) (g := g) (wc := [(pg, .inr (6, [.ref pc, .int (nI pn)])), (pc, .inl (g.2.1 0, 22, .inl pf))]) (va_runVN (mc := 0) (ms := 0) (rm := { frames := 1, cells := 0, slots := 0, locals := 20 }) (C := RX6) (host := "KingdomAtDice") (As := [.int p0]) (rest := []) ⟨hx, hb, hml, hown, hts⟩ (c_X6_push l g H.size pg pc pf pn p0 hpn) ⟨va_cnB 1 hts gX10_letter_X6_push_n82 rfl rfl rfl (kd_N hE 6 rfl) (hts (.initialized RX6) (by decide +kernel)) (by decide +kernel) ⟨Nat.le_of_ble_eq_true rfl, Nat.le_of_ble_eq_true rfl⟩, (hts (.instanceMethod yX6_push) (by decide +kernel)), (hts (.selects RX6 yX6_push yX6_push) (by decide +kernel))⟩ (kd_preV (wc := [(pg, .inr (6, [.ref pc, .int (nI pn)])), (pc, .inl (g.2.1 0, 22, .inl pf))]) (va_recv hK hP (ci := 6) (q0 := 1) rfl rfl) hP hD hS hA hK hE [1, 2] rfl (by decide)) rfl rfl hl.1 rfl (lv_room (Nat.le_of_ble_eq_true rfl)) dX10_letter_34 ⟨Nat.le_of_ble_eq_true rfl, Nat.le_of_ble_eq_true rfl⟩) hP hD hS hA [1, 2] rfl (by decide) (fun _ => rfl) (fun r_34 u_34 H locs hw_34 hP hD hS => ?_)
        obtain ⟨pf_34, pn_34⟩ := u_34
        have hP : va_P g.1 vwCl [(x, .inr (10, [.ref pg, .ref ka, .ref od, .ref dr, .ref so, .ref so2, .ref (dq k0), .ref (dq k1), .int ik, .int (nI nh)])), (pg, .inr (6, [.ref pc, .int (nI pn_34)])), (pc, .inl (g.2.1 0, 22, .inl pf_34))] H := hP
        have hD : va_D A [(x, .inr (10, [.ref pg, .ref ka, .ref od, .ref dr, .ref so, .ref so2, .ref (dq k0), .ref (dq k1), .int ik, .int (nI nh)])), (pg, .inr (6, [.ref pc, .int (nI pn_34)])), (pc, .inl (g.2.1 0, 22, .inl pf_34))] := hD
        obtain ⟨rfl, rfl, rfl⟩ := kd_eq3 hw_34
        exact kd_iret hx hb hr hlocks hK hS dX10_letter_37 ((((sp_X6_push pf pn p0).2.1), ((sp_X6_push pf pn p0).2.2))) (by rw [sp_X10_letter, if_neg c_2, if_pos c_8, if_pos c_21]) hP hD
      · refine lv_bipush (v := (-104)) hx hb dX10_letter_24 (by decide) ?_
        refine lv_goto (tgt := 37) hx hb dX10_letter_26 (by decide) ?_
        exact kd_iret hx hb hr hlocks hK hS dX10_letter_37 ((pf, pn)) (by rw [sp_X10_letter, if_neg c_2, if_pos c_8, if_neg c_21]) hP hD
    · refine lv_bipush (v := (-102)) hx hb dX10_letter_11 (by decide) ?_
      exact kd_iret hx hb hr hlocks hK hS dX10_letter_13 ((pf, pn)) (by rw [sp_X10_letter, if_neg c_2, if_neg c_8]) hP hD
/-- what KingdomAtDice.blank answers and leaves, by its instructions -/
def sp_X10_blank (pn : Nat) : Int32 × Nat :=
  (((sp_X6_clear pn).1), ((sp_X6_clear pn).2))
set_option maxHeartbeats 4000000 in
set_option maxRecDepth 100000 in
theorem c_X10_blank (l : Launch) (g : kd_G) (sz : Nat) (x : Nat) (pg : Nat) (ka : Nat) (od : Nat) (dr : Nat) (so : Nat) (so2 : Nat) (dq : Nat → Nat) (k0 : Nat) (k1 : Nat) (ik : Int32) (nh : Nat) (pc : Nat) (pf : Nat → Int32) (pn : Nat) (hpn : pn ≤ 22) : kd_MI l yX10_blank wsX10_blank ({ frames := 1, cells := 0, slots := 0, locals := 21 }) [.ref x] g [(x, .inr (10, [.ref pg, .ref ka, .ref od, .ref dr, .ref so, .ref so2, .ref (dq k0), .ref (dq k1), .int ik, .int (nI nh)])), (pg, .inr (6, [.ref pc, .int (nI pn)])), (pc, .inl (g.2.1 0, 22, .inl pf))] sz (fun r (u : Nat) => (r, u) = sp_X10_blank pn) (fun u => [(x, .inr (10, [.ref pg, .ref ka, .ref od, .ref dr, .ref so, .ref so2, .ref (dq k0), .ref (dq k1), .int ik, .int (nI nh)])), (pg, .inr (6, [.ref pc, .int (nI u)])), (pc, .inl (g.2.1 0, 22, .inl pf))]) 0 0 := by
  refine kd_met (l := l) (y := yX10_blank) (ws := wsX10_blank) (rm := { frames := 1, cells := 0, slots := 0, locals := 21 }) (av := [.ref x]) (g := g) (WS := [(x, .inr (10, [.ref pg, .ref ka, .ref od, .ref dr, .ref so, .ref so2, .ref (dq k0), .ref (dq k1), .int ik, .int (nI nh)])), (pg, .inr (6, [.ref pc, .int (nI pn)])), (pc, .inl (g.2.1 0, 22, .inl pf))]) (sz := sz) (mc := 0) (ms := 0) (cc := cX10_blank) (maxL := 1) (ret := (some .int)) (own := RX10) (fun A => va_Qi (fun r (u : Nat) => (r, u) = sp_X10_blank pn) (fun u t => kd_post g A [(x, .inr (10, [.ref pg, .ref ka, .ref od, .ref dr, .ref so, .ref so2, .ref (dq k0), .ref (dq k1), .int ik, .int (nI nh)])), (pg, .inr (6, [.ref pc, .int (nI u)])), (pc, .inl (g.2.1 0, 22, .inl pf))] t) A) (by decide) rfl rfl (Nat.le_of_ble_eq_true rfl) ?_
  intro p e s m below meth c A ls hx hb hr hml hts hown hlocks hnm hA hP hK hD hS hE hl
  have hl : lv_has ls 1 [(0, .ref x)] := hl
  have hiX10 : ∀ w ∈ u_ws RX10 TX10 10, w ∈ wsX10_blank := by decide +kernel
  refine lv_aload_n hx hb dX10_blank_0 rfl (lv_at hl 0 rfl) ?_
  refine va_get (ci := 10) (v := .ref pg) (C := RX10) (T := TX10) (N := 10) hx hb hts hiX10 hown hK hP (0) rfl rfl 0 (by decide) (hts (.fieldLink RX10 10 "KingdomAtDice" "page" "LKingdomAtDice$Page;") (by decide +kernel)) (fun _ h9 => h9) rfl dX10_blank_1 ?_
  refine kd_callIM (Wf := fun (u : Nat) => [(pg, .inr (6, [.ref pc, .int (nI u)])), (pc, .inl (g.2.1 0, 22, .inl pf))]) (g := g) (wc := [(pg, .inr (6, [.ref pc, .int (nI pn)])), (pc, .inl (g.2.1 0, 22, .inl pf))]) (va_runVN (mc := 0) (ms := 0) (rm := { frames := 0, cells := 0, slots := 0, locals := 0 }) (C := RX6) (host := "KingdomAtDice") (As := []) (rest := []) ⟨hx, hb, hml, hown, hts⟩ (c_X6_clear l g s.heap.size pg pc pf pn hpn) ⟨va_cnB 0 hts gX10_blank_X6_clear_n86 rfl rfl rfl (kd_N hE 7 rfl) (hts (.initialized RX6) (by decide +kernel)) (by decide +kernel) ⟨Nat.le_of_ble_eq_true rfl, Nat.le_of_ble_eq_true rfl⟩, (hts (.instanceMethod yX6_clear) (by decide +kernel)), (hts (.selects RX6 yX6_clear yX6_clear) (by decide +kernel))⟩ (kd_preV (wc := [(pg, .inr (6, [.ref pc, .int (nI pn)])), (pc, .inl (g.2.1 0, 22, .inl pf))]) (va_recv hK hP (ci := 6) (q0 := 1) rfl rfl) hP hD hS hA hK hE [1, 2] rfl (by decide)) rfl rfl hl.1 rfl (lv_room (Nat.le_of_ble_eq_true rfl)) dX10_blank_4 ⟨Nat.le_of_ble_eq_true rfl, Nat.le_of_ble_eq_true rfl⟩) hP hD hS hA [1, 2] rfl (by decide) (fun _ => rfl) (fun r_4 u_4 H locs hw_4 hP hD hS => ?_)
  obtain ⟨pn_4, rfl⟩ : ∃ z, z = u_4 := ⟨_, rfl⟩
  have hP : va_P g.1 vwCl [(x, .inr (10, [.ref pg, .ref ka, .ref od, .ref dr, .ref so, .ref so2, .ref (dq k0), .ref (dq k1), .int ik, .int (nI nh)])), (pg, .inr (6, [.ref pc, .int (nI pn_4)])), (pc, .inl (g.2.1 0, 22, .inl pf))] H := hP
  have hD : va_D A [(x, .inr (10, [.ref pg, .ref ka, .ref od, .ref dr, .ref so, .ref so2, .ref (dq k0), .ref (dq k1), .int ik, .int (nI nh)])), (pg, .inr (6, [.ref pc, .int (nI pn_4)])), (pc, .inl (g.2.1 0, 22, .inl pf))] := hD
  obtain ⟨rfl, rfl⟩ := kd_eq2 hw_4
  exact kd_iret hx hb hr hlocks hK hS dX10_blank_7 (((sp_X6_clear pn).2)) (rfl) hP hD
/-- what KingdomAtDice.fault answers and leaves, by its instructions -/
def sp_X10_fault (pf : Nat → Int32) (pn : Nat) : Int32 :=
  nI (kd_fp pf pn pn 0 0 (-1))
set_option maxHeartbeats 4000000 in
set_option maxRecDepth 100000 in
theorem c_X10_fault (l : Launch) (g : kd_G) (sz : Nat) (x : Nat) (pg : Nat) (ka : Nat) (od : Nat) (dr : Nat) (so : Nat) (so2 : Nat) (dq : Nat → Nat) (k0 : Nat) (k1 : Nat) (ik : Int32) (nh : Nat) (pc : Nat) (pf : Nat → Int32) (pn : Nat) (hpn : pn ≤ 22) : kd_MI l yX10_fault wsX10_fault ({ frames := 6, cells := 0, slots := 0, locals := 138 }) [.ref x] g [(x, .inr (10, [.ref pg, .ref ka, .ref od, .ref dr, .ref so, .ref so2, .ref (dq k0), .ref (dq k1), .int ik, .int (nI nh)])), (pg, .inr (6, [.ref pc, .int (nI pn)])), (pc, .inl (g.2.1 0, 22, .inl pf))] sz (fun r (_ : Unit) => r = sp_X10_fault pf pn) (fun _ => [(x, .inr (10, [.ref pg, .ref ka, .ref od, .ref dr, .ref so, .ref so2, .ref (dq k0), .ref (dq k1), .int ik, .int (nI nh)])), (pg, .inr (6, [.ref pc, .int (nI pn)])), (pc, .inl (g.2.1 0, 22, .inl pf))]) 0 0 := by
  refine kd_met (l := l) (y := yX10_fault) (ws := wsX10_fault) (rm := { frames := 6, cells := 0, slots := 0, locals := 138 }) (av := [.ref x]) (g := g) (WS := [(x, .inr (10, [.ref pg, .ref ka, .ref od, .ref dr, .ref so, .ref so2, .ref (dq k0), .ref (dq k1), .int ik, .int (nI nh)])), (pg, .inr (6, [.ref pc, .int (nI pn)])), (pc, .inl (g.2.1 0, 22, .inl pf))]) (sz := sz) (mc := 0) (ms := 0) (cc := cX10_fault) (maxL := 1) (ret := (some .int)) (own := RX10) (fun A => va_Qi (fun r (_ : Unit) => r = sp_X10_fault pf pn) (fun u t => kd_post g A [(x, .inr (10, [.ref pg, .ref ka, .ref od, .ref dr, .ref so, .ref so2, .ref (dq k0), .ref (dq k1), .int ik, .int (nI nh)])), (pg, .inr (6, [.ref pc, .int (nI pn)])), (pc, .inl (g.2.1 0, 22, .inl pf))] t) A) (by decide) rfl rfl (Nat.le_of_ble_eq_true rfl) ?_
  intro p e s m below meth c A ls hx hb hr hml hts hown hlocks hnm hA hP hK hD hS hE hl
  have hl : lv_has ls 1 [(0, .ref x)] := hl
  have hiX10 : ∀ w ∈ u_ws RX10 TX10 10, w ∈ wsX10_fault := by decide +kernel
  refine lv_aload_n hx hb dX10_fault_0 rfl (lv_at hl 0 rfl) ?_
  refine va_get (ci := 10) (v := .ref pg) (C := RX10) (T := TX10) (N := 10) hx hb hts hiX10 hown hK hP (0) rfl rfl 0 (by decide) (hts (.fieldLink RX10 10 "KingdomAtDice" "page" "LKingdomAtDice$Page;") (by decide +kernel)) (fun _ h9 => h9) rfl dX10_fault_1 ?_
  refine kd_callIK (g := g) (wc := [(pg, .inr (6, [.ref pc, .int (nI pn)])), (pc, .inl (g.2.1 0, 22, .inl pf))]) (va_runVN (mc := 0) (ms := 0) (rm := { frames := 5, cells := 0, slots := 0, locals := 114 }) (C := RX6) (host := "KingdomAtDice") (As := []) (rest := []) ⟨hx, hb, hml, hown, hts⟩ (c_X6_faultPlace l g s.heap.size pg pc pf pn hpn) ⟨va_cnB 0 hts gX10_fault_X6_faultPlace_n90 rfl rfl rfl (kd_N hE 8 rfl) (hts (.initialized RX6) (by decide +kernel)) (by decide +kernel) ⟨Nat.le_of_ble_eq_true rfl, Nat.le_of_ble_eq_true rfl⟩, (hts (.instanceMethod yX6_faultPlace) (by decide +kernel)), (hts (.selects RX6 yX6_faultPlace yX6_faultPlace) (by decide +kernel))⟩ (kd_preV (wc := [(pg, .inr (6, [.ref pc, .int (nI pn)])), (pc, .inl (g.2.1 0, 22, .inl pf))]) (va_recv hK hP (ci := 6) (q0 := 1) rfl rfl) hP hD hS hA hK hE [1, 2] rfl (by decide)) rfl rfl hl.1 rfl (lv_room (Nat.le_of_ble_eq_true rfl)) dX10_fault_4 ⟨Nat.le_of_ble_eq_true rfl, Nat.le_of_ble_eq_true rfl⟩) hP hD hS hA [1, 2] rfl (fun r_4 _ H locs hw hP hS => ?_)
  obtain rfl : r_4 = nI (kd_fp pf pn pn 0 0 (-1)) := hw
  exact kd_iret hx hb hr hlocks hK hS dX10_fault_7 (()) (rfl) hP hD
/-- what KingdomAtDice.thing answers and leaves, by its instructions -/
def sp_X10_thing (T : Nat) (R : Nat → Nat → Int32) (p0 : Int32) (p1 : Int32) : Int32 :=
  if (sp_X7_has T p0) = 0 then
    (-101)
  else
    if (sp_X10_isBelow p1 6) = 0 then
      (-102)
    else
      sp_X8_tell R p0.toNatClampNeg p1
set_option maxHeartbeats 4000000 in
set_option maxRecDepth 100000 in
theorem c_X10_thing (l : Launch) (g : kd_G) (sz : Nat) (x : Nat) (pg : Nat) (ka : Nat) (od : Nat) (dr : Nat) (so : Nat) (so2 : Nat) (dq : Nat → Nat) (k0 : Nat) (k1 : Nat) (ik : Int32) (nh : Nat) (sa : Nat) (sn : Nat) (T : Nat) (go : Int32) (th : Nat) (sm : Nat) (tq : Nat → Nat) (R : Nat → Nat → Int32) (p0 : Int32) (p1 : Int32) (hT : T ≤ 6) : kd_MI l yX10_thing wsX10_thing ({ frames := 2, cells := 0, slots := 0, locals := 42 }) [.ref x, .int p0, .int p1] g ([(x, .inr (10, [.ref pg, .ref ka, .ref od, .ref dr, .ref so, .ref so2, .ref (dq k0), .ref (dq k1), .int ik, .int (nI nh)])), (so, .inr (7, [.ref sa, .ref sn, .int (nI T), .int go, .int (nI th), .int (nI sm)])), (sa, .inl (g.2.1 3, 6, .inr (.inr (.inr (.inr (fun j => some (tq j)))))))] ++ (kd_th tq R)) sz (fun r (_ : Unit) => r = sp_X10_thing T R p0 p1) (fun _ => ([(x, .inr (10, [.ref pg, .ref ka, .ref od, .ref dr, .ref so, .ref so2, .ref (dq k0), .ref (dq k1), .int ik, .int (nI nh)])), (so, .inr (7, [.ref sa, .ref sn, .int (nI T), .int go, .int (nI th), .int (nI sm)])), (sa, .inl (g.2.1 3, 6, .inr (.inr (.inr (.inr (fun j => some (tq j)))))))] ++ (kd_th tq R))) 0 0 := by
  refine kd_met (l := l) (y := yX10_thing) (ws := wsX10_thing) (rm := { frames := 2, cells := 0, slots := 0, locals := 42 }) (av := [.ref x, .int p0, .int p1]) (g := g) (WS := ([(x, .inr (10, [.ref pg, .ref ka, .ref od, .ref dr, .ref so, .ref so2, .ref (dq k0), .ref (dq k1), .int ik, .int (nI nh)])), (so, .inr (7, [.ref sa, .ref sn, .int (nI T), .int go, .int (nI th), .int (nI sm)])), (sa, .inl (g.2.1 3, 6, .inr (.inr (.inr (.inr (fun j => some (tq j)))))))] ++ (kd_th tq R))) (sz := sz) (mc := 0) (ms := 0) (cc := cX10_thing) (maxL := 3) (ret := (some .int)) (own := RX10) (fun A => va_Qi (fun r (_ : Unit) => r = sp_X10_thing T R p0 p1) (fun u t => kd_post g A ([(x, .inr (10, [.ref pg, .ref ka, .ref od, .ref dr, .ref so, .ref so2, .ref (dq k0), .ref (dq k1), .int ik, .int (nI nh)])), (so, .inr (7, [.ref sa, .ref sn, .int (nI T), .int go, .int (nI th), .int (nI sm)])), (sa, .inl (g.2.1 3, 6, .inr (.inr (.inr (.inr (fun j => some (tq j)))))))] ++ (kd_th tq R)) t) A) (by decide) rfl rfl (Nat.le_of_ble_eq_true rfl) ?_
  intro p e s m below meth c A ls hx hb hr hml hts hown hlocks hnm hA hP hK hD hS hE hl
  have hl : lv_has ls 3 [(0, .ref x), (1, .int p0), (2, .int p1)] := hl
  have hiX7 : ∀ w ∈ u_ws RX7 TX7 6, w ∈ wsX10_thing := by decide +kernel
  have hiX10 : ∀ w ∈ u_ws RX10 TX10 10, w ∈ wsX10_thing := by decide +kernel
  refine lv_aload_n hx hb dX10_thing_0 rfl (lv_at hl 0 rfl) ?_
  refine va_get (ci := 10) (v := .ref so) (C := RX10) (T := TX10) (N := 10) hx hb hts hiX10 hown hK hP (0) rfl rfl 4 (by decide) (hts (.fieldLink RX10 56 "KingdomAtDice" "now" "LKingdomAtDice$Standing;") (by decide +kernel)) (fun _ h9 => h9) rfl dX10_thing_1 ?_
  refine lv_iload_n hx hb dX10_thing_4 rfl (lv_at hl 1 rfl) ?_
  refine kd_callIK (g := g) (wc := [(so, .inr (7, [.ref sa, .ref sn, .int (nI T), .int go, .int (nI th), .int (nI sm)]))]) (va_runVN (mc := 0) (ms := 0) (rm := { frames := 1, cells := 0, slots := 0, locals := 21 }) (C := RX7) (host := "KingdomAtDice") (As := [.int p0]) (rest := []) ⟨hx, hb, hml, hown, hts⟩ (c_X7_has l g s.heap.size so sa sn T go th sm p0 hT) ⟨va_cnB 1 hts gX10_thing_X7_has_n117 rfl rfl rfl (kd_N hE 21 rfl) (hts (.initialized RX7) (by decide +kernel)) (by decide +kernel) ⟨Nat.le_of_ble_eq_true rfl, Nat.le_of_ble_eq_true rfl⟩, (hts (.instanceMethod yX7_has) (by decide +kernel)), (hts (.selects RX7 yX7_has yX7_has) (by decide +kernel))⟩ (kd_preV (wc := [(so, .inr (7, [.ref sa, .ref sn, .int (nI T), .int go, .int (nI th), .int (nI sm)]))]) (va_recv hK hP (ci := 7) (q0 := 1) rfl rfl) hP hD hS hA hK hE [1] rfl (by decide)) rfl rfl hl.1 rfl (lv_room (Nat.le_of_ble_eq_true rfl)) dX10_thing_5 ⟨Nat.le_of_ble_eq_true rfl, Nat.le_of_ble_eq_true rfl⟩) hP hD hS hA [1] rfl (fun r_5 _ H locs hw hP hS => ?_)
  subst hw
  refine lv_if_ne (tgt := 14) hx hb dX10_thing_8 (by decide) (fun c_8 => ?_) (fun c_8 => ?_)
  · refine lv_iload_n hx hb dX10_thing_14 rfl (lv_at hl 2 rfl) ?_
    refine lv_bipush (v := 6) hx hb dX10_thing_15 (by decide) ?_
    refine kd_callIK (g := g) (wc := []) (va_runS (mc := 0) (ms := 0) (rm := { frames := 0, cells := 0, slots := 0, locals := 0 }) (As := [.int p1, .int 6]) (rest := []) ⟨hx, hb, hml, hown, hts⟩ (c_X10_isBelow l g H.size p1 6 ) (va_cwS 2 hts gX10_thing_X10_isBelow rfl rfl rfl (by decide +kernel) ⟨Nat.le_of_ble_eq_true rfl, Nat.le_of_ble_eq_true rfl⟩) (kd_preS (wc := []) (av := [.int p1, .int 6]) hP hD hS hA hK hE [] rfl (by decide)) rfl rfl hl.1 rfl (lv_room (Nat.le_of_ble_eq_true rfl)) dX10_thing_17 ⟨Nat.le_of_ble_eq_true rfl, Nat.le_of_ble_eq_true rfl⟩) hP hD hS hA [] rfl (fun r_17 _ H locs hw hP hS => ?_)
    subst hw
    refine lv_if_eq (tgt := 39) hx hb dX10_thing_20 (by decide) (fun c_20 => ?_) (fun c_20 => ?_)
    · refine lv_bipush (v := (-102)) hx hb dX10_thing_39 (by decide) ?_
      exact kd_iret hx hb hr hlocks hK hS dX10_thing_41 (()) (by rw [sp_X10_thing, if_neg c_8, if_pos c_20]) hP hD
    · refine lv_aload_n hx hb dX10_thing_23 rfl (lv_at hl 0 rfl) ?_
      refine va_get (ci := 10) (v := .ref so) (C := RX10) (T := TX10) (N := 10) hx hb hts hiX10 hown hK hP (0) rfl rfl 4 (by decide) (hts (.fieldLink RX10 56 "KingdomAtDice" "now" "LKingdomAtDice$Standing;") (by decide +kernel)) (fun _ h9 => h9) rfl dX10_thing_24 ?_
      refine va_getN (ci := 7) (v := .ref sa) (C := RX7) (T := TX7) (N := 6) hx hb hts hiX7 hown hK hP (1) rfl rfl 0 (by decide) (kd_Nb hE 53 rfl) (fun _ h9 => h9) rfl dX10_thing_27 ?_
      refine lv_iload_n hx hb dX10_thing_30 rfl (lv_at hl 1 rfl) ?_
      refine kd_aldq hx hb hK hP 2 3 rfl rfl (kd_has c_8 hT) dX10_thing_31 ?_
      refine lv_iload_n hx hb dX10_thing_32 rfl (lv_at hl 2 rfl) ?_
      refine kd_callIK (g := g) (wc := (kd_th tq R)) (va_runVN (mc := 0) (ms := 0) (rm := { frames := 0, cells := 0, slots := 0, locals := 0 }) (C := RX8) (host := "KingdomAtDice") (As := [.int p1]) (rest := []) ⟨hx, hb, hml, hown, hts⟩ (c_X8_tell l g H.size tq R p0.toNatClampNeg p1 (kd_inlt (kd_has c_8 hT))) ⟨va_cnB 1 hts gX10_thing_X8_tell_n129 rfl rfl rfl (kd_N hE 23 rfl) (hts (.initialized RX8) (by decide +kernel)) (by decide +kernel) ⟨Nat.le_of_ble_eq_true rfl, Nat.le_of_ble_eq_true rfl⟩, (hts (.instanceMethod yX8_tell) (by decide +kernel)), (hts (.selects RX8 yX8_tell yX8_tell) (by decide +kernel))⟩ (kd_preV (wc := (kd_th tq R)) (va_recv hK hP (ci := 8) (q0 := p0.toNatClampNeg + 3) rfl (kd_th_at0 (kd_inlt (kd_has c_8 hT)))) hP hD hS hA hK hE [3, 4, 5, 6, 7, 8] rfl (by decide)) rfl rfl hl.1 rfl (lv_room (Nat.le_of_ble_eq_true rfl)) dX10_thing_33 ⟨Nat.le_of_ble_eq_true rfl, Nat.le_of_ble_eq_true rfl⟩) hP hD hS hA [3, 4, 5, 6, 7, 8] rfl (fun r_33 _ H locs hw hP hS => ?_)
      subst hw
      refine lv_goto (tgt := 41) hx hb dX10_thing_36 (by decide) ?_
      exact kd_iret hx hb hr hlocks hK hS dX10_thing_41 (()) (by rw [sp_X10_thing, if_neg c_8, if_neg c_20]) hP hD
  · refine lv_bipush (v := (-101)) hx hb dX10_thing_11 (by decide) ?_
    exact kd_iret hx hb hr hlocks hK hS dX10_thing_13 (()) (by rw [sp_X10_thing, if_pos c_8]) hP hD
/-- what KingdomAtDice.dice answers and leaves, by its instructions -/
def sp_X10_dice (k0 : Nat) (k1 : Nat) (T : Nat) (p0 : Int32) (p1 : Int32) : Int32 :=
  if (sp_X10_hasDice T p0) = 0 then
    (-101)
  else
    if (sp_X10_isBelow p1 4) = 0 then
      (-102)
    else
      kd_tell (if p0 = 0 then k0 else k1) p1
set_option maxHeartbeats 4000000 in
set_option maxRecDepth 100000 in
theorem c_X10_dice (l : Launch) (g : kd_G) (sz : Nat) (x : Nat) (pg : Nat) (ka : Nat) (od : Nat) (dr : Nat) (so : Nat) (so2 : Nat) (dq : Nat → Nat) (k0 : Nat) (k1 : Nat) (ik : Int32) (nh : Nat) (sa : Nat) (sn : Nat) (T : Nat) (go : Int32) (th : Nat) (sm : Nat) (p0 : Int32) (p1 : Int32) (hT : T ≤ 6) (hk0 : k0 < 5) (hk1 : k1 < 5) : kd_MI l yX10_dice wsX10_dice ({ frames := 3, cells := 0, slots := 0, locals := 61 }) [.ref x, .int p0, .int p1] g ([(x, .inr (10, [.ref pg, .ref ka, .ref od, .ref dr, .ref so, .ref so2, .ref (dq k0), .ref (dq k1), .int ik, .int (nI nh)]))] ++ (kd_dc dq ++ [(so, .inr (7, [.ref sa, .ref sn, .int (nI T), .int go, .int (nI th), .int (nI sm)]))])) sz (fun r (_ : Unit) => r = sp_X10_dice k0 k1 T p0 p1) (fun _ => ([(x, .inr (10, [.ref pg, .ref ka, .ref od, .ref dr, .ref so, .ref so2, .ref (dq k0), .ref (dq k1), .int ik, .int (nI nh)]))] ++ (kd_dc dq ++ [(so, .inr (7, [.ref sa, .ref sn, .int (nI T), .int go, .int (nI th), .int (nI sm)]))]))) 0 0 := by
  refine kd_met (l := l) (y := yX10_dice) (ws := wsX10_dice) (rm := { frames := 3, cells := 0, slots := 0, locals := 61 }) (av := [.ref x, .int p0, .int p1]) (g := g) (WS := ([(x, .inr (10, [.ref pg, .ref ka, .ref od, .ref dr, .ref so, .ref so2, .ref (dq k0), .ref (dq k1), .int ik, .int (nI nh)]))] ++ (kd_dc dq ++ [(so, .inr (7, [.ref sa, .ref sn, .int (nI T), .int go, .int (nI th), .int (nI sm)]))]))) (sz := sz) (mc := 0) (ms := 0) (cc := cX10_dice) (maxL := 3) (ret := (some .int)) (own := RX10) (fun A => va_Qi (fun r (_ : Unit) => r = sp_X10_dice k0 k1 T p0 p1) (fun u t => kd_post g A ([(x, .inr (10, [.ref pg, .ref ka, .ref od, .ref dr, .ref so, .ref so2, .ref (dq k0), .ref (dq k1), .int ik, .int (nI nh)]))] ++ (kd_dc dq ++ [(so, .inr (7, [.ref sa, .ref sn, .int (nI T), .int go, .int (nI th), .int (nI sm)]))])) t) A) (by decide) rfl rfl (Nat.le_of_ble_eq_true rfl) ?_
  intro p e s m below meth c A ls hx hb hr hml hts hown hlocks hnm hA hP hK hD hS hE hl
  have hl : lv_has ls 3 [(0, .ref x), (1, .int p0), (2, .int p1)] := hl
  refine lv_aload_n hx hb dX10_dice_0 rfl (lv_at hl 0 rfl) ?_
  refine lv_iload_n hx hb dX10_dice_1 rfl (lv_at hl 1 rfl) ?_
  refine kd_callIK (g := g) (wc := [(x, .inr (10, [.ref pg, .ref ka, .ref od, .ref dr, .ref so, .ref so2, .ref (dq k0), .ref (dq k1), .int ik, .int (nI nh)])), (so, .inr (7, [.ref sa, .ref sn, .int (nI T), .int go, .int (nI th), .int (nI sm)]))]) (va_runV (mc := 0) (ms := 0) (rm := { frames := 1, cells := 0, slots := 0, locals := 20 }) (As := [.int p0]) (rest := []) ⟨hx, hb, hml, hown, hts⟩ (c_X10_hasDice l g s.heap.size x pg ka od dr so so2 dq k0 k1 ik nh sa sn T go th sm p0 hT) (cwV 1 hts gX10_dice_X10_hasDice rfl rfl rfl (by decide +kernel) ⟨Nat.le_of_ble_eq_true rfl, Nat.le_of_ble_eq_true rfl⟩) (kd_preV (wc := [(x, .inr (10, [.ref pg, .ref ka, .ref od, .ref dr, .ref so, .ref so2, .ref (dq k0), .ref (dq k1), .int ik, .int (nI nh)])), (so, .inr (7, [.ref sa, .ref sn, .int (nI T), .int go, .int (nI th), .int (nI sm)]))]) (va_recv hK hP (ci := 10) (q0 := 0) rfl rfl) hP hD hS hA hK hE [0, 6] rfl (by decide)) rfl rfl hl.1 rfl (lv_room (Nat.le_of_ble_eq_true rfl)) dX10_dice_2 ⟨Nat.le_of_ble_eq_true rfl, Nat.le_of_ble_eq_true rfl⟩) hP hD hS hA [0, 6] rfl (fun r_2 _ H locs hw hP hS => ?_)
  subst hw
  refine lv_if_ne (tgt := 11) hx hb dX10_dice_5 (by decide) (fun c_5 => ?_) (fun c_5 => ?_)
  · refine lv_iload_n hx hb dX10_dice_11 rfl (lv_at hl 2 rfl) ?_
    refine lv_iconst (v := 4) hx hb dX10_dice_12 (by decide) ?_
    refine kd_callIK (g := g) (wc := []) (va_runS (mc := 0) (ms := 0) (rm := { frames := 0, cells := 0, slots := 0, locals := 0 }) (As := [.int p1, .int 4]) (rest := []) ⟨hx, hb, hml, hown, hts⟩ (c_X10_isBelow l g H.size p1 4 ) (va_cwS 2 hts gX10_dice_X10_isBelow rfl rfl rfl (by decide +kernel) ⟨Nat.le_of_ble_eq_true rfl, Nat.le_of_ble_eq_true rfl⟩) (kd_preS (wc := []) (av := [.int p1, .int 4]) hP hD hS hA hK hE [] rfl (by decide)) rfl rfl hl.1 rfl (lv_room (Nat.le_of_ble_eq_true rfl)) dX10_dice_13 ⟨Nat.le_of_ble_eq_true rfl, Nat.le_of_ble_eq_true rfl⟩) hP hD hS hA [] rfl (fun r_13 _ H locs hw hP hS => ?_)
    subst hw
    refine lv_if_eq (tgt := 31) hx hb dX10_dice_16 (by decide) (fun c_16 => ?_) (fun c_16 => ?_)
    · refine lv_bipush (v := (-102)) hx hb dX10_dice_31 (by decide) ?_
      exact kd_iret hx hb hr hlocks hK hS dX10_dice_33 (()) (by rw [sp_X10_dice, if_neg c_5, if_pos c_16]) hP hD
    · refine lv_aload_n hx hb dX10_dice_19 rfl (lv_at hl 0 rfl) ?_
      refine lv_iload_n hx hb dX10_dice_20 rfl (lv_at hl 1 rfl) ?_
      refine kd_callRK (g := g) (wc := [(x, .inr (10, [.ref pg, .ref ka, .ref od, .ref dr, .ref so, .ref so2, .ref (dq k0), .ref (dq k1), .int ik, .int (nI nh)]))]) (va_runV (mc := 0) (ms := 0) (rm := { frames := 0, cells := 0, slots := 0, locals := 0 }) (As := [.int p0]) (rest := []) ⟨hx, hb, hml, hown, hts⟩ (c_X10_diceOf l g H.size x pg ka od dr so so2 dq k0 k1 ik nh p0 ) (cwV 1 hts gX10_dice_X10_diceOf rfl rfl rfl (by decide +kernel) ⟨Nat.le_of_ble_eq_true rfl, Nat.le_of_ble_eq_true rfl⟩) (kd_preV (wc := [(x, .inr (10, [.ref pg, .ref ka, .ref od, .ref dr, .ref so, .ref so2, .ref (dq k0), .ref (dq k1), .int ik, .int (nI nh)]))]) (va_recv hK hP (ci := 10) (q0 := 0) rfl rfl) hP hD hS hA hK hE [0] rfl (by decide)) rfl rfl hl.1 rfl (lv_room (Nat.le_of_ble_eq_true rfl)) dX10_dice_21 ⟨Nat.le_of_ble_eq_true rfl, Nat.le_of_ble_eq_true rfl⟩) hP hD hS hA [0] rfl (fun _ H locs hw hP hS => ?_)
      refine lv_iload_n hx hb dX10_dice_24 rfl (lv_at hl 2 rfl) ?_
      have run_25 : ∀ k_25 : Nat, k_25 < 5 → va_Run p l e ({ frames := 3, cells := 0, slots := 0, locals := 61 } : Room) s m ([.ref x, .int p0, .int p1] : List Value).toArray below meth c H locs 0 0 0 0 (F0 m 25 ls [.int p1, .ref (dq k_25)]) [] (va_Qi (fun r (_ : Unit) => r = kd_tell k_25 p1) (fun _ t => kd_post g (va_A (kd_dc dq) H.size) (kd_dc dq) t) (va_A (kd_dc dq) H.size) (.ref (dq k_25) :: [.int p1]).toArray) (va_A (kd_dc dq) H.size) := by
        intro k_25 hk
        rcases (show k_25 = 0 ∨ k_25 = 1 ∨ k_25 = 2 ∨ k_25 = 3 ∨ k_25 = 4 by omega) with rfl | rfl | rfl | rfl | rfl
        · exact va_runV (mc := 0) (ms := 0) (rm := { frames := 2, cells := 0, slots := 0, locals := 40 }) (As := [.int p1]) (rest := []) ⟨hx, hb, hml, hown, hts⟩ (c_tell_0 l g H.size dq p1 ) (cwV 1 hts gX10_dice_X1_tell rfl rfl rfl (by decide +kernel) ⟨Nat.le_of_ble_eq_true rfl, Nat.le_of_ble_eq_true rfl⟩) (kd_preV (wc := (kd_dc dq)) (va_recv hK hP (ci := 1) (q0 := 1) rfl rfl) hP hD hS hA hK hE [1, 2, 3, 4, 5] rfl (by decide)) rfl rfl hl.1 rfl (lv_room (Nat.le_of_ble_eq_true rfl)) dX10_dice_25 ⟨Nat.le_of_ble_eq_true rfl, Nat.le_of_ble_eq_true rfl⟩
        · exact va_runU (mc := 0) (ms := 0) (rm := { frames := 2, cells := 0, slots := 0, locals := 40 }) (C := RX3) (As := [.int p1]) (rest := []) ⟨hx, hb, hml, hown, hts⟩ (c_tell_1 l g H.size dq p1 ) (va_cwU 1 hts gX10_dice_X1_tell_u140X3 rfl rfl rfl rfl (by decide +kernel) ⟨Nat.le_of_ble_eq_true rfl, Nat.le_of_ble_eq_true rfl⟩) (kd_preV (wc := (kd_dc dq)) (va_recv hK hP (ci := 3) (q0 := 2) rfl rfl) hP hD hS hA hK hE [1, 2, 3, 4, 5] rfl (by decide)) rfl rfl hl.1 rfl (lv_room (Nat.le_of_ble_eq_true rfl)) dX10_dice_25 ⟨Nat.le_of_ble_eq_true rfl, Nat.le_of_ble_eq_true rfl⟩
        · exact va_runU (mc := 0) (ms := 0) (rm := { frames := 2, cells := 0, slots := 0, locals := 40 }) (C := RX9) (As := [.int p1]) (rest := []) ⟨hx, hb, hml, hown, hts⟩ (c_tell_2 l g H.size dq p1 ) (va_cwU 1 hts gX10_dice_X1_tell_u140X9 rfl rfl rfl rfl (by decide +kernel) ⟨Nat.le_of_ble_eq_true rfl, Nat.le_of_ble_eq_true rfl⟩) (kd_preV (wc := (kd_dc dq)) (va_recv hK hP (ci := 9) (q0 := 3) rfl rfl) hP hD hS hA hK hE [1, 2, 3, 4, 5] rfl (by decide)) rfl rfl hl.1 rfl (lv_room (Nat.le_of_ble_eq_true rfl)) dX10_dice_25 ⟨Nat.le_of_ble_eq_true rfl, Nat.le_of_ble_eq_true rfl⟩
        · exact va_runU (mc := 0) (ms := 0) (rm := { frames := 2, cells := 0, slots := 0, locals := 40 }) (C := RX4) (As := [.int p1]) (rest := []) ⟨hx, hb, hml, hown, hts⟩ (c_tell_3 l g H.size dq p1 ) (va_cwU 1 hts gX10_dice_X1_tell_u140X4 rfl rfl rfl rfl (by decide +kernel) ⟨Nat.le_of_ble_eq_true rfl, Nat.le_of_ble_eq_true rfl⟩) (kd_preV (wc := (kd_dc dq)) (va_recv hK hP (ci := 4) (q0 := 4) rfl rfl) hP hD hS hA hK hE [1, 2, 3, 4, 5] rfl (by decide)) rfl rfl hl.1 rfl (lv_room (Nat.le_of_ble_eq_true rfl)) dX10_dice_25 ⟨Nat.le_of_ble_eq_true rfl, Nat.le_of_ble_eq_true rfl⟩
        · exact va_runU (mc := 0) (ms := 0) (rm := { frames := 2, cells := 0, slots := 0, locals := 40 }) (C := RX0) (As := [.int p1]) (rest := []) ⟨hx, hb, hml, hown, hts⟩ (c_tell_4 l g H.size dq p1 ) (va_cwU 1 hts gX10_dice_X1_tell_u140X0 rfl rfl rfl rfl (by decide +kernel) ⟨Nat.le_of_ble_eq_true rfl, Nat.le_of_ble_eq_true rfl⟩) (kd_preV (wc := (kd_dc dq)) (va_recv hK hP (ci := 0) (q0 := 5) rfl rfl) hP hD hS hA hK hE [1, 2, 3, 4, 5] rfl (by decide)) rfl rfl hl.1 rfl (lv_room (Nat.le_of_ble_eq_true rfl)) dX10_dice_25 ⟨Nat.le_of_ble_eq_true rfl, Nat.le_of_ble_eq_true rfl⟩
      refine kd_callIK (g := g) (wc := (kd_dc dq)) (run_25 (if p0 = 0 then k0 else k1) (kd_if5 hk0 hk1)) hP hD hS hA [1, 2, 3, 4, 5] rfl (fun r_25 _ H locs hw hP hS => ?_)
      subst hw
      refine lv_goto (tgt := 33) hx hb dX10_dice_28 (by decide) ?_
      exact kd_iret hx hb hr hlocks hK hS dX10_dice_33 (()) (by rw [sp_X10_dice, if_neg c_5, if_neg c_16]) hP hD
  · refine lv_bipush (v := (-101)) hx hb dX10_dice_8 (by decide) ?_
    exact kd_iret hx hb hr hlocks hK hS dX10_dice_10 (()) (by rw [sp_X10_dice, if_pos c_5]) hP hD
/-- what KingdomAtDice.as answers and leaves, by its instructions -/
def sp_X10_as (k0 : Nat) (k1 : Nat) (T : Nat) (p0 : Int32) (p1 : Int32) : Int32 :=
  if (sp_X10_hasDice T p0) = 0 then
    (-101)
  else
    if (sp_X10_isBelow p1 5) = 0 then
      (-102)
    else
      if (kd_ok (if p0 = 0 then k0 else k1) p1) = 0 then
        (-1)
      else
        p0
set_option maxHeartbeats 4000000 in
set_option maxRecDepth 100000 in
theorem c_X10_as (l : Launch) (g : kd_G) (sz : Nat) (x : Nat) (pg : Nat) (ka : Nat) (od : Nat) (dr : Nat) (so : Nat) (so2 : Nat) (dq : Nat → Nat) (k0 : Nat) (k1 : Nat) (ik : Int32) (nh : Nat) (sa : Nat) (sn : Nat) (T : Nat) (go : Int32) (th : Nat) (sm : Nat) (p0 : Int32) (p1 : Int32) (hT : T ≤ 6) (hk0 : k0 < 5) (hk1 : k1 < 5) : kd_MI l yX10_as wsX10_as ({ frames := 2, cells := 0, slots := 0, locals := 41 }) [.ref x, .int p0, .int p1] g ([(x, .inr (10, [.ref pg, .ref ka, .ref od, .ref dr, .ref so, .ref so2, .ref (dq k0), .ref (dq k1), .int ik, .int (nI nh)]))] ++ (kd_dc dq ++ [(so, .inr (7, [.ref sa, .ref sn, .int (nI T), .int go, .int (nI th), .int (nI sm)]))])) sz (fun r (_ : Unit) => r = sp_X10_as k0 k1 T p0 p1) (fun _ => ([(x, .inr (10, [.ref pg, .ref ka, .ref od, .ref dr, .ref so, .ref so2, .ref (dq k0), .ref (dq k1), .int ik, .int (nI nh)]))] ++ (kd_dc dq ++ [(so, .inr (7, [.ref sa, .ref sn, .int (nI T), .int go, .int (nI th), .int (nI sm)]))]))) 0 0 := by
  refine kd_met (l := l) (y := yX10_as) (ws := wsX10_as) (rm := { frames := 2, cells := 0, slots := 0, locals := 41 }) (av := [.ref x, .int p0, .int p1]) (g := g) (WS := ([(x, .inr (10, [.ref pg, .ref ka, .ref od, .ref dr, .ref so, .ref so2, .ref (dq k0), .ref (dq k1), .int ik, .int (nI nh)]))] ++ (kd_dc dq ++ [(so, .inr (7, [.ref sa, .ref sn, .int (nI T), .int go, .int (nI th), .int (nI sm)]))]))) (sz := sz) (mc := 0) (ms := 0) (cc := cX10_as) (maxL := 3) (ret := (some .int)) (own := RX10) (fun A => va_Qi (fun r (_ : Unit) => r = sp_X10_as k0 k1 T p0 p1) (fun u t => kd_post g A ([(x, .inr (10, [.ref pg, .ref ka, .ref od, .ref dr, .ref so, .ref so2, .ref (dq k0), .ref (dq k1), .int ik, .int (nI nh)]))] ++ (kd_dc dq ++ [(so, .inr (7, [.ref sa, .ref sn, .int (nI T), .int go, .int (nI th), .int (nI sm)]))])) t) A) (by decide) rfl rfl (Nat.le_of_ble_eq_true rfl) ?_
  intro p e s m below meth c A ls hx hb hr hml hts hown hlocks hnm hA hP hK hD hS hE hl
  have hl : lv_has ls 3 [(0, .ref x), (1, .int p0), (2, .int p1)] := hl
  refine lv_aload_n hx hb dX10_as_0 rfl (lv_at hl 0 rfl) ?_
  refine lv_iload_n hx hb dX10_as_1 rfl (lv_at hl 1 rfl) ?_
  refine kd_callIK (g := g) (wc := [(x, .inr (10, [.ref pg, .ref ka, .ref od, .ref dr, .ref so, .ref so2, .ref (dq k0), .ref (dq k1), .int ik, .int (nI nh)])), (so, .inr (7, [.ref sa, .ref sn, .int (nI T), .int go, .int (nI th), .int (nI sm)]))]) (va_runV (mc := 0) (ms := 0) (rm := { frames := 1, cells := 0, slots := 0, locals := 20 }) (As := [.int p0]) (rest := []) ⟨hx, hb, hml, hown, hts⟩ (c_X10_hasDice l g s.heap.size x pg ka od dr so so2 dq k0 k1 ik nh sa sn T go th sm p0 hT) (cwV 1 hts gX10_as_X10_hasDice rfl rfl rfl (by decide +kernel) ⟨Nat.le_of_ble_eq_true rfl, Nat.le_of_ble_eq_true rfl⟩) (kd_preV (wc := [(x, .inr (10, [.ref pg, .ref ka, .ref od, .ref dr, .ref so, .ref so2, .ref (dq k0), .ref (dq k1), .int ik, .int (nI nh)])), (so, .inr (7, [.ref sa, .ref sn, .int (nI T), .int go, .int (nI th), .int (nI sm)]))]) (va_recv hK hP (ci := 10) (q0 := 0) rfl rfl) hP hD hS hA hK hE [0, 6] rfl (by decide)) rfl rfl hl.1 rfl (lv_room (Nat.le_of_ble_eq_true rfl)) dX10_as_2 ⟨Nat.le_of_ble_eq_true rfl, Nat.le_of_ble_eq_true rfl⟩) hP hD hS hA [0, 6] rfl (fun r_2 _ H locs hw hP hS => ?_)
  subst hw
  refine lv_if_ne (tgt := 11) hx hb dX10_as_5 (by decide) (fun c_5 => ?_) (fun c_5 => ?_)
  · refine lv_iload_n hx hb dX10_as_11 rfl (lv_at hl 2 rfl) ?_
    refine lv_iconst (v := 5) hx hb dX10_as_12 (by decide) ?_
    refine kd_callIK (g := g) (wc := []) (va_runS (mc := 0) (ms := 0) (rm := { frames := 0, cells := 0, slots := 0, locals := 0 }) (As := [.int p1, .int 5]) (rest := []) ⟨hx, hb, hml, hown, hts⟩ (c_X10_isBelow l g H.size p1 5 ) (va_cwS 2 hts gX10_as_X10_isBelow rfl rfl rfl (by decide +kernel) ⟨Nat.le_of_ble_eq_true rfl, Nat.le_of_ble_eq_true rfl⟩) (kd_preS (wc := []) (av := [.int p1, .int 5]) hP hD hS hA hK hE [] rfl (by decide)) rfl rfl hl.1 rfl (lv_room (Nat.le_of_ble_eq_true rfl)) dX10_as_13 ⟨Nat.le_of_ble_eq_true rfl, Nat.le_of_ble_eq_true rfl⟩) hP hD hS hA [] rfl (fun r_13 _ H locs hw hP hS => ?_)
    subst hw
    refine lv_if_ne (tgt := 22) hx hb dX10_as_16 (by decide) (fun c_16 => ?_) (fun c_16 => ?_)
    · refine lv_aload_n hx hb dX10_as_22 rfl (lv_at hl 0 rfl) ?_
      refine lv_iload_n hx hb dX10_as_23 rfl (lv_at hl 1 rfl) ?_
      refine kd_callRK (g := g) (wc := [(x, .inr (10, [.ref pg, .ref ka, .ref od, .ref dr, .ref so, .ref so2, .ref (dq k0), .ref (dq k1), .int ik, .int (nI nh)]))]) (va_runV (mc := 0) (ms := 0) (rm := { frames := 0, cells := 0, slots := 0, locals := 0 }) (As := [.int p0]) (rest := []) ⟨hx, hb, hml, hown, hts⟩ (c_X10_diceOf l g H.size x pg ka od dr so so2 dq k0 k1 ik nh p0 ) (cwV 1 hts gX10_as_X10_diceOf rfl rfl rfl (by decide +kernel) ⟨Nat.le_of_ble_eq_true rfl, Nat.le_of_ble_eq_true rfl⟩) (kd_preV (wc := [(x, .inr (10, [.ref pg, .ref ka, .ref od, .ref dr, .ref so, .ref so2, .ref (dq k0), .ref (dq k1), .int ik, .int (nI nh)]))]) (va_recv hK hP (ci := 10) (q0 := 0) rfl rfl) hP hD hS hA hK hE [0] rfl (by decide)) rfl rfl hl.1 rfl (lv_room (Nat.le_of_ble_eq_true rfl)) dX10_as_24 ⟨Nat.le_of_ble_eq_true rfl, Nat.le_of_ble_eq_true rfl⟩) hP hD hS hA [0] rfl (fun _ H locs hw hP hS => ?_)
      refine lv_iload_n hx hb dX10_as_27 rfl (lv_at hl 2 rfl) ?_
      have run_28 : ∀ k_28 : Nat, k_28 < 5 → va_Run p l e ({ frames := 2, cells := 0, slots := 0, locals := 41 } : Room) s m ([.ref x, .int p0, .int p1] : List Value).toArray below meth c H locs 0 0 0 0 (F0 m 28 ls [.int p1, .ref (dq k_28)]) [] (va_Qi (fun r (_ : Unit) => r = kd_ok k_28 p1) (fun _ t => kd_post g (va_A (kd_dc dq) H.size) (kd_dc dq) t) (va_A (kd_dc dq) H.size) (.ref (dq k_28) :: [.int p1]).toArray) (va_A (kd_dc dq) H.size) := by
        intro k_28 hk
        rcases (show k_28 = 0 ∨ k_28 = 1 ∨ k_28 = 2 ∨ k_28 = 3 ∨ k_28 = 4 by omega) with rfl | rfl | rfl | rfl | rfl
        · exact va_runS (mc := 0) (ms := 0) (rm := { frames := 0, cells := 0, slots := 0, locals := 0 }) (As := [.ref (dq 0), .int p1]) (rest := []) ⟨hx, hb, hml, hown, hts⟩ (c_isOfKind_0 l g H.size dq p1 ) (va_cwS 2 hts gX10_as_X10_isOfKind rfl rfl rfl (by decide +kernel) ⟨Nat.le_of_ble_eq_true rfl, Nat.le_of_ble_eq_true rfl⟩) (kd_preS (wc := (kd_dc dq)) (av := [.ref (dq 0), .int p1]) hP hD hS hA hK hE [1, 2, 3, 4, 5] rfl (by decide)) rfl rfl hl.1 rfl (lv_room (Nat.le_of_ble_eq_true rfl)) dX10_as_28 ⟨Nat.le_of_ble_eq_true rfl, Nat.le_of_ble_eq_true rfl⟩
        · exact va_runS (mc := 0) (ms := 0) (rm := { frames := 0, cells := 0, slots := 0, locals := 0 }) (As := [.ref (dq 1), .int p1]) (rest := []) ⟨hx, hb, hml, hown, hts⟩ (c_isOfKind_1 l g H.size dq p1 ) (va_cwS 2 hts gX10_as_X10_isOfKind rfl rfl rfl (by decide +kernel) ⟨Nat.le_of_ble_eq_true rfl, Nat.le_of_ble_eq_true rfl⟩) (kd_preS (wc := (kd_dc dq)) (av := [.ref (dq 1), .int p1]) hP hD hS hA hK hE [1, 2, 3, 4, 5] rfl (by decide)) rfl rfl hl.1 rfl (lv_room (Nat.le_of_ble_eq_true rfl)) dX10_as_28 ⟨Nat.le_of_ble_eq_true rfl, Nat.le_of_ble_eq_true rfl⟩
        · exact va_runS (mc := 0) (ms := 0) (rm := { frames := 0, cells := 0, slots := 0, locals := 0 }) (As := [.ref (dq 2), .int p1]) (rest := []) ⟨hx, hb, hml, hown, hts⟩ (c_isOfKind_2 l g H.size dq p1 ) (va_cwS 2 hts gX10_as_X10_isOfKind rfl rfl rfl (by decide +kernel) ⟨Nat.le_of_ble_eq_true rfl, Nat.le_of_ble_eq_true rfl⟩) (kd_preS (wc := (kd_dc dq)) (av := [.ref (dq 2), .int p1]) hP hD hS hA hK hE [1, 2, 3, 4, 5] rfl (by decide)) rfl rfl hl.1 rfl (lv_room (Nat.le_of_ble_eq_true rfl)) dX10_as_28 ⟨Nat.le_of_ble_eq_true rfl, Nat.le_of_ble_eq_true rfl⟩
        · exact va_runS (mc := 0) (ms := 0) (rm := { frames := 0, cells := 0, slots := 0, locals := 0 }) (As := [.ref (dq 3), .int p1]) (rest := []) ⟨hx, hb, hml, hown, hts⟩ (c_isOfKind_3 l g H.size dq p1 ) (va_cwS 2 hts gX10_as_X10_isOfKind rfl rfl rfl (by decide +kernel) ⟨Nat.le_of_ble_eq_true rfl, Nat.le_of_ble_eq_true rfl⟩) (kd_preS (wc := (kd_dc dq)) (av := [.ref (dq 3), .int p1]) hP hD hS hA hK hE [1, 2, 3, 4, 5] rfl (by decide)) rfl rfl hl.1 rfl (lv_room (Nat.le_of_ble_eq_true rfl)) dX10_as_28 ⟨Nat.le_of_ble_eq_true rfl, Nat.le_of_ble_eq_true rfl⟩
        · exact va_runS (mc := 0) (ms := 0) (rm := { frames := 0, cells := 0, slots := 0, locals := 0 }) (As := [.ref (dq 4), .int p1]) (rest := []) ⟨hx, hb, hml, hown, hts⟩ (c_isOfKind_4 l g H.size dq p1 ) (va_cwS 2 hts gX10_as_X10_isOfKind rfl rfl rfl (by decide +kernel) ⟨Nat.le_of_ble_eq_true rfl, Nat.le_of_ble_eq_true rfl⟩) (kd_preS (wc := (kd_dc dq)) (av := [.ref (dq 4), .int p1]) hP hD hS hA hK hE [1, 2, 3, 4, 5] rfl (by decide)) rfl rfl hl.1 rfl (lv_room (Nat.le_of_ble_eq_true rfl)) dX10_as_28 ⟨Nat.le_of_ble_eq_true rfl, Nat.le_of_ble_eq_true rfl⟩
      refine kd_callIK (g := g) (wc := (kd_dc dq)) (run_28 (if p0 = 0 then k0 else k1) (kd_if5 hk0 hk1)) hP hD hS hA [1, 2, 3, 4, 5] rfl (fun r_28 _ H locs hw hP hS => ?_)
      subst hw
      refine lv_if_eq (tgt := 38) hx hb dX10_as_31 (by decide) (fun c_31 => ?_) (fun c_31 => ?_)
      · refine lv_iconst (v := (-1)) hx hb dX10_as_38 (by decide) ?_
        exact kd_iret hx hb hr hlocks hK hS dX10_as_39 (()) (by rw [sp_X10_as, if_neg c_5, if_neg c_16, if_pos c_31]) hP hD
      · refine lv_iload_n hx hb dX10_as_34 rfl (lv_at hl 1 rfl) ?_
        refine lv_goto (tgt := 39) hx hb dX10_as_35 (by decide) ?_
        exact kd_iret hx hb hr hlocks hK hS dX10_as_39 (()) (by rw [sp_X10_as, if_neg c_5, if_neg c_16, if_neg c_31]) hP hD
    · refine lv_bipush (v := (-102)) hx hb dX10_as_19 (by decide) ?_
      exact kd_iret hx hb hr hlocks hK hS dX10_as_21 (()) (by rw [sp_X10_as, if_neg c_5, if_pos c_16]) hP hD
  · refine lv_bipush (v := (-101)) hx hb dX10_as_8 (by decide) ?_
    exact kd_iret hx hb hr hlocks hK hS dX10_as_10 (()) (by rw [sp_X10_as, if_pos c_5]) hP hD
/-- what KingdomAtDice.ways answers and leaves, by its instructions -/
def sp_X10_ways (k0 : Nat) (k1 : Nat) (T : Nat) (p0 : Int32) (p1 : Int32) : Int32 :=
  if (sp_X10_hasDice T p0) = 0 then
    (-101)
  else
    if (sp_X10_isSum p1) = 0 then
      (-102)
    else
      kd_w (if p0 = 0 then k0 else k1) p1
set_option maxHeartbeats 4000000 in
set_option maxRecDepth 100000 in
theorem c_X10_ways (l : Launch) (g : kd_G) (sz : Nat) (x : Nat) (pg : Nat) (ka : Nat) (od : Nat) (dr : Nat) (so : Nat) (so2 : Nat) (dq : Nat → Nat) (k0 : Nat) (k1 : Nat) (ik : Int32) (nh : Nat) (sa : Nat) (sn : Nat) (T : Nat) (go : Int32) (th : Nat) (sm : Nat) (p0 : Int32) (p1 : Int32) (hT : T ≤ 6) (hk0 : k0 < 5) (hk1 : k1 < 5) : kd_MI l yX10_ways wsX10_ways ({ frames := 2, cells := 0, slots := 0, locals := 44 }) [.ref x, .int p0, .int p1] g ([(x, .inr (10, [.ref pg, .ref ka, .ref od, .ref dr, .ref so, .ref so2, .ref (dq k0), .ref (dq k1), .int ik, .int (nI nh)]))] ++ (kd_dc dq ++ [(so, .inr (7, [.ref sa, .ref sn, .int (nI T), .int go, .int (nI th), .int (nI sm)]))])) sz (fun r (_ : Unit) => r = sp_X10_ways k0 k1 T p0 p1) (fun _ => ([(x, .inr (10, [.ref pg, .ref ka, .ref od, .ref dr, .ref so, .ref so2, .ref (dq k0), .ref (dq k1), .int ik, .int (nI nh)]))] ++ (kd_dc dq ++ [(so, .inr (7, [.ref sa, .ref sn, .int (nI T), .int go, .int (nI th), .int (nI sm)]))]))) 0 0 := by
  refine kd_met (l := l) (y := yX10_ways) (ws := wsX10_ways) (rm := { frames := 2, cells := 0, slots := 0, locals := 44 }) (av := [.ref x, .int p0, .int p1]) (g := g) (WS := ([(x, .inr (10, [.ref pg, .ref ka, .ref od, .ref dr, .ref so, .ref so2, .ref (dq k0), .ref (dq k1), .int ik, .int (nI nh)]))] ++ (kd_dc dq ++ [(so, .inr (7, [.ref sa, .ref sn, .int (nI T), .int go, .int (nI th), .int (nI sm)]))]))) (sz := sz) (mc := 0) (ms := 0) (cc := cX10_ways) (maxL := 3) (ret := (some .int)) (own := RX10) (fun A => va_Qi (fun r (_ : Unit) => r = sp_X10_ways k0 k1 T p0 p1) (fun u t => kd_post g A ([(x, .inr (10, [.ref pg, .ref ka, .ref od, .ref dr, .ref so, .ref so2, .ref (dq k0), .ref (dq k1), .int ik, .int (nI nh)]))] ++ (kd_dc dq ++ [(so, .inr (7, [.ref sa, .ref sn, .int (nI T), .int go, .int (nI th), .int (nI sm)]))])) t) A) (by decide) rfl rfl (Nat.le_of_ble_eq_true rfl) ?_
  intro p e s m below meth c A ls hx hb hr hml hts hown hlocks hnm hA hP hK hD hS hE hl
  have hl : lv_has ls 3 [(0, .ref x), (1, .int p0), (2, .int p1)] := hl
  refine lv_aload_n hx hb dX10_ways_0 rfl (lv_at hl 0 rfl) ?_
  refine lv_iload_n hx hb dX10_ways_1 rfl (lv_at hl 1 rfl) ?_
  refine kd_callIK (g := g) (wc := [(x, .inr (10, [.ref pg, .ref ka, .ref od, .ref dr, .ref so, .ref so2, .ref (dq k0), .ref (dq k1), .int ik, .int (nI nh)])), (so, .inr (7, [.ref sa, .ref sn, .int (nI T), .int go, .int (nI th), .int (nI sm)]))]) (va_runV (mc := 0) (ms := 0) (rm := { frames := 1, cells := 0, slots := 0, locals := 20 }) (As := [.int p0]) (rest := []) ⟨hx, hb, hml, hown, hts⟩ (c_X10_hasDice l g s.heap.size x pg ka od dr so so2 dq k0 k1 ik nh sa sn T go th sm p0 hT) (cwV 1 hts gX10_ways_X10_hasDice rfl rfl rfl (by decide +kernel) ⟨Nat.le_of_ble_eq_true rfl, Nat.le_of_ble_eq_true rfl⟩) (kd_preV (wc := [(x, .inr (10, [.ref pg, .ref ka, .ref od, .ref dr, .ref so, .ref so2, .ref (dq k0), .ref (dq k1), .int ik, .int (nI nh)])), (so, .inr (7, [.ref sa, .ref sn, .int (nI T), .int go, .int (nI th), .int (nI sm)]))]) (va_recv hK hP (ci := 10) (q0 := 0) rfl rfl) hP hD hS hA hK hE [0, 6] rfl (by decide)) rfl rfl hl.1 rfl (lv_room (Nat.le_of_ble_eq_true rfl)) dX10_ways_2 ⟨Nat.le_of_ble_eq_true rfl, Nat.le_of_ble_eq_true rfl⟩) hP hD hS hA [0, 6] rfl (fun r_2 _ H locs hw hP hS => ?_)
  subst hw
  refine lv_if_ne (tgt := 11) hx hb dX10_ways_5 (by decide) (fun c_5 => ?_) (fun c_5 => ?_)
  · refine lv_iload_n hx hb dX10_ways_11 rfl (lv_at hl 2 rfl) ?_
    refine kd_callIK (g := g) (wc := []) (va_runS (mc := 0) (ms := 0) (rm := { frames := 0, cells := 0, slots := 0, locals := 0 }) (As := [.int p1]) (rest := []) ⟨hx, hb, hml, hown, hts⟩ (c_X10_isSum l g H.size p1 ) (va_cwS 1 hts gX10_ways_X10_isSum rfl rfl rfl (by decide +kernel) ⟨Nat.le_of_ble_eq_true rfl, Nat.le_of_ble_eq_true rfl⟩) (kd_preS (wc := []) (av := [.int p1]) hP hD hS hA hK hE [] rfl (by decide)) rfl rfl hl.1 rfl (lv_room (Nat.le_of_ble_eq_true rfl)) dX10_ways_12 ⟨Nat.le_of_ble_eq_true rfl, Nat.le_of_ble_eq_true rfl⟩) hP hD hS hA [] rfl (fun r_12 _ H locs hw hP hS => ?_)
    subst hw
    refine lv_if_eq (tgt := 30) hx hb dX10_ways_15 (by decide) (fun c_15 => ?_) (fun c_15 => ?_)
    · refine lv_bipush (v := (-102)) hx hb dX10_ways_30 (by decide) ?_
      exact kd_iret hx hb hr hlocks hK hS dX10_ways_32 (()) (by rw [sp_X10_ways, if_neg c_5, if_pos c_15]) hP hD
    · refine lv_aload_n hx hb dX10_ways_18 rfl (lv_at hl 0 rfl) ?_
      refine lv_iload_n hx hb dX10_ways_19 rfl (lv_at hl 1 rfl) ?_
      refine kd_callRK (g := g) (wc := [(x, .inr (10, [.ref pg, .ref ka, .ref od, .ref dr, .ref so, .ref so2, .ref (dq k0), .ref (dq k1), .int ik, .int (nI nh)]))]) (va_runV (mc := 0) (ms := 0) (rm := { frames := 0, cells := 0, slots := 0, locals := 0 }) (As := [.int p0]) (rest := []) ⟨hx, hb, hml, hown, hts⟩ (c_X10_diceOf l g H.size x pg ka od dr so so2 dq k0 k1 ik nh p0 ) (cwV 1 hts gX10_ways_X10_diceOf rfl rfl rfl (by decide +kernel) ⟨Nat.le_of_ble_eq_true rfl, Nat.le_of_ble_eq_true rfl⟩) (kd_preV (wc := [(x, .inr (10, [.ref pg, .ref ka, .ref od, .ref dr, .ref so, .ref so2, .ref (dq k0), .ref (dq k1), .int ik, .int (nI nh)]))]) (va_recv hK hP (ci := 10) (q0 := 0) rfl rfl) hP hD hS hA hK hE [0] rfl (by decide)) rfl rfl hl.1 rfl (lv_room (Nat.le_of_ble_eq_true rfl)) dX10_ways_20 ⟨Nat.le_of_ble_eq_true rfl, Nat.le_of_ble_eq_true rfl⟩) hP hD hS hA [0] rfl (fun _ H locs hw hP hS => ?_)
      refine lv_iload_n hx hb dX10_ways_23 rfl (lv_at hl 2 rfl) ?_
      have run_24 : ∀ k_24 : Nat, k_24 < 5 → va_Run p l e ({ frames := 2, cells := 0, slots := 0, locals := 44 } : Room) s m ([.ref x, .int p0, .int p1] : List Value).toArray below meth c H locs 0 0 0 0 (F0 m 24 ls [.int p1, .ref (dq k_24)]) [] (va_Qi (fun r (_ : Unit) => r = kd_w k_24 p1) (fun _ t => kd_post g (va_A (kd_dc dq) H.size) (kd_dc dq) t) (va_A (kd_dc dq) H.size) (.ref (dq k_24) :: [.int p1]).toArray) (va_A (kd_dc dq) H.size) := by
        intro k_24 hk
        rcases (show k_24 = 0 ∨ k_24 = 1 ∨ k_24 = 2 ∨ k_24 = 3 ∨ k_24 = 4 by omega) with rfl | rfl | rfl | rfl | rfl
        · exact va_runV (mc := 0) (ms := 0) (rm := { frames := 1, cells := 0, slots := 0, locals := 20 }) (As := [.int p1]) (rest := []) ⟨hx, hb, hml, hown, hts⟩ (c_waysOf_0 l g H.size dq p1 ) (cwV 1 hts gX10_ways_X1_waysOf rfl rfl rfl (by decide +kernel) ⟨Nat.le_of_ble_eq_true rfl, Nat.le_of_ble_eq_true rfl⟩) (kd_preV (wc := (kd_dc dq)) (va_recv hK hP (ci := 1) (q0 := 1) rfl rfl) hP hD hS hA hK hE [1, 2, 3, 4, 5] rfl (by decide)) rfl rfl hl.1 rfl (lv_room (Nat.le_of_ble_eq_true rfl)) dX10_ways_24 ⟨Nat.le_of_ble_eq_true rfl, Nat.le_of_ble_eq_true rfl⟩
        · exact va_runU (mc := 0) (ms := 0) (rm := { frames := 1, cells := 0, slots := 0, locals := 20 }) (C := RX3) (As := [.int p1]) (rest := []) ⟨hx, hb, hml, hown, hts⟩ (c_waysOf_1 l g H.size dq p1 ) (va_cwU 1 hts gX10_ways_X1_waysOf_u148X3 rfl rfl rfl rfl (by decide +kernel) ⟨Nat.le_of_ble_eq_true rfl, Nat.le_of_ble_eq_true rfl⟩) (kd_preV (wc := (kd_dc dq)) (va_recv hK hP (ci := 3) (q0 := 2) rfl rfl) hP hD hS hA hK hE [1, 2, 3, 4, 5] rfl (by decide)) rfl rfl hl.1 rfl (lv_room (Nat.le_of_ble_eq_true rfl)) dX10_ways_24 ⟨Nat.le_of_ble_eq_true rfl, Nat.le_of_ble_eq_true rfl⟩
        · exact va_runU (mc := 0) (ms := 0) (rm := { frames := 1, cells := 0, slots := 0, locals := 20 }) (C := RX9) (As := [.int p1]) (rest := []) ⟨hx, hb, hml, hown, hts⟩ (c_waysOf_2 l g H.size dq p1 ) (va_cwO 1 hts gX10_ways_X9_waysOf_u148X9 rfl rfl rfl (show Cond.code yX1_waysOf cX1_waysOf 5 (some .int) ∈ _ by decide +kernel) (by decide +kernel) ⟨Nat.le_of_ble_eq_true rfl, Nat.le_of_ble_eq_true rfl⟩) (kd_preV (wc := (kd_dc dq)) (va_recv hK hP (ci := 9) (q0 := 3) rfl rfl) hP hD hS hA hK hE [1, 2, 3, 4, 5] rfl (by decide)) rfl rfl hl.1 rfl (lv_room (Nat.le_of_ble_eq_true rfl)) dX10_ways_24 ⟨Nat.le_of_ble_eq_true rfl, Nat.le_of_ble_eq_true rfl⟩
        · exact va_runU (mc := 0) (ms := 0) (rm := { frames := 1, cells := 0, slots := 0, locals := 20 }) (C := RX4) (As := [.int p1]) (rest := []) ⟨hx, hb, hml, hown, hts⟩ (c_waysOf_3 l g H.size dq p1 ) (va_cwU 1 hts gX10_ways_X1_waysOf_u148X4 rfl rfl rfl rfl (by decide +kernel) ⟨Nat.le_of_ble_eq_true rfl, Nat.le_of_ble_eq_true rfl⟩) (kd_preV (wc := (kd_dc dq)) (va_recv hK hP (ci := 4) (q0 := 4) rfl rfl) hP hD hS hA hK hE [1, 2, 3, 4, 5] rfl (by decide)) rfl rfl hl.1 rfl (lv_room (Nat.le_of_ble_eq_true rfl)) dX10_ways_24 ⟨Nat.le_of_ble_eq_true rfl, Nat.le_of_ble_eq_true rfl⟩
        · exact va_runU (mc := 0) (ms := 0) (rm := { frames := 1, cells := 0, slots := 0, locals := 20 }) (C := RX0) (As := [.int p1]) (rest := []) ⟨hx, hb, hml, hown, hts⟩ (c_waysOf_4 l g H.size dq p1 ) (va_cwU 1 hts gX10_ways_X1_waysOf_u148X0 rfl rfl rfl rfl (by decide +kernel) ⟨Nat.le_of_ble_eq_true rfl, Nat.le_of_ble_eq_true rfl⟩) (kd_preV (wc := (kd_dc dq)) (va_recv hK hP (ci := 0) (q0 := 5) rfl rfl) hP hD hS hA hK hE [1, 2, 3, 4, 5] rfl (by decide)) rfl rfl hl.1 rfl (lv_room (Nat.le_of_ble_eq_true rfl)) dX10_ways_24 ⟨Nat.le_of_ble_eq_true rfl, Nat.le_of_ble_eq_true rfl⟩
      refine kd_callIK (g := g) (wc := (kd_dc dq)) (run_24 (if p0 = 0 then k0 else k1) (kd_if5 hk0 hk1)) hP hD hS hA [1, 2, 3, 4, 5] rfl (fun r_24 _ H locs hw hP hS => ?_)
      subst hw
      refine lv_goto (tgt := 32) hx hb dX10_ways_27 (by decide) ?_
      exact kd_iret hx hb hr hlocks hK hS dX10_ways_32 (()) (by rw [sp_X10_ways, if_neg c_5, if_neg c_15]) hP hD
  · refine lv_bipush (v := (-101)) hx hb dX10_ways_8 (by decide) ?_
    exact kd_iret hx hb hr hlocks hK hS dX10_ways_10 (()) (by rw [sp_X10_ways, if_pos c_5]) hP hD
/-- what KingdomAtDice.odds answers and leaves, by its instructions -/
def sp_X10_odds (wf : Nat → Int32) (wt : Int32) (T : Nat) (p0 : Int32) : Int32 :=
  if (sp_X10_isBelow p0 6) = 0 then
    (-102)
  else
    if (sp_X7_hasHall T) = 0 then
      (-103)
    else
      (sp_X10_lowestTerm ((sp_X5_waysTo wf (p0 / 2)).toInt64) wt.toInt64 (p0 - p0 / 2 * 2)).toInt32
set_option maxHeartbeats 4000000 in
set_option maxRecDepth 100000 in
theorem c_X10_odds (l : Launch) (g : kd_G) (sz : Nat) (x : Nat) (pg : Nat) (ka : Nat) (od : Nat) (dr : Nat) (so : Nat) (so2 : Nat) (dq : Nat → Nat) (k0 : Nat) (k1 : Nat) (ik : Int32) (nh : Nat) (ow : Nat) (wf : Nat → Int32) (wt : Int32) (sa : Nat) (sn : Nat) (T : Nat) (go : Int32) (th : Nat) (sm : Nat) (p0 : Int32) (hT : T ≤ 6) : kd_MI l yX10_odds wsX10_odds ({ frames := 2, cells := 0, slots := 0, locals := 58 }) [.ref x, .int p0] g [(x, .inr (10, [.ref pg, .ref ka, .ref od, .ref dr, .ref so, .ref so2, .ref (dq k0), .ref (dq k1), .int ik, .int (nI nh)])), (od, .inr (5, [.ref ow, .int wt])), (ow, .inl (g.2.1 0, 3, .inl wf)), (so, .inr (7, [.ref sa, .ref sn, .int (nI T), .int go, .int (nI th), .int (nI sm)]))] sz (fun r (_ : Unit) => r = sp_X10_odds wf wt T p0) (fun _ => [(x, .inr (10, [.ref pg, .ref ka, .ref od, .ref dr, .ref so, .ref so2, .ref (dq k0), .ref (dq k1), .int ik, .int (nI nh)])), (od, .inr (5, [.ref ow, .int wt])), (ow, .inl (g.2.1 0, 3, .inl wf)), (so, .inr (7, [.ref sa, .ref sn, .int (nI T), .int go, .int (nI th), .int (nI sm)]))]) 0 0 := by
  refine kd_met (l := l) (y := yX10_odds) (ws := wsX10_odds) (rm := { frames := 2, cells := 0, slots := 0, locals := 58 }) (av := [.ref x, .int p0]) (g := g) (WS := [(x, .inr (10, [.ref pg, .ref ka, .ref od, .ref dr, .ref so, .ref so2, .ref (dq k0), .ref (dq k1), .int ik, .int (nI nh)])), (od, .inr (5, [.ref ow, .int wt])), (ow, .inl (g.2.1 0, 3, .inl wf)), (so, .inr (7, [.ref sa, .ref sn, .int (nI T), .int go, .int (nI th), .int (nI sm)]))]) (sz := sz) (mc := 0) (ms := 0) (cc := cX10_odds) (maxL := 2) (ret := (some .int)) (own := RX10) (fun A => va_Qi (fun r (_ : Unit) => r = sp_X10_odds wf wt T p0) (fun u t => kd_post g A [(x, .inr (10, [.ref pg, .ref ka, .ref od, .ref dr, .ref so, .ref so2, .ref (dq k0), .ref (dq k1), .int ik, .int (nI nh)])), (od, .inr (5, [.ref ow, .int wt])), (ow, .inl (g.2.1 0, 3, .inl wf)), (so, .inr (7, [.ref sa, .ref sn, .int (nI T), .int go, .int (nI th), .int (nI sm)]))] t) A) (by decide) rfl rfl (Nat.le_of_ble_eq_true rfl) ?_
  intro p e s m below meth c A ls hx hb hr hml hts hown hlocks hnm hA hP hK hD hS hE hl
  have hl : lv_has ls 2 [(0, .ref x), (1, .int p0)] := hl
  have hiX5 : ∀ w ∈ u_ws RX5 TX5 2, w ∈ wsX10_odds := by decide +kernel
  have hiX10 : ∀ w ∈ u_ws RX10 TX10 10, w ∈ wsX10_odds := by decide +kernel
  refine lv_iload_n hx hb dX10_odds_0 rfl (lv_at hl 1 rfl) ?_
  refine lv_bipush (v := 6) hx hb dX10_odds_1 (by decide) ?_
  refine kd_callIK (g := g) (wc := []) (va_runS (mc := 0) (ms := 0) (rm := { frames := 0, cells := 0, slots := 0, locals := 0 }) (As := [.int p0, .int 6]) (rest := []) ⟨hx, hb, hml, hown, hts⟩ (c_X10_isBelow l g s.heap.size p0 6 ) (va_cwS 2 hts gX10_odds_X10_isBelow rfl rfl rfl (by decide +kernel) ⟨Nat.le_of_ble_eq_true rfl, Nat.le_of_ble_eq_true rfl⟩) (kd_preS (wc := []) (av := [.int p0, .int 6]) hP hD hS hA hK hE [] rfl (by decide)) rfl rfl hl.1 rfl (lv_room (Nat.le_of_ble_eq_true rfl)) dX10_odds_3 ⟨Nat.le_of_ble_eq_true rfl, Nat.le_of_ble_eq_true rfl⟩) hP hD hS hA [] rfl (fun r_3 _ H locs hw hP hS => ?_)
  subst hw
  refine lv_if_ne (tgt := 12) hx hb dX10_odds_6 (by decide) (fun c_6 => ?_) (fun c_6 => ?_)
  · refine lv_aload_n hx hb dX10_odds_12 rfl (lv_at hl 0 rfl) ?_
    refine va_get (ci := 10) (v := .ref so) (C := RX10) (T := TX10) (N := 10) hx hb hts hiX10 hown hK hP (0) rfl rfl 4 (by decide) (hts (.fieldLink RX10 56 "KingdomAtDice" "now" "LKingdomAtDice$Standing;") (by decide +kernel)) (fun _ h9 => h9) rfl dX10_odds_13 ?_
    refine kd_callIK (g := g) (wc := [(so, .inr (7, [.ref sa, .ref sn, .int (nI T), .int go, .int (nI th), .int (nI sm)]))]) (va_runVN (mc := 0) (ms := 0) (rm := { frames := 0, cells := 0, slots := 0, locals := 0 }) (C := RX7) (host := "KingdomAtDice") (As := []) (rest := []) ⟨hx, hb, hml, hown, hts⟩ (c_X7_hasHall l g H.size so sa sn T go th sm hT) ⟨va_cnB 0 hts gX10_odds_X7_hasHall_n161 rfl rfl rfl (kd_N hE 24 rfl) (hts (.initialized RX7) (by decide +kernel)) (by decide +kernel) ⟨Nat.le_of_ble_eq_true rfl, Nat.le_of_ble_eq_true rfl⟩, (hts (.instanceMethod yX7_hasHall) (by decide +kernel)), (hts (.selects RX7 yX7_hasHall yX7_hasHall) (by decide +kernel))⟩ (kd_preV (wc := [(so, .inr (7, [.ref sa, .ref sn, .int (nI T), .int go, .int (nI th), .int (nI sm)]))]) (va_recv hK hP (ci := 7) (q0 := 3) rfl rfl) hP hD hS hA hK hE [3] rfl (by decide)) rfl rfl hl.1 rfl (lv_room (Nat.le_of_ble_eq_true rfl)) dX10_odds_16 ⟨Nat.le_of_ble_eq_true rfl, Nat.le_of_ble_eq_true rfl⟩) hP hD hS hA [3] rfl (fun r_16 _ H locs hw hP hS => ?_)
    subst hw
    refine lv_if_ne (tgt := 25) hx hb dX10_odds_19 (by decide) (fun c_19 => ?_) (fun c_19 => ?_)
    · refine lv_aload_n hx hb dX10_odds_25 rfl (lv_at hl 0 rfl) ?_
      refine va_get (ci := 10) (v := .ref od) (C := RX10) (T := TX10) (N := 10) hx hb hts hiX10 hown hK hP (0) rfl rfl 2 (by decide) (hts (.fieldLink RX10 42 "KingdomAtDice" "odds" "LKingdomAtDice$Odds;") (by decide +kernel)) (fun _ h9 => h9) rfl dX10_odds_26 ?_
      refine lv_iload_n hx hb dX10_odds_29 rfl (lv_at hl 1 rfl) ?_
      refine lv_iconst (v := 2) hx hb dX10_odds_30 (by decide) ?_
      refine lv_idiv hx hb dX10_odds_31 (by decide) ?_
      refine kd_callIK (g := g) (wc := [(od, .inr (5, [.ref ow, .int wt])), (ow, .inl (g.2.1 0, 3, .inl wf))]) (va_runVN (mc := 0) (ms := 0) (rm := { frames := 1, cells := 0, slots := 0, locals := 21 }) (C := RX5) (host := "KingdomAtDice") (As := [.int (p0 / 2)]) (rest := []) ⟨hx, hb, hml, hown, hts⟩ (c_X5_waysTo l g H.size od ow wf wt (p0 / 2) ) ⟨va_cnB 1 hts gX10_odds_X5_waysTo_n164 rfl rfl rfl (kd_N hE 29 rfl) (hts (.initialized RX5) (by decide +kernel)) (by decide +kernel) ⟨Nat.le_of_ble_eq_true rfl, Nat.le_of_ble_eq_true rfl⟩, (hts (.instanceMethod yX5_waysTo) (by decide +kernel)), (hts (.selects RX5 yX5_waysTo yX5_waysTo) (by decide +kernel))⟩ (kd_preV (wc := [(od, .inr (5, [.ref ow, .int wt])), (ow, .inl (g.2.1 0, 3, .inl wf))]) (va_recv hK hP (ci := 5) (q0 := 1) rfl rfl) hP hD hS hA hK hE [1, 2] rfl (by decide)) rfl rfl hl.1 rfl (lv_room (Nat.le_of_ble_eq_true rfl)) dX10_odds_32 ⟨Nat.le_of_ble_eq_true rfl, Nat.le_of_ble_eq_true rfl⟩) hP hD hS hA [1, 2] rfl (fun r_32 _ H locs hw hP hS => ?_)
      subst hw
      refine lv_i2l hx hb dX10_odds_35 rfl ?_
      refine lv_aload_n hx hb dX10_odds_36 rfl (lv_at hl 0 rfl) ?_
      refine va_get (ci := 10) (v := .ref od) (C := RX10) (T := TX10) (N := 10) hx hb hts hiX10 hown hK hP (0) rfl rfl 2 (by decide) (hts (.fieldLink RX10 42 "KingdomAtDice" "odds" "LKingdomAtDice$Odds;") (by decide +kernel)) (fun _ h9 => h9) rfl dX10_odds_37 ?_
      refine va_getN (ci := 5) (v := .int wt) (C := RX5) (T := TX5) (N := 2) hx hb hts hiX5 hown hK hP (1) rfl rfl 1 (by decide) (kd_Nb hE 48 rfl) (fun _ h9 => h9) rfl dX10_odds_40 ?_
      refine lv_i2l hx hb dX10_odds_43 rfl ?_
      refine lv_iload_n hx hb dX10_odds_44 rfl (lv_at hl 1 rfl) ?_
      refine lv_iconst (v := 2) hx hb dX10_odds_45 (by decide) ?_
      refine lv_irem hx hb dX10_odds_46 (by decide) ?_
      refine kd_callLK (g := g) (wc := []) (va_runS (mc := 0) (ms := 0) (rm := { frames := 1, cells := 0, slots := 0, locals := 30 }) (As := [.long ((sp_X5_waysTo wf (p0 / 2)).toInt64), .long wt.toInt64, .int (p0 - p0 / 2 * 2)]) (rest := []) ⟨hx, hb, hml, hown, hts⟩ (c_X10_lowestTerm l g H.size ((sp_X5_waysTo wf (p0 / 2)).toInt64) wt.toInt64 (p0 - p0 / 2 * 2) ) (va_cwS 3 hts gX10_odds_X10_lowestTerm rfl rfl rfl (by decide +kernel) ⟨Nat.le_of_ble_eq_true rfl, Nat.le_of_ble_eq_true rfl⟩) (kd_preS (wc := []) (av := [.long ((sp_X5_waysTo wf (p0 / 2)).toInt64), .long wt.toInt64, .int (p0 - p0 / 2 * 2)]) hP hD hS hA hK hE [] rfl (by decide)) rfl rfl hl.1 rfl (lv_room (Nat.le_of_ble_eq_true rfl)) dX10_odds_47 ⟨Nat.le_of_ble_eq_true rfl, Nat.le_of_ble_eq_true rfl⟩) hP hD hS hA [] rfl (fun r_47 _ H locs hw hP hS => ?_)
      subst hw
      refine lv_l2i hx hb dX10_odds_50 rfl ?_
      exact kd_iret hx hb hr hlocks hK hS dX10_odds_51 (()) (by rw [sp_X10_odds, if_neg c_6, if_neg c_19]) hP hD
    · refine lv_bipush (v := (-103)) hx hb dX10_odds_22 (by decide) ?_
      exact kd_iret hx hb hr hlocks hK hS dX10_odds_24 (()) (by rw [sp_X10_odds, if_neg c_6, if_pos c_19]) hP hD
  · refine lv_bipush (v := (-102)) hx hb dX10_odds_9 (by decide) ?_
    exact kd_iret hx hb hr hlocks hK hS dX10_odds_11 (()) (by rw [sp_X10_odds, if_pos c_6]) hP hD
/-- what KingdomAtDice.back answers and leaves, by its instructions -/
def sp_X10_back (wf : Nat → Int32) (wt : Int32) (T : Nat) (R : Nat → Nat → Int32) (p0 : Int32) (p1 : Int32) (p2 : Int32) : Int64 :=
  if (sp_X7_has T p0) = 0 then
    (-101)
  else
    if p1 < 1 then
      (-102)
    else
      if 5 < p1 then
        (-102)
      else
        if (sp_X10_isBelow p2 2) = 0 then
          (-102)
        else
          if (R p0.toNatClampNeg 2) = 0 then
            if p1 = 1 then
              sp_X10_lowestTerm (sp_waysBack_1 wf wt (kd_sk T R p0 T)) (kd_pw wt.toInt64 1) p2
            else
              if p1 = 2 then
                sp_X10_lowestTerm (sp_waysBack_2 wf wt (kd_sk T R p0 T)) (kd_pw wt.toInt64 2) p2
              else
                if p1 = 3 then
                  sp_X10_lowestTerm (sp_waysBack_3 wf wt (kd_sk T R p0 T)) (kd_pw wt.toInt64 3) p2
                else
                  if p1 = 4 then
                    sp_X10_lowestTerm (sp_waysBack_4 wf wt (kd_sk T R p0 T)) (kd_pw wt.toInt64 4) p2
                  else
                    if p1 = 5 then
                      sp_X10_lowestTerm (sp_waysBack_5 wf wt (kd_sk T R p0 T)) (kd_pw wt.toInt64 5) p2
                    else
                      0
          else
            (-103)
set_option maxHeartbeats 4000000 in
set_option maxRecDepth 100000 in
theorem c_X10_back (l : Launch) (g : kd_G) (sz : Nat) (x : Nat) (pg : Nat) (ka : Nat) (od : Nat) (dr : Nat) (so : Nat) (so2 : Nat) (dq : Nat → Nat) (k0 : Nat) (k1 : Nat) (ik : Int32) (nh : Nat) (ow : Nat) (wf : Nat → Int32) (wt : Int32) (sa : Nat) (sn : Nat) (T : Nat) (go : Int32) (th : Nat) (sm : Nat) (tq : Nat → Nat) (R : Nat → Nat → Int32) (p0 : Int32) (p1 : Int32) (p2 : Int32) (hT : T ≤ 6) : kd_ML l yX10_back wsX10_back ({ frames := 7, cells := 0, slots := 0, locals := 152 }) [.ref x, .int p0, .int p1, .int p2] g ([(x, .inr (10, [.ref pg, .ref ka, .ref od, .ref dr, .ref so, .ref so2, .ref (dq k0), .ref (dq k1), .int ik, .int (nI nh)])), (od, .inr (5, [.ref ow, .int wt])), (ow, .inl (g.2.1 0, 3, .inl wf)), (so, .inr (7, [.ref sa, .ref sn, .int (nI T), .int go, .int (nI th), .int (nI sm)])), (sa, .inl (g.2.1 3, 6, .inr (.inr (.inr (.inr (fun j => some (tq j)))))))] ++ (kd_th tq R)) sz (fun r (_ : Unit) => r = sp_X10_back wf wt T R p0 p1 p2) (fun _ => ([(x, .inr (10, [.ref pg, .ref ka, .ref od, .ref dr, .ref so, .ref so2, .ref (dq k0), .ref (dq k1), .int ik, .int (nI nh)])), (od, .inr (5, [.ref ow, .int wt])), (ow, .inl (g.2.1 0, 3, .inl wf)), (so, .inr (7, [.ref sa, .ref sn, .int (nI T), .int go, .int (nI th), .int (nI sm)])), (sa, .inl (g.2.1 3, 6, .inr (.inr (.inr (.inr (fun j => some (tq j)))))))] ++ (kd_th tq R))) 0 0 := by
  refine kd_met (l := l) (y := yX10_back) (ws := wsX10_back) (rm := { frames := 7, cells := 0, slots := 0, locals := 152 }) (av := [.ref x, .int p0, .int p1, .int p2]) (g := g) (WS := ([(x, .inr (10, [.ref pg, .ref ka, .ref od, .ref dr, .ref so, .ref so2, .ref (dq k0), .ref (dq k1), .int ik, .int (nI nh)])), (od, .inr (5, [.ref ow, .int wt])), (ow, .inl (g.2.1 0, 3, .inl wf)), (so, .inr (7, [.ref sa, .ref sn, .int (nI T), .int go, .int (nI th), .int (nI sm)])), (sa, .inl (g.2.1 3, 6, .inr (.inr (.inr (.inr (fun j => some (tq j)))))))] ++ (kd_th tq R))) (sz := sz) (mc := 0) (ms := 0) (cc := cX10_back) (maxL := 6) (ret := (some .long)) (own := RX10) (fun A => va_Ql (fun r (_ : Unit) => r = sp_X10_back wf wt T R p0 p1 p2) (fun u t => kd_post g A ([(x, .inr (10, [.ref pg, .ref ka, .ref od, .ref dr, .ref so, .ref so2, .ref (dq k0), .ref (dq k1), .int ik, .int (nI nh)])), (od, .inr (5, [.ref ow, .int wt])), (ow, .inl (g.2.1 0, 3, .inl wf)), (so, .inr (7, [.ref sa, .ref sn, .int (nI T), .int go, .int (nI th), .int (nI sm)])), (sa, .inl (g.2.1 3, 6, .inr (.inr (.inr (.inr (fun j => some (tq j)))))))] ++ (kd_th tq R)) t) A) (by decide) rfl rfl (Nat.le_of_ble_eq_true rfl) ?_
  intro p e s m below meth c A ls hx hb hr hml hts hown hlocks hnm hA hP hK hD hS hE hl
  have hl : lv_has ls 6 [(0, .ref x), (1, .int p0), (2, .int p1), (3, .int p2)] := hl
  have hiX5 : ∀ w ∈ u_ws RX5 TX5 2, w ∈ wsX10_back := by decide +kernel
  have hiX7 : ∀ w ∈ u_ws RX7 TX7 6, w ∈ wsX10_back := by decide +kernel
  have hiX8 : ∀ w ∈ u_ws RX8 TX8 6, w ∈ wsX10_back := by decide +kernel
  have hiX10 : ∀ w ∈ u_ws RX10 TX10 10, w ∈ wsX10_back := by decide +kernel
  refine lv_aload_n hx hb dX10_back_0 rfl (lv_at hl 0 rfl) ?_
  refine va_get (ci := 10) (v := .ref so) (C := RX10) (T := TX10) (N := 10) hx hb hts hiX10 hown hK hP (0) rfl rfl 4 (by decide) (hts (.fieldLink RX10 56 "KingdomAtDice" "now" "LKingdomAtDice$Standing;") (by decide +kernel)) (fun _ h9 => h9) rfl dX10_back_1 ?_
  refine lv_iload_n hx hb dX10_back_4 rfl (lv_at hl 1 rfl) ?_
  refine kd_callIK (g := g) (wc := [(so, .inr (7, [.ref sa, .ref sn, .int (nI T), .int go, .int (nI th), .int (nI sm)]))]) (va_runVN (mc := 0) (ms := 0) (rm := { frames := 1, cells := 0, slots := 0, locals := 21 }) (C := RX7) (host := "KingdomAtDice") (As := [.int p0]) (rest := []) ⟨hx, hb, hml, hown, hts⟩ (c_X7_has l g s.heap.size so sa sn T go th sm p0 hT) ⟨va_cnB 1 hts gX10_back_X7_has_n117 rfl rfl rfl (kd_N hE 21 rfl) (hts (.initialized RX7) (by decide +kernel)) (by decide +kernel) ⟨Nat.le_of_ble_eq_true rfl, Nat.le_of_ble_eq_true rfl⟩, (hts (.instanceMethod yX7_has) (by decide +kernel)), (hts (.selects RX7 yX7_has yX7_has) (by decide +kernel))⟩ (kd_preV (wc := [(so, .inr (7, [.ref sa, .ref sn, .int (nI T), .int go, .int (nI th), .int (nI sm)]))]) (va_recv hK hP (ci := 7) (q0 := 3) rfl rfl) hP hD hS hA hK hE [3] rfl (by decide)) rfl rfl hl.1 rfl (lv_room (Nat.le_of_ble_eq_true rfl)) dX10_back_5 ⟨Nat.le_of_ble_eq_true rfl, Nat.le_of_ble_eq_true rfl⟩) hP hD hS hA [3] rfl (fun r_5 _ H locs hw hP hS => ?_)
  subst hw
  refine lv_if_ne (tgt := 15) hx hb dX10_back_8 (by decide) (fun c_8 => ?_) (fun c_8 => ?_)
  · refine lv_iload_n hx hb dX10_back_15 rfl (lv_at hl 2 rfl) ?_
    refine lv_iconst (v := 1) hx hb dX10_back_16 (by decide) ?_
    refine lv_icmp_lt (tgt := 33) hx hb dX10_back_17 (by decide) (fun c_17 => ?_) (fun c_17 => ?_)
    · refine lv_ldc2 (v := (-102)) hx hb hown (hts (.constantLong RX10 176 (-102)) (by decide +kernel)) dX10_back_33 ?_
      exact kd_lret hx hb hr hlocks hK hS dX10_back_36 (()) (by rw [sp_X10_back, if_neg c_8, if_pos c_17]) hP hD
    · refine lv_iload_n hx hb dX10_back_20 rfl (lv_at hl 2 rfl) ?_
      refine lv_iconst (v := 5) hx hb dX10_back_21 (by decide) ?_
      refine lv_icmp_gt (tgt := 33) hx hb dX10_back_22 (by decide) (fun c_22 => ?_) (fun c_22 => ?_)
      · refine lv_ldc2 (v := (-102)) hx hb hown (hts (.constantLong RX10 176 (-102)) (by decide +kernel)) dX10_back_33 ?_
        exact kd_lret hx hb hr hlocks hK hS dX10_back_36 (()) (by rw [sp_X10_back, if_neg c_8, if_neg c_17, if_pos c_22]) hP hD
      · refine lv_iload_n hx hb dX10_back_25 rfl (lv_at hl 3 rfl) ?_
        refine lv_iconst (v := 2) hx hb dX10_back_26 (by decide) ?_
        refine kd_callIK (g := g) (wc := []) (va_runS (mc := 0) (ms := 0) (rm := { frames := 0, cells := 0, slots := 0, locals := 0 }) (As := [.int p2, .int 2]) (rest := []) ⟨hx, hb, hml, hown, hts⟩ (c_X10_isBelow l g H.size p2 2 ) (va_cwS 2 hts gX10_back_X10_isBelow rfl rfl rfl (by decide +kernel) ⟨Nat.le_of_ble_eq_true rfl, Nat.le_of_ble_eq_true rfl⟩) (kd_preS (wc := []) (av := [.int p2, .int 2]) hP hD hS hA hK hE [] rfl (by decide)) rfl rfl hl.1 rfl (lv_room (Nat.le_of_ble_eq_true rfl)) dX10_back_27 ⟨Nat.le_of_ble_eq_true rfl, Nat.le_of_ble_eq_true rfl⟩) hP hD hS hA [] rfl (fun r_27 _ H locs hw hP hS => ?_)
        subst hw
        refine lv_if_ne (tgt := 37) hx hb dX10_back_30 (by decide) (fun c_30 => ?_) (fun c_30 => ?_)
        · refine lv_aload_n hx hb dX10_back_37 rfl (lv_at hl 0 rfl) ?_
          refine va_get (ci := 10) (v := .ref so) (C := RX10) (T := TX10) (N := 10) hx hb hts hiX10 hown hK hP (0) rfl rfl 4 (by decide) (hts (.fieldLink RX10 56 "KingdomAtDice" "now" "LKingdomAtDice$Standing;") (by decide +kernel)) (fun _ h9 => h9) rfl dX10_back_38 ?_
          refine va_getN (ci := 7) (v := .ref sa) (C := RX7) (T := TX7) (N := 6) hx hb hts hiX7 hown hK hP (3) rfl rfl 0 (by decide) (kd_Nb hE 53 rfl) (fun _ h9 => h9) rfl dX10_back_41 ?_
          refine lv_iload_n hx hb dX10_back_44 rfl (lv_at hl 1 rfl) ?_
          refine kd_aldq hx hb hK hP 4 3 rfl rfl (kd_has c_8 hT) dX10_back_45 ?_
          refine va_getN (ci := 8) (v := .int (R p0.toNatClampNeg 2)) (C := RX8) (T := TX8) (N := 6) hx hb hts hiX8 hown hK hP (p0.toNatClampNeg + 5) (kd_th_at0 (kd_inlt (kd_has c_8 hT))) rfl 2 (by decide) (kd_Nb hE 52 rfl) (fun _ h9 => h9) rfl dX10_back_46 ?_
          refine lv_if_eq (tgt := 56) hx hb dX10_back_49 (by decide) (fun c_49 => ?_) (fun c_49 => ?_)
          · refine lv_aload_n hx hb dX10_back_56 rfl (lv_at hl 0 rfl) ?_
            by_cases e_57_1 : p1 = 1
            · subst e_57_1
              refine va_get (ci := 10) (v := .ref od) (C := RX10) (T := TX10) (N := 10) hx hb hts hiX10 hown hK hP (0) rfl rfl 2 (by decide) (hts (.fieldLink RX10 42 "KingdomAtDice" "odds" "LKingdomAtDice$Odds;") (by decide +kernel)) (fun _ h9 => h9) rfl dX10_back_57 ?_
              refine lv_iload_n hx hb dX10_back_60 rfl (lv_at hl 2 rfl) ?_
              refine lv_aload_n hx hb dX10_back_61 rfl (lv_at hl 0 rfl) ?_
              refine va_get (ci := 10) (v := .ref so) (C := RX10) (T := TX10) (N := 10) hx hb hts hiX10 hown hK hP (0) rfl rfl 4 (by decide) (hts (.fieldLink RX10 56 "KingdomAtDice" "now" "LKingdomAtDice$Standing;") (by decide +kernel)) (fun _ h9 => h9) rfl dX10_back_62 ?_
              refine lv_iload_n hx hb dX10_back_65 rfl (lv_at hl 1 rfl) ?_
              refine kd_callIK (g := g) (wc := ([(so, .inr (7, [.ref sa, .ref sn, .int (nI T), .int go, .int (nI th), .int (nI sm)])), (sa, .inl (g.2.1 3, 6, .inr (.inr (.inr (.inr (fun j => some (tq j)))))))] ++ (kd_th tq R))) (va_runVN (mc := 0) (ms := 0) (rm := { frames := 3, cells := 0, slots := 0, locals := 64 }) (C := RX7) (host := "KingdomAtDice") (As := [.int p0]) (rest := [.int 1, .ref od]) ⟨hx, hb, hml, hown, hts⟩ (c_X7_stakesFor l g H.size so sa sn T go th sm tq R p0 hT) ⟨va_cnB 1 hts gX10_back_X7_stakesFor_n183 rfl rfl rfl (kd_N hE 31 rfl) (hts (.initialized RX7) (by decide +kernel)) (by decide +kernel) ⟨Nat.le_of_ble_eq_true rfl, Nat.le_of_ble_eq_true rfl⟩, (hts (.instanceMethod yX7_stakesFor) (by decide +kernel)), (hts (.selects RX7 yX7_stakesFor yX7_stakesFor) (by decide +kernel))⟩ (kd_preV (wc := ([(so, .inr (7, [.ref sa, .ref sn, .int (nI T), .int go, .int (nI th), .int (nI sm)])), (sa, .inl (g.2.1 3, 6, .inr (.inr (.inr (.inr (fun j => some (tq j)))))))] ++ (kd_th tq R))) (va_recv hK hP (ci := 7) (q0 := 3) rfl rfl) hP hD hS hA hK hE [3, 4, 5, 6, 7, 8, 9, 10] rfl (by decide)) rfl rfl hl.1 rfl (lv_room (Nat.le_of_ble_eq_true rfl)) dX10_back_66 ⟨Nat.le_of_ble_eq_true rfl, Nat.le_of_ble_eq_true rfl⟩) hP hD hS hA [3, 4, 5, 6, 7, 8, 9, 10] rfl (fun r_66 _ H locs hw hP hS => ?_)
              obtain rfl : r_66 = nI (kd_sk T R p0 T) := hw
              refine kd_callLK (g := g) (wc := [(od, .inr (5, [.ref ow, .int wt])), (ow, .inl (g.2.1 0, 3, .inl wf))]) (va_runS (mc := 0) (ms := 0) (rm := { frames := 2, cells := 0, slots := 0, locals := 42 }) (As := [.ref od, .int 1, .int (nI (kd_sk T R p0 T))]) (rest := []) ⟨hx, hb, hml, hown, hts⟩ (c_waysBack_1 l g H.size od ow wf wt (kd_sk T R p0 T) (Nat.le_trans (kd_sk_le _) hT)) (va_cwS 3 hts gX10_back_X10_waysBack rfl rfl rfl (by decide +kernel) ⟨Nat.le_of_ble_eq_true rfl, Nat.le_of_ble_eq_true rfl⟩) (kd_preS (wc := [(od, .inr (5, [.ref ow, .int wt])), (ow, .inl (g.2.1 0, 3, .inl wf))]) (av := [.ref od, .int 1, .int (nI (kd_sk T R p0 T))]) hP hD hS hA hK hE [1, 2] rfl (by decide)) rfl rfl hl.1 rfl (lv_room (Nat.le_of_ble_eq_true rfl)) dX10_back_69 ⟨Nat.le_of_ble_eq_true rfl, Nat.le_of_ble_eq_true rfl⟩) hP hD hS hA [1, 2] rfl (fun r_69 _ H locs hw hP hS => ?_)
              subst hw
              refine lv_lstore (lv' := [(4, .long (sp_waysBack_1 wf wt (kd_sk T R p0 T))), (0, .ref x), (1, .int p0), (2, .int 1), (3, .int p2)]) hx hb dX10_back_72 hl (by decide) rfl (fun ls hl => ?_)
              refine lv_lload hx hb dX10_back_74 (lv_at hl 0 rfl) ?_
              refine lv_aload_n hx hb dX10_back_76 rfl (lv_at hl 1 rfl) ?_
              refine va_get (ci := 10) (v := .ref od) (C := RX10) (T := TX10) (N := 10) hx hb hts hiX10 hown hK hP (0) rfl rfl 2 (by decide) (hts (.fieldLink RX10 42 "KingdomAtDice" "odds" "LKingdomAtDice$Odds;") (by decide +kernel)) (fun _ h9 => h9) rfl dX10_back_77 ?_
              refine va_getN (ci := 5) (v := .int wt) (C := RX5) (T := TX5) (N := 2) hx hb hts hiX5 hown hK hP (1) rfl rfl 1 (by decide) (kd_Nb hE 48 rfl) (fun _ h9 => h9) rfl dX10_back_80 ?_
              refine lv_i2l hx hb dX10_back_83 rfl ?_
              refine lv_iload_n hx hb dX10_back_84 rfl (lv_at hl 3 rfl) ?_
              refine kd_callLK (g := g) (wc := []) (va_runS (mc := 0) (ms := 0) (rm := { frames := 0, cells := 0, slots := 0, locals := 0 }) (As := [.long wt.toInt64, .int 1]) (rest := [.long (sp_waysBack_1 wf wt (kd_sk T R p0 T))]) ⟨hx, hb, hml, hown, hts⟩ (c_X10_power l g H.size wt.toInt64 1 (by omega)) (va_cwS 2 hts gX10_back_X10_power rfl rfl rfl (by decide +kernel) ⟨Nat.le_of_ble_eq_true rfl, Nat.le_of_ble_eq_true rfl⟩) (kd_preS (wc := []) (av := [.long wt.toInt64, .int 1]) hP hD hS hA hK hE [] rfl (by decide)) rfl rfl hl.1 rfl (lv_room (Nat.le_of_ble_eq_true rfl)) dX10_back_85 ⟨Nat.le_of_ble_eq_true rfl, Nat.le_of_ble_eq_true rfl⟩) hP hD hS hA [] rfl (fun r_85 _ H locs hw hP hS => ?_)
              subst hw
              refine lv_iload_n hx hb dX10_back_88 rfl (lv_at hl 4 rfl) ?_
              refine kd_callLK (g := g) (wc := []) (va_runS (mc := 0) (ms := 0) (rm := { frames := 1, cells := 0, slots := 0, locals := 30 }) (As := [.long (sp_waysBack_1 wf wt (kd_sk T R p0 T)), .long (kd_pw wt.toInt64 1), .int p2]) (rest := []) ⟨hx, hb, hml, hown, hts⟩ (c_X10_lowestTerm l g H.size (sp_waysBack_1 wf wt (kd_sk T R p0 T)) (kd_pw wt.toInt64 1) p2 ) (va_cwS 3 hts gX10_back_X10_lowestTerm rfl rfl rfl (by decide +kernel) ⟨Nat.le_of_ble_eq_true rfl, Nat.le_of_ble_eq_true rfl⟩) (kd_preS (wc := []) (av := [.long (sp_waysBack_1 wf wt (kd_sk T R p0 T)), .long (kd_pw wt.toInt64 1), .int p2]) hP hD hS hA hK hE [] rfl (by decide)) rfl rfl hl.1 rfl (lv_room (Nat.le_of_ble_eq_true rfl)) dX10_back_89 ⟨Nat.le_of_ble_eq_true rfl, Nat.le_of_ble_eq_true rfl⟩) hP hD hS hA [] rfl (fun r_89 _ H locs hw hP hS => ?_)
              subst hw
              exact kd_lret hx hb hr hlocks hK hS dX10_back_92 (()) (by rw [sp_X10_back, if_neg c_8, if_neg c_17, if_neg c_22, if_neg c_30, if_pos c_49, if_pos (rfl : (1 : Int32) = 1)]) hP hD
            · by_cases e_57_2 : p1 = 2
              · subst e_57_2
                refine va_get (ci := 10) (v := .ref od) (C := RX10) (T := TX10) (N := 10) hx hb hts hiX10 hown hK hP (0) rfl rfl 2 (by decide) (hts (.fieldLink RX10 42 "KingdomAtDice" "odds" "LKingdomAtDice$Odds;") (by decide +kernel)) (fun _ h9 => h9) rfl dX10_back_57 ?_
                refine lv_iload_n hx hb dX10_back_60 rfl (lv_at hl 2 rfl) ?_
                refine lv_aload_n hx hb dX10_back_61 rfl (lv_at hl 0 rfl) ?_
                refine va_get (ci := 10) (v := .ref so) (C := RX10) (T := TX10) (N := 10) hx hb hts hiX10 hown hK hP (0) rfl rfl 4 (by decide) (hts (.fieldLink RX10 56 "KingdomAtDice" "now" "LKingdomAtDice$Standing;") (by decide +kernel)) (fun _ h9 => h9) rfl dX10_back_62 ?_
                refine lv_iload_n hx hb dX10_back_65 rfl (lv_at hl 1 rfl) ?_
                refine kd_callIK (g := g) (wc := ([(so, .inr (7, [.ref sa, .ref sn, .int (nI T), .int go, .int (nI th), .int (nI sm)])), (sa, .inl (g.2.1 3, 6, .inr (.inr (.inr (.inr (fun j => some (tq j)))))))] ++ (kd_th tq R))) (va_runVN (mc := 0) (ms := 0) (rm := { frames := 3, cells := 0, slots := 0, locals := 64 }) (C := RX7) (host := "KingdomAtDice") (As := [.int p0]) (rest := [.int 2, .ref od]) ⟨hx, hb, hml, hown, hts⟩ (c_X7_stakesFor l g H.size so sa sn T go th sm tq R p0 hT) ⟨va_cnB 1 hts gX10_back_X7_stakesFor_n183 rfl rfl rfl (kd_N hE 31 rfl) (hts (.initialized RX7) (by decide +kernel)) (by decide +kernel) ⟨Nat.le_of_ble_eq_true rfl, Nat.le_of_ble_eq_true rfl⟩, (hts (.instanceMethod yX7_stakesFor) (by decide +kernel)), (hts (.selects RX7 yX7_stakesFor yX7_stakesFor) (by decide +kernel))⟩ (kd_preV (wc := ([(so, .inr (7, [.ref sa, .ref sn, .int (nI T), .int go, .int (nI th), .int (nI sm)])), (sa, .inl (g.2.1 3, 6, .inr (.inr (.inr (.inr (fun j => some (tq j)))))))] ++ (kd_th tq R))) (va_recv hK hP (ci := 7) (q0 := 3) rfl rfl) hP hD hS hA hK hE [3, 4, 5, 6, 7, 8, 9, 10] rfl (by decide)) rfl rfl hl.1 rfl (lv_room (Nat.le_of_ble_eq_true rfl)) dX10_back_66 ⟨Nat.le_of_ble_eq_true rfl, Nat.le_of_ble_eq_true rfl⟩) hP hD hS hA [3, 4, 5, 6, 7, 8, 9, 10] rfl (fun r_66 _ H locs hw hP hS => ?_)
                obtain rfl : r_66 = nI (kd_sk T R p0 T) := hw
                refine kd_callLK (g := g) (wc := [(od, .inr (5, [.ref ow, .int wt])), (ow, .inl (g.2.1 0, 3, .inl wf))]) (va_runS (mc := 0) (ms := 0) (rm := { frames := 3, cells := 0, slots := 0, locals := 64 }) (As := [.ref od, .int 2, .int (nI (kd_sk T R p0 T))]) (rest := []) ⟨hx, hb, hml, hown, hts⟩ (c_waysBack_2 l g H.size od ow wf wt (kd_sk T R p0 T) (Nat.le_trans (kd_sk_le _) hT)) (va_cwS 3 hts gX10_back_X10_waysBack rfl rfl rfl (by decide +kernel) ⟨Nat.le_of_ble_eq_true rfl, Nat.le_of_ble_eq_true rfl⟩) (kd_preS (wc := [(od, .inr (5, [.ref ow, .int wt])), (ow, .inl (g.2.1 0, 3, .inl wf))]) (av := [.ref od, .int 2, .int (nI (kd_sk T R p0 T))]) hP hD hS hA hK hE [1, 2] rfl (by decide)) rfl rfl hl.1 rfl (lv_room (Nat.le_of_ble_eq_true rfl)) dX10_back_69 ⟨Nat.le_of_ble_eq_true rfl, Nat.le_of_ble_eq_true rfl⟩) hP hD hS hA [1, 2] rfl (fun r_69 _ H locs hw hP hS => ?_)
                subst hw
                refine lv_lstore (lv' := [(4, .long (sp_waysBack_2 wf wt (kd_sk T R p0 T))), (0, .ref x), (1, .int p0), (2, .int 2), (3, .int p2)]) hx hb dX10_back_72 hl (by decide) rfl (fun ls hl => ?_)
                refine lv_lload hx hb dX10_back_74 (lv_at hl 0 rfl) ?_
                refine lv_aload_n hx hb dX10_back_76 rfl (lv_at hl 1 rfl) ?_
                refine va_get (ci := 10) (v := .ref od) (C := RX10) (T := TX10) (N := 10) hx hb hts hiX10 hown hK hP (0) rfl rfl 2 (by decide) (hts (.fieldLink RX10 42 "KingdomAtDice" "odds" "LKingdomAtDice$Odds;") (by decide +kernel)) (fun _ h9 => h9) rfl dX10_back_77 ?_
                refine va_getN (ci := 5) (v := .int wt) (C := RX5) (T := TX5) (N := 2) hx hb hts hiX5 hown hK hP (1) rfl rfl 1 (by decide) (kd_Nb hE 48 rfl) (fun _ h9 => h9) rfl dX10_back_80 ?_
                refine lv_i2l hx hb dX10_back_83 rfl ?_
                refine lv_iload_n hx hb dX10_back_84 rfl (lv_at hl 3 rfl) ?_
                refine kd_callLK (g := g) (wc := []) (va_runS (mc := 0) (ms := 0) (rm := { frames := 0, cells := 0, slots := 0, locals := 0 }) (As := [.long wt.toInt64, .int 2]) (rest := [.long (sp_waysBack_2 wf wt (kd_sk T R p0 T))]) ⟨hx, hb, hml, hown, hts⟩ (c_X10_power l g H.size wt.toInt64 2 (by omega)) (va_cwS 2 hts gX10_back_X10_power rfl rfl rfl (by decide +kernel) ⟨Nat.le_of_ble_eq_true rfl, Nat.le_of_ble_eq_true rfl⟩) (kd_preS (wc := []) (av := [.long wt.toInt64, .int 2]) hP hD hS hA hK hE [] rfl (by decide)) rfl rfl hl.1 rfl (lv_room (Nat.le_of_ble_eq_true rfl)) dX10_back_85 ⟨Nat.le_of_ble_eq_true rfl, Nat.le_of_ble_eq_true rfl⟩) hP hD hS hA [] rfl (fun r_85 _ H locs hw hP hS => ?_)
                subst hw
                refine lv_iload_n hx hb dX10_back_88 rfl (lv_at hl 4 rfl) ?_
                refine kd_callLK (g := g) (wc := []) (va_runS (mc := 0) (ms := 0) (rm := { frames := 1, cells := 0, slots := 0, locals := 30 }) (As := [.long (sp_waysBack_2 wf wt (kd_sk T R p0 T)), .long (kd_pw wt.toInt64 2), .int p2]) (rest := []) ⟨hx, hb, hml, hown, hts⟩ (c_X10_lowestTerm l g H.size (sp_waysBack_2 wf wt (kd_sk T R p0 T)) (kd_pw wt.toInt64 2) p2 ) (va_cwS 3 hts gX10_back_X10_lowestTerm rfl rfl rfl (by decide +kernel) ⟨Nat.le_of_ble_eq_true rfl, Nat.le_of_ble_eq_true rfl⟩) (kd_preS (wc := []) (av := [.long (sp_waysBack_2 wf wt (kd_sk T R p0 T)), .long (kd_pw wt.toInt64 2), .int p2]) hP hD hS hA hK hE [] rfl (by decide)) rfl rfl hl.1 rfl (lv_room (Nat.le_of_ble_eq_true rfl)) dX10_back_89 ⟨Nat.le_of_ble_eq_true rfl, Nat.le_of_ble_eq_true rfl⟩) hP hD hS hA [] rfl (fun r_89 _ H locs hw hP hS => ?_)
                subst hw
                exact kd_lret hx hb hr hlocks hK hS dX10_back_92 (()) (by rw [sp_X10_back, if_neg c_8, if_neg c_17, if_neg c_22, if_neg c_30, if_pos c_49, if_neg e_57_1, if_pos (rfl : (2 : Int32) = 2)]) hP hD
              · by_cases e_57_3 : p1 = 3
                · subst e_57_3
                  refine va_get (ci := 10) (v := .ref od) (C := RX10) (T := TX10) (N := 10) hx hb hts hiX10 hown hK hP (0) rfl rfl 2 (by decide) (hts (.fieldLink RX10 42 "KingdomAtDice" "odds" "LKingdomAtDice$Odds;") (by decide +kernel)) (fun _ h9 => h9) rfl dX10_back_57 ?_
                  refine lv_iload_n hx hb dX10_back_60 rfl (lv_at hl 2 rfl) ?_
                  refine lv_aload_n hx hb dX10_back_61 rfl (lv_at hl 0 rfl) ?_
                  refine va_get (ci := 10) (v := .ref so) (C := RX10) (T := TX10) (N := 10) hx hb hts hiX10 hown hK hP (0) rfl rfl 4 (by decide) (hts (.fieldLink RX10 56 "KingdomAtDice" "now" "LKingdomAtDice$Standing;") (by decide +kernel)) (fun _ h9 => h9) rfl dX10_back_62 ?_
                  refine lv_iload_n hx hb dX10_back_65 rfl (lv_at hl 1 rfl) ?_
                  refine kd_callIK (g := g) (wc := ([(so, .inr (7, [.ref sa, .ref sn, .int (nI T), .int go, .int (nI th), .int (nI sm)])), (sa, .inl (g.2.1 3, 6, .inr (.inr (.inr (.inr (fun j => some (tq j)))))))] ++ (kd_th tq R))) (va_runVN (mc := 0) (ms := 0) (rm := { frames := 3, cells := 0, slots := 0, locals := 64 }) (C := RX7) (host := "KingdomAtDice") (As := [.int p0]) (rest := [.int 3, .ref od]) ⟨hx, hb, hml, hown, hts⟩ (c_X7_stakesFor l g H.size so sa sn T go th sm tq R p0 hT) ⟨va_cnB 1 hts gX10_back_X7_stakesFor_n183 rfl rfl rfl (kd_N hE 31 rfl) (hts (.initialized RX7) (by decide +kernel)) (by decide +kernel) ⟨Nat.le_of_ble_eq_true rfl, Nat.le_of_ble_eq_true rfl⟩, (hts (.instanceMethod yX7_stakesFor) (by decide +kernel)), (hts (.selects RX7 yX7_stakesFor yX7_stakesFor) (by decide +kernel))⟩ (kd_preV (wc := ([(so, .inr (7, [.ref sa, .ref sn, .int (nI T), .int go, .int (nI th), .int (nI sm)])), (sa, .inl (g.2.1 3, 6, .inr (.inr (.inr (.inr (fun j => some (tq j)))))))] ++ (kd_th tq R))) (va_recv hK hP (ci := 7) (q0 := 3) rfl rfl) hP hD hS hA hK hE [3, 4, 5, 6, 7, 8, 9, 10] rfl (by decide)) rfl rfl hl.1 rfl (lv_room (Nat.le_of_ble_eq_true rfl)) dX10_back_66 ⟨Nat.le_of_ble_eq_true rfl, Nat.le_of_ble_eq_true rfl⟩) hP hD hS hA [3, 4, 5, 6, 7, 8, 9, 10] rfl (fun r_66 _ H locs hw hP hS => ?_)
                  obtain rfl : r_66 = nI (kd_sk T R p0 T) := hw
                  refine kd_callLK (g := g) (wc := [(od, .inr (5, [.ref ow, .int wt])), (ow, .inl (g.2.1 0, 3, .inl wf))]) (va_runS (mc := 0) (ms := 0) (rm := { frames := 4, cells := 0, slots := 0, locals := 86 }) (As := [.ref od, .int 3, .int (nI (kd_sk T R p0 T))]) (rest := []) ⟨hx, hb, hml, hown, hts⟩ (c_waysBack_3 l g H.size od ow wf wt (kd_sk T R p0 T) (Nat.le_trans (kd_sk_le _) hT)) (va_cwS 3 hts gX10_back_X10_waysBack rfl rfl rfl (by decide +kernel) ⟨Nat.le_of_ble_eq_true rfl, Nat.le_of_ble_eq_true rfl⟩) (kd_preS (wc := [(od, .inr (5, [.ref ow, .int wt])), (ow, .inl (g.2.1 0, 3, .inl wf))]) (av := [.ref od, .int 3, .int (nI (kd_sk T R p0 T))]) hP hD hS hA hK hE [1, 2] rfl (by decide)) rfl rfl hl.1 rfl (lv_room (Nat.le_of_ble_eq_true rfl)) dX10_back_69 ⟨Nat.le_of_ble_eq_true rfl, Nat.le_of_ble_eq_true rfl⟩) hP hD hS hA [1, 2] rfl (fun r_69 _ H locs hw hP hS => ?_)
                  subst hw
                  refine lv_lstore (lv' := [(4, .long (sp_waysBack_3 wf wt (kd_sk T R p0 T))), (0, .ref x), (1, .int p0), (2, .int 3), (3, .int p2)]) hx hb dX10_back_72 hl (by decide) rfl (fun ls hl => ?_)
                  refine lv_lload hx hb dX10_back_74 (lv_at hl 0 rfl) ?_
                  refine lv_aload_n hx hb dX10_back_76 rfl (lv_at hl 1 rfl) ?_
                  refine va_get (ci := 10) (v := .ref od) (C := RX10) (T := TX10) (N := 10) hx hb hts hiX10 hown hK hP (0) rfl rfl 2 (by decide) (hts (.fieldLink RX10 42 "KingdomAtDice" "odds" "LKingdomAtDice$Odds;") (by decide +kernel)) (fun _ h9 => h9) rfl dX10_back_77 ?_
                  refine va_getN (ci := 5) (v := .int wt) (C := RX5) (T := TX5) (N := 2) hx hb hts hiX5 hown hK hP (1) rfl rfl 1 (by decide) (kd_Nb hE 48 rfl) (fun _ h9 => h9) rfl dX10_back_80 ?_
                  refine lv_i2l hx hb dX10_back_83 rfl ?_
                  refine lv_iload_n hx hb dX10_back_84 rfl (lv_at hl 3 rfl) ?_
                  refine kd_callLK (g := g) (wc := []) (va_runS (mc := 0) (ms := 0) (rm := { frames := 0, cells := 0, slots := 0, locals := 0 }) (As := [.long wt.toInt64, .int 3]) (rest := [.long (sp_waysBack_3 wf wt (kd_sk T R p0 T))]) ⟨hx, hb, hml, hown, hts⟩ (c_X10_power l g H.size wt.toInt64 3 (by omega)) (va_cwS 2 hts gX10_back_X10_power rfl rfl rfl (by decide +kernel) ⟨Nat.le_of_ble_eq_true rfl, Nat.le_of_ble_eq_true rfl⟩) (kd_preS (wc := []) (av := [.long wt.toInt64, .int 3]) hP hD hS hA hK hE [] rfl (by decide)) rfl rfl hl.1 rfl (lv_room (Nat.le_of_ble_eq_true rfl)) dX10_back_85 ⟨Nat.le_of_ble_eq_true rfl, Nat.le_of_ble_eq_true rfl⟩) hP hD hS hA [] rfl (fun r_85 _ H locs hw hP hS => ?_)
                  subst hw
                  refine lv_iload_n hx hb dX10_back_88 rfl (lv_at hl 4 rfl) ?_
                  refine kd_callLK (g := g) (wc := []) (va_runS (mc := 0) (ms := 0) (rm := { frames := 1, cells := 0, slots := 0, locals := 30 }) (As := [.long (sp_waysBack_3 wf wt (kd_sk T R p0 T)), .long (kd_pw wt.toInt64 3), .int p2]) (rest := []) ⟨hx, hb, hml, hown, hts⟩ (c_X10_lowestTerm l g H.size (sp_waysBack_3 wf wt (kd_sk T R p0 T)) (kd_pw wt.toInt64 3) p2 ) (va_cwS 3 hts gX10_back_X10_lowestTerm rfl rfl rfl (by decide +kernel) ⟨Nat.le_of_ble_eq_true rfl, Nat.le_of_ble_eq_true rfl⟩) (kd_preS (wc := []) (av := [.long (sp_waysBack_3 wf wt (kd_sk T R p0 T)), .long (kd_pw wt.toInt64 3), .int p2]) hP hD hS hA hK hE [] rfl (by decide)) rfl rfl hl.1 rfl (lv_room (Nat.le_of_ble_eq_true rfl)) dX10_back_89 ⟨Nat.le_of_ble_eq_true rfl, Nat.le_of_ble_eq_true rfl⟩) hP hD hS hA [] rfl (fun r_89 _ H locs hw hP hS => ?_)
                  subst hw
                  exact kd_lret hx hb hr hlocks hK hS dX10_back_92 (()) (by rw [sp_X10_back, if_neg c_8, if_neg c_17, if_neg c_22, if_neg c_30, if_pos c_49, if_neg e_57_1, if_neg e_57_2, if_pos (rfl : (3 : Int32) = 3)]) hP hD
                · by_cases e_57_4 : p1 = 4
                  · subst e_57_4
                    refine va_get (ci := 10) (v := .ref od) (C := RX10) (T := TX10) (N := 10) hx hb hts hiX10 hown hK hP (0) rfl rfl 2 (by decide) (hts (.fieldLink RX10 42 "KingdomAtDice" "odds" "LKingdomAtDice$Odds;") (by decide +kernel)) (fun _ h9 => h9) rfl dX10_back_57 ?_
                    refine lv_iload_n hx hb dX10_back_60 rfl (lv_at hl 2 rfl) ?_
                    refine lv_aload_n hx hb dX10_back_61 rfl (lv_at hl 0 rfl) ?_
                    refine va_get (ci := 10) (v := .ref so) (C := RX10) (T := TX10) (N := 10) hx hb hts hiX10 hown hK hP (0) rfl rfl 4 (by decide) (hts (.fieldLink RX10 56 "KingdomAtDice" "now" "LKingdomAtDice$Standing;") (by decide +kernel)) (fun _ h9 => h9) rfl dX10_back_62 ?_
                    refine lv_iload_n hx hb dX10_back_65 rfl (lv_at hl 1 rfl) ?_
                    refine kd_callIK (g := g) (wc := ([(so, .inr (7, [.ref sa, .ref sn, .int (nI T), .int go, .int (nI th), .int (nI sm)])), (sa, .inl (g.2.1 3, 6, .inr (.inr (.inr (.inr (fun j => some (tq j)))))))] ++ (kd_th tq R))) (va_runVN (mc := 0) (ms := 0) (rm := { frames := 3, cells := 0, slots := 0, locals := 64 }) (C := RX7) (host := "KingdomAtDice") (As := [.int p0]) (rest := [.int 4, .ref od]) ⟨hx, hb, hml, hown, hts⟩ (c_X7_stakesFor l g H.size so sa sn T go th sm tq R p0 hT) ⟨va_cnB 1 hts gX10_back_X7_stakesFor_n183 rfl rfl rfl (kd_N hE 31 rfl) (hts (.initialized RX7) (by decide +kernel)) (by decide +kernel) ⟨Nat.le_of_ble_eq_true rfl, Nat.le_of_ble_eq_true rfl⟩, (hts (.instanceMethod yX7_stakesFor) (by decide +kernel)), (hts (.selects RX7 yX7_stakesFor yX7_stakesFor) (by decide +kernel))⟩ (kd_preV (wc := ([(so, .inr (7, [.ref sa, .ref sn, .int (nI T), .int go, .int (nI th), .int (nI sm)])), (sa, .inl (g.2.1 3, 6, .inr (.inr (.inr (.inr (fun j => some (tq j)))))))] ++ (kd_th tq R))) (va_recv hK hP (ci := 7) (q0 := 3) rfl rfl) hP hD hS hA hK hE [3, 4, 5, 6, 7, 8, 9, 10] rfl (by decide)) rfl rfl hl.1 rfl (lv_room (Nat.le_of_ble_eq_true rfl)) dX10_back_66 ⟨Nat.le_of_ble_eq_true rfl, Nat.le_of_ble_eq_true rfl⟩) hP hD hS hA [3, 4, 5, 6, 7, 8, 9, 10] rfl (fun r_66 _ H locs hw hP hS => ?_)
                    obtain rfl : r_66 = nI (kd_sk T R p0 T) := hw
                    refine kd_callLK (g := g) (wc := [(od, .inr (5, [.ref ow, .int wt])), (ow, .inl (g.2.1 0, 3, .inl wf))]) (va_runS (mc := 0) (ms := 0) (rm := { frames := 5, cells := 0, slots := 0, locals := 108 }) (As := [.ref od, .int 4, .int (nI (kd_sk T R p0 T))]) (rest := []) ⟨hx, hb, hml, hown, hts⟩ (c_waysBack_4 l g H.size od ow wf wt (kd_sk T R p0 T) (Nat.le_trans (kd_sk_le _) hT)) (va_cwS 3 hts gX10_back_X10_waysBack rfl rfl rfl (by decide +kernel) ⟨Nat.le_of_ble_eq_true rfl, Nat.le_of_ble_eq_true rfl⟩) (kd_preS (wc := [(od, .inr (5, [.ref ow, .int wt])), (ow, .inl (g.2.1 0, 3, .inl wf))]) (av := [.ref od, .int 4, .int (nI (kd_sk T R p0 T))]) hP hD hS hA hK hE [1, 2] rfl (by decide)) rfl rfl hl.1 rfl (lv_room (Nat.le_of_ble_eq_true rfl)) dX10_back_69 ⟨Nat.le_of_ble_eq_true rfl, Nat.le_of_ble_eq_true rfl⟩) hP hD hS hA [1, 2] rfl (fun r_69 _ H locs hw hP hS => ?_)
                    subst hw
                    refine lv_lstore (lv' := [(4, .long (sp_waysBack_4 wf wt (kd_sk T R p0 T))), (0, .ref x), (1, .int p0), (2, .int 4), (3, .int p2)]) hx hb dX10_back_72 hl (by decide) rfl (fun ls hl => ?_)
                    refine lv_lload hx hb dX10_back_74 (lv_at hl 0 rfl) ?_
                    refine lv_aload_n hx hb dX10_back_76 rfl (lv_at hl 1 rfl) ?_
                    refine va_get (ci := 10) (v := .ref od) (C := RX10) (T := TX10) (N := 10) hx hb hts hiX10 hown hK hP (0) rfl rfl 2 (by decide) (hts (.fieldLink RX10 42 "KingdomAtDice" "odds" "LKingdomAtDice$Odds;") (by decide +kernel)) (fun _ h9 => h9) rfl dX10_back_77 ?_
                    refine va_getN (ci := 5) (v := .int wt) (C := RX5) (T := TX5) (N := 2) hx hb hts hiX5 hown hK hP (1) rfl rfl 1 (by decide) (kd_Nb hE 48 rfl) (fun _ h9 => h9) rfl dX10_back_80 ?_
                    refine lv_i2l hx hb dX10_back_83 rfl ?_
                    refine lv_iload_n hx hb dX10_back_84 rfl (lv_at hl 3 rfl) ?_
                    refine kd_callLK (g := g) (wc := []) (va_runS (mc := 0) (ms := 0) (rm := { frames := 0, cells := 0, slots := 0, locals := 0 }) (As := [.long wt.toInt64, .int 4]) (rest := [.long (sp_waysBack_4 wf wt (kd_sk T R p0 T))]) ⟨hx, hb, hml, hown, hts⟩ (c_X10_power l g H.size wt.toInt64 4 (by omega)) (va_cwS 2 hts gX10_back_X10_power rfl rfl rfl (by decide +kernel) ⟨Nat.le_of_ble_eq_true rfl, Nat.le_of_ble_eq_true rfl⟩) (kd_preS (wc := []) (av := [.long wt.toInt64, .int 4]) hP hD hS hA hK hE [] rfl (by decide)) rfl rfl hl.1 rfl (lv_room (Nat.le_of_ble_eq_true rfl)) dX10_back_85 ⟨Nat.le_of_ble_eq_true rfl, Nat.le_of_ble_eq_true rfl⟩) hP hD hS hA [] rfl (fun r_85 _ H locs hw hP hS => ?_)
                    subst hw
                    refine lv_iload_n hx hb dX10_back_88 rfl (lv_at hl 4 rfl) ?_
                    refine kd_callLK (g := g) (wc := []) (va_runS (mc := 0) (ms := 0) (rm := { frames := 1, cells := 0, slots := 0, locals := 30 }) (As := [.long (sp_waysBack_4 wf wt (kd_sk T R p0 T)), .long (kd_pw wt.toInt64 4), .int p2]) (rest := []) ⟨hx, hb, hml, hown, hts⟩ (c_X10_lowestTerm l g H.size (sp_waysBack_4 wf wt (kd_sk T R p0 T)) (kd_pw wt.toInt64 4) p2 ) (va_cwS 3 hts gX10_back_X10_lowestTerm rfl rfl rfl (by decide +kernel) ⟨Nat.le_of_ble_eq_true rfl, Nat.le_of_ble_eq_true rfl⟩) (kd_preS (wc := []) (av := [.long (sp_waysBack_4 wf wt (kd_sk T R p0 T)), .long (kd_pw wt.toInt64 4), .int p2]) hP hD hS hA hK hE [] rfl (by decide)) rfl rfl hl.1 rfl (lv_room (Nat.le_of_ble_eq_true rfl)) dX10_back_89 ⟨Nat.le_of_ble_eq_true rfl, Nat.le_of_ble_eq_true rfl⟩) hP hD hS hA [] rfl (fun r_89 _ H locs hw hP hS => ?_)
                    subst hw
                    exact kd_lret hx hb hr hlocks hK hS dX10_back_92 (()) (by rw [sp_X10_back, if_neg c_8, if_neg c_17, if_neg c_22, if_neg c_30, if_pos c_49, if_neg e_57_1, if_neg e_57_2, if_neg e_57_3, if_pos (rfl : (4 : Int32) = 4)]) hP hD
                  · by_cases e_57_5 : p1 = 5
                    · subst e_57_5
                      refine va_get (ci := 10) (v := .ref od) (C := RX10) (T := TX10) (N := 10) hx hb hts hiX10 hown hK hP (0) rfl rfl 2 (by decide) (hts (.fieldLink RX10 42 "KingdomAtDice" "odds" "LKingdomAtDice$Odds;") (by decide +kernel)) (fun _ h9 => h9) rfl dX10_back_57 ?_
                      refine lv_iload_n hx hb dX10_back_60 rfl (lv_at hl 2 rfl) ?_
                      refine lv_aload_n hx hb dX10_back_61 rfl (lv_at hl 0 rfl) ?_
                      refine va_get (ci := 10) (v := .ref so) (C := RX10) (T := TX10) (N := 10) hx hb hts hiX10 hown hK hP (0) rfl rfl 4 (by decide) (hts (.fieldLink RX10 56 "KingdomAtDice" "now" "LKingdomAtDice$Standing;") (by decide +kernel)) (fun _ h9 => h9) rfl dX10_back_62 ?_
                      refine lv_iload_n hx hb dX10_back_65 rfl (lv_at hl 1 rfl) ?_
                      refine kd_callIK (g := g) (wc := ([(so, .inr (7, [.ref sa, .ref sn, .int (nI T), .int go, .int (nI th), .int (nI sm)])), (sa, .inl (g.2.1 3, 6, .inr (.inr (.inr (.inr (fun j => some (tq j)))))))] ++ (kd_th tq R))) (va_runVN (mc := 0) (ms := 0) (rm := { frames := 3, cells := 0, slots := 0, locals := 64 }) (C := RX7) (host := "KingdomAtDice") (As := [.int p0]) (rest := [.int 5, .ref od]) ⟨hx, hb, hml, hown, hts⟩ (c_X7_stakesFor l g H.size so sa sn T go th sm tq R p0 hT) ⟨va_cnB 1 hts gX10_back_X7_stakesFor_n183 rfl rfl rfl (kd_N hE 31 rfl) (hts (.initialized RX7) (by decide +kernel)) (by decide +kernel) ⟨Nat.le_of_ble_eq_true rfl, Nat.le_of_ble_eq_true rfl⟩, (hts (.instanceMethod yX7_stakesFor) (by decide +kernel)), (hts (.selects RX7 yX7_stakesFor yX7_stakesFor) (by decide +kernel))⟩ (kd_preV (wc := ([(so, .inr (7, [.ref sa, .ref sn, .int (nI T), .int go, .int (nI th), .int (nI sm)])), (sa, .inl (g.2.1 3, 6, .inr (.inr (.inr (.inr (fun j => some (tq j)))))))] ++ (kd_th tq R))) (va_recv hK hP (ci := 7) (q0 := 3) rfl rfl) hP hD hS hA hK hE [3, 4, 5, 6, 7, 8, 9, 10] rfl (by decide)) rfl rfl hl.1 rfl (lv_room (Nat.le_of_ble_eq_true rfl)) dX10_back_66 ⟨Nat.le_of_ble_eq_true rfl, Nat.le_of_ble_eq_true rfl⟩) hP hD hS hA [3, 4, 5, 6, 7, 8, 9, 10] rfl (fun r_66 _ H locs hw hP hS => ?_)
                      obtain rfl : r_66 = nI (kd_sk T R p0 T) := hw
                      refine kd_callLK (g := g) (wc := [(od, .inr (5, [.ref ow, .int wt])), (ow, .inl (g.2.1 0, 3, .inl wf))]) (va_runS (mc := 0) (ms := 0) (rm := { frames := 6, cells := 0, slots := 0, locals := 130 }) (As := [.ref od, .int 5, .int (nI (kd_sk T R p0 T))]) (rest := []) ⟨hx, hb, hml, hown, hts⟩ (c_waysBack_5 l g H.size od ow wf wt (kd_sk T R p0 T) (Nat.le_trans (kd_sk_le _) hT)) (va_cwS 3 hts gX10_back_X10_waysBack rfl rfl rfl (by decide +kernel) ⟨Nat.le_of_ble_eq_true rfl, Nat.le_of_ble_eq_true rfl⟩) (kd_preS (wc := [(od, .inr (5, [.ref ow, .int wt])), (ow, .inl (g.2.1 0, 3, .inl wf))]) (av := [.ref od, .int 5, .int (nI (kd_sk T R p0 T))]) hP hD hS hA hK hE [1, 2] rfl (by decide)) rfl rfl hl.1 rfl (lv_room (Nat.le_of_ble_eq_true rfl)) dX10_back_69 ⟨Nat.le_of_ble_eq_true rfl, Nat.le_of_ble_eq_true rfl⟩) hP hD hS hA [1, 2] rfl (fun r_69 _ H locs hw hP hS => ?_)
                      subst hw
                      refine lv_lstore (lv' := [(4, .long (sp_waysBack_5 wf wt (kd_sk T R p0 T))), (0, .ref x), (1, .int p0), (2, .int 5), (3, .int p2)]) hx hb dX10_back_72 hl (by decide) rfl (fun ls hl => ?_)
                      refine lv_lload hx hb dX10_back_74 (lv_at hl 0 rfl) ?_
                      refine lv_aload_n hx hb dX10_back_76 rfl (lv_at hl 1 rfl) ?_
                      refine va_get (ci := 10) (v := .ref od) (C := RX10) (T := TX10) (N := 10) hx hb hts hiX10 hown hK hP (0) rfl rfl 2 (by decide) (hts (.fieldLink RX10 42 "KingdomAtDice" "odds" "LKingdomAtDice$Odds;") (by decide +kernel)) (fun _ h9 => h9) rfl dX10_back_77 ?_
                      refine va_getN (ci := 5) (v := .int wt) (C := RX5) (T := TX5) (N := 2) hx hb hts hiX5 hown hK hP (1) rfl rfl 1 (by decide) (kd_Nb hE 48 rfl) (fun _ h9 => h9) rfl dX10_back_80 ?_
                      refine lv_i2l hx hb dX10_back_83 rfl ?_
                      refine lv_iload_n hx hb dX10_back_84 rfl (lv_at hl 3 rfl) ?_
                      refine kd_callLK (g := g) (wc := []) (va_runS (mc := 0) (ms := 0) (rm := { frames := 0, cells := 0, slots := 0, locals := 0 }) (As := [.long wt.toInt64, .int 5]) (rest := [.long (sp_waysBack_5 wf wt (kd_sk T R p0 T))]) ⟨hx, hb, hml, hown, hts⟩ (c_X10_power l g H.size wt.toInt64 5 (by omega)) (va_cwS 2 hts gX10_back_X10_power rfl rfl rfl (by decide +kernel) ⟨Nat.le_of_ble_eq_true rfl, Nat.le_of_ble_eq_true rfl⟩) (kd_preS (wc := []) (av := [.long wt.toInt64, .int 5]) hP hD hS hA hK hE [] rfl (by decide)) rfl rfl hl.1 rfl (lv_room (Nat.le_of_ble_eq_true rfl)) dX10_back_85 ⟨Nat.le_of_ble_eq_true rfl, Nat.le_of_ble_eq_true rfl⟩) hP hD hS hA [] rfl (fun r_85 _ H locs hw hP hS => ?_)
                      subst hw
                      refine lv_iload_n hx hb dX10_back_88 rfl (lv_at hl 4 rfl) ?_
                      refine kd_callLK (g := g) (wc := []) (va_runS (mc := 0) (ms := 0) (rm := { frames := 1, cells := 0, slots := 0, locals := 30 }) (As := [.long (sp_waysBack_5 wf wt (kd_sk T R p0 T)), .long (kd_pw wt.toInt64 5), .int p2]) (rest := []) ⟨hx, hb, hml, hown, hts⟩ (c_X10_lowestTerm l g H.size (sp_waysBack_5 wf wt (kd_sk T R p0 T)) (kd_pw wt.toInt64 5) p2 ) (va_cwS 3 hts gX10_back_X10_lowestTerm rfl rfl rfl (by decide +kernel) ⟨Nat.le_of_ble_eq_true rfl, Nat.le_of_ble_eq_true rfl⟩) (kd_preS (wc := []) (av := [.long (sp_waysBack_5 wf wt (kd_sk T R p0 T)), .long (kd_pw wt.toInt64 5), .int p2]) hP hD hS hA hK hE [] rfl (by decide)) rfl rfl hl.1 rfl (lv_room (Nat.le_of_ble_eq_true rfl)) dX10_back_89 ⟨Nat.le_of_ble_eq_true rfl, Nat.le_of_ble_eq_true rfl⟩) hP hD hS hA [] rfl (fun r_89 _ H locs hw hP hS => ?_)
                      subst hw
                      exact kd_lret hx hb hr hlocks hK hS dX10_back_92 (()) (by rw [sp_X10_back, if_neg c_8, if_neg c_17, if_neg c_22, if_neg c_30, if_pos c_49, if_neg e_57_1, if_neg e_57_2, if_neg e_57_3, if_neg e_57_4, if_pos (rfl : (5 : Int32) = 5)]) hP hD
                    · exact absurd trivial (fun _ => kd_15 c_17 c_22 e_57_1 e_57_2 e_57_3 e_57_4 e_57_5)
          · refine lv_ldc2 (v := (-103)) hx hb hown (hts (.constantLong RX10 181 (-103)) (by decide +kernel)) dX10_back_52 ?_
            exact kd_lret hx hb hr hlocks hK hS dX10_back_55 (()) (by rw [sp_X10_back, if_neg c_8, if_neg c_17, if_neg c_22, if_neg c_30, if_neg c_49]) hP hD
        · refine lv_ldc2 (v := (-102)) hx hb hown (hts (.constantLong RX10 176 (-102)) (by decide +kernel)) dX10_back_33 ?_
          exact kd_lret hx hb hr hlocks hK hS dX10_back_36 (()) (by rw [sp_X10_back, if_neg c_8, if_neg c_17, if_neg c_22, if_pos c_30]) hP hD
  · refine lv_ldc2 (v := (-101)) hx hb hown (hts (.constantLong RX10 174 (-101)) (by decide +kernel)) dX10_back_11 ?_
    exact kd_lret hx hb hr hlocks hK hS dX10_back_14 (()) (by rw [sp_X10_back, if_pos c_8]) hP hD
/-- what KingdomAtDice.laws answers and leaves, by its instructions -/
def sp_X10_laws (T : Nat) (R : Nat → Nat → Int32) (p0 : Int32) (p1 : Int32) : Int32 :=
  if (sp_X10_isBelow p0 4) = 0 then
    (-102)
  else
    if (sp_X10_isBelow p1 2) = 0 then
      (-102)
    else
      if (sp_X7_hasHall T) = 0 then
        (-103)
      else
        if p1 = 0 then
          kd_kb R p0 T
        else
          kd_wo R (kd_kb R p0 T) T
set_option maxHeartbeats 4000000 in
set_option maxRecDepth 100000 in
theorem c_X10_laws (l : Launch) (g : kd_G) (sz : Nat) (x : Nat) (pg : Nat) (ka : Nat) (od : Nat) (dr : Nat) (so : Nat) (so2 : Nat) (dq : Nat → Nat) (k0 : Nat) (k1 : Nat) (ik : Int32) (nh : Nat) (sa : Nat) (sn : Nat) (T : Nat) (go : Int32) (th : Nat) (sm : Nat) (tq : Nat → Nat) (R : Nat → Nat → Int32) (p0 : Int32) (p1 : Int32) (hT : T ≤ 6) : kd_MI l yX10_laws wsX10_laws ({ frames := 3, cells := 0, slots := 0, locals := 64 }) [.ref x, .int p0, .int p1] g ([(x, .inr (10, [.ref pg, .ref ka, .ref od, .ref dr, .ref so, .ref so2, .ref (dq k0), .ref (dq k1), .int ik, .int (nI nh)])), (so, .inr (7, [.ref sa, .ref sn, .int (nI T), .int go, .int (nI th), .int (nI sm)])), (sa, .inl (g.2.1 3, 6, .inr (.inr (.inr (.inr (fun j => some (tq j)))))))] ++ (kd_th tq R)) sz (fun r (_ : Unit) => r = sp_X10_laws T R p0 p1) (fun _ => ([(x, .inr (10, [.ref pg, .ref ka, .ref od, .ref dr, .ref so, .ref so2, .ref (dq k0), .ref (dq k1), .int ik, .int (nI nh)])), (so, .inr (7, [.ref sa, .ref sn, .int (nI T), .int go, .int (nI th), .int (nI sm)])), (sa, .inl (g.2.1 3, 6, .inr (.inr (.inr (.inr (fun j => some (tq j)))))))] ++ (kd_th tq R))) 0 0 := by
  refine kd_met (l := l) (y := yX10_laws) (ws := wsX10_laws) (rm := { frames := 3, cells := 0, slots := 0, locals := 64 }) (av := [.ref x, .int p0, .int p1]) (g := g) (WS := ([(x, .inr (10, [.ref pg, .ref ka, .ref od, .ref dr, .ref so, .ref so2, .ref (dq k0), .ref (dq k1), .int ik, .int (nI nh)])), (so, .inr (7, [.ref sa, .ref sn, .int (nI T), .int go, .int (nI th), .int (nI sm)])), (sa, .inl (g.2.1 3, 6, .inr (.inr (.inr (.inr (fun j => some (tq j)))))))] ++ (kd_th tq R))) (sz := sz) (mc := 0) (ms := 0) (cc := cX10_laws) (maxL := 4) (ret := (some .int)) (own := RX10) (fun A => va_Qi (fun r (_ : Unit) => r = sp_X10_laws T R p0 p1) (fun u t => kd_post g A ([(x, .inr (10, [.ref pg, .ref ka, .ref od, .ref dr, .ref so, .ref so2, .ref (dq k0), .ref (dq k1), .int ik, .int (nI nh)])), (so, .inr (7, [.ref sa, .ref sn, .int (nI T), .int go, .int (nI th), .int (nI sm)])), (sa, .inl (g.2.1 3, 6, .inr (.inr (.inr (.inr (fun j => some (tq j)))))))] ++ (kd_th tq R)) t) A) (by decide) rfl rfl (Nat.le_of_ble_eq_true rfl) ?_
  intro p e s m below meth c A ls hx hb hr hml hts hown hlocks hnm hA hP hK hD hS hE hl
  have hl : lv_has ls 4 [(0, .ref x), (1, .int p0), (2, .int p1)] := hl
  have hiX10 : ∀ w ∈ u_ws RX10 TX10 10, w ∈ wsX10_laws := by decide +kernel
  refine lv_iload_n hx hb dX10_laws_0 rfl (lv_at hl 1 rfl) ?_
  refine lv_iconst (v := 4) hx hb dX10_laws_1 (by decide) ?_
  refine kd_callIK (g := g) (wc := []) (va_runS (mc := 0) (ms := 0) (rm := { frames := 0, cells := 0, slots := 0, locals := 0 }) (As := [.int p0, .int 4]) (rest := []) ⟨hx, hb, hml, hown, hts⟩ (c_X10_isBelow l g s.heap.size p0 4 ) (va_cwS 2 hts gX10_laws_X10_isBelow rfl rfl rfl (by decide +kernel) ⟨Nat.le_of_ble_eq_true rfl, Nat.le_of_ble_eq_true rfl⟩) (kd_preS (wc := []) (av := [.int p0, .int 4]) hP hD hS hA hK hE [] rfl (by decide)) rfl rfl hl.1 rfl (lv_room (Nat.le_of_ble_eq_true rfl)) dX10_laws_2 ⟨Nat.le_of_ble_eq_true rfl, Nat.le_of_ble_eq_true rfl⟩) hP hD hS hA [] rfl (fun r_2 _ H locs hw hP hS => ?_)
  subst hw
  refine lv_if_eq (tgt := 16) hx hb dX10_laws_5 (by decide) (fun c_5 => ?_) (fun c_5 => ?_)
  · refine lv_bipush (v := (-102)) hx hb dX10_laws_16 (by decide) ?_
    exact kd_iret hx hb hr hlocks hK hS dX10_laws_18 (()) (by rw [sp_X10_laws, if_pos c_5]) hP hD
  · refine lv_iload_n hx hb dX10_laws_8 rfl (lv_at hl 2 rfl) ?_
    refine lv_iconst (v := 2) hx hb dX10_laws_9 (by decide) ?_
    refine kd_callIK (g := g) (wc := []) (va_runS (mc := 0) (ms := 0) (rm := { frames := 0, cells := 0, slots := 0, locals := 0 }) (As := [.int p1, .int 2]) (rest := []) ⟨hx, hb, hml, hown, hts⟩ (c_X10_isBelow l g H.size p1 2 ) (va_cwS 2 hts gX10_laws_X10_isBelow rfl rfl rfl (by decide +kernel) ⟨Nat.le_of_ble_eq_true rfl, Nat.le_of_ble_eq_true rfl⟩) (kd_preS (wc := []) (av := [.int p1, .int 2]) hP hD hS hA hK hE [] rfl (by decide)) rfl rfl hl.1 rfl (lv_room (Nat.le_of_ble_eq_true rfl)) dX10_laws_10 ⟨Nat.le_of_ble_eq_true rfl, Nat.le_of_ble_eq_true rfl⟩) hP hD hS hA [] rfl (fun r_10 _ H locs hw hP hS => ?_)
    subst hw
    refine lv_if_ne (tgt := 19) hx hb dX10_laws_13 (by decide) (fun c_13 => ?_) (fun c_13 => ?_)
    · refine lv_aload_n hx hb dX10_laws_19 rfl (lv_at hl 0 rfl) ?_
      refine va_get (ci := 10) (v := .ref so) (C := RX10) (T := TX10) (N := 10) hx hb hts hiX10 hown hK hP (0) rfl rfl 4 (by decide) (hts (.fieldLink RX10 56 "KingdomAtDice" "now" "LKingdomAtDice$Standing;") (by decide +kernel)) (fun _ h9 => h9) rfl dX10_laws_20 ?_
      refine kd_callIK (g := g) (wc := [(so, .inr (7, [.ref sa, .ref sn, .int (nI T), .int go, .int (nI th), .int (nI sm)]))]) (va_runVN (mc := 0) (ms := 0) (rm := { frames := 0, cells := 0, slots := 0, locals := 0 }) (C := RX7) (host := "KingdomAtDice") (As := []) (rest := []) ⟨hx, hb, hml, hown, hts⟩ (c_X7_hasHall l g H.size so sa sn T go th sm hT) ⟨va_cnB 0 hts gX10_laws_X7_hasHall_n161 rfl rfl rfl (kd_N hE 24 rfl) (hts (.initialized RX7) (by decide +kernel)) (by decide +kernel) ⟨Nat.le_of_ble_eq_true rfl, Nat.le_of_ble_eq_true rfl⟩, (hts (.instanceMethod yX7_hasHall) (by decide +kernel)), (hts (.selects RX7 yX7_hasHall yX7_hasHall) (by decide +kernel))⟩ (kd_preV (wc := [(so, .inr (7, [.ref sa, .ref sn, .int (nI T), .int go, .int (nI th), .int (nI sm)]))]) (va_recv hK hP (ci := 7) (q0 := 1) rfl rfl) hP hD hS hA hK hE [1] rfl (by decide)) rfl rfl hl.1 rfl (lv_room (Nat.le_of_ble_eq_true rfl)) dX10_laws_23 ⟨Nat.le_of_ble_eq_true rfl, Nat.le_of_ble_eq_true rfl⟩) hP hD hS hA [1] rfl (fun r_23 _ H locs hw hP hS => ?_)
      subst hw
      refine lv_if_ne (tgt := 32) hx hb dX10_laws_26 (by decide) (fun c_26 => ?_) (fun c_26 => ?_)
      · refine lv_aload_n hx hb dX10_laws_32 rfl (lv_at hl 0 rfl) ?_
        refine va_get (ci := 10) (v := .ref so) (C := RX10) (T := TX10) (N := 10) hx hb hts hiX10 hown hK hP (0) rfl rfl 4 (by decide) (hts (.fieldLink RX10 56 "KingdomAtDice" "now" "LKingdomAtDice$Standing;") (by decide +kernel)) (fun _ h9 => h9) rfl dX10_laws_33 ?_
        refine lv_iload_n hx hb dX10_laws_36 rfl (lv_at hl 1 rfl) ?_
        refine kd_callIK (g := g) (wc := ([(so, .inr (7, [.ref sa, .ref sn, .int (nI T), .int go, .int (nI th), .int (nI sm)])), (sa, .inl (g.2.1 3, 6, .inr (.inr (.inr (.inr (fun j => some (tq j)))))))] ++ (kd_th tq R))) (va_runVN (mc := 0) (ms := 0) (rm := { frames := 2, cells := 0, slots := 0, locals := 41 }) (C := RX7) (host := "KingdomAtDice") (As := [.int p0]) (rest := []) ⟨hx, hb, hml, hown, hts⟩ (c_X7_kingsBy l g H.size so sa sn T go th sm tq R p0 hT) ⟨va_cnB 1 hts gX10_laws_X7_kingsBy_n194 rfl rfl rfl (kd_N hE 32 rfl) (hts (.initialized RX7) (by decide +kernel)) (by decide +kernel) ⟨Nat.le_of_ble_eq_true rfl, Nat.le_of_ble_eq_true rfl⟩, (hts (.instanceMethod yX7_kingsBy) (by decide +kernel)), (hts (.selects RX7 yX7_kingsBy yX7_kingsBy) (by decide +kernel))⟩ (kd_preV (wc := ([(so, .inr (7, [.ref sa, .ref sn, .int (nI T), .int go, .int (nI th), .int (nI sm)])), (sa, .inl (g.2.1 3, 6, .inr (.inr (.inr (.inr (fun j => some (tq j)))))))] ++ (kd_th tq R))) (va_recv hK hP (ci := 7) (q0 := 1) rfl rfl) hP hD hS hA hK hE [1, 2, 3, 4, 5, 6, 7, 8] rfl (by decide)) rfl rfl hl.1 rfl (lv_room (Nat.le_of_ble_eq_true rfl)) dX10_laws_37 ⟨Nat.le_of_ble_eq_true rfl, Nat.le_of_ble_eq_true rfl⟩) hP hD hS hA [1, 2, 3, 4, 5, 6, 7, 8] rfl (fun r_37 _ H locs hw hP hS => ?_)
        subst hw
        refine lv_istore_n (lv' := [(3, .int (kd_kb R p0 T)), (0, .ref x), (1, .int p0), (2, .int p1)]) hx hb dX10_laws_40 rfl hl (by decide) rfl (fun ls hl => ?_)
        refine lv_iload_n hx hb dX10_laws_41 rfl (lv_at hl 3 rfl) ?_
        refine lv_if_ne (tgt := 49) hx hb dX10_laws_42 (by decide) (fun c_42 => ?_) (fun c_42 => ?_)
        · refine lv_aload_n hx hb dX10_laws_49 rfl (lv_at hl 1 rfl) ?_
          refine va_get (ci := 10) (v := .ref so) (C := RX10) (T := TX10) (N := 10) hx hb hts hiX10 hown hK hP (0) rfl rfl 4 (by decide) (hts (.fieldLink RX10 56 "KingdomAtDice" "now" "LKingdomAtDice$Standing;") (by decide +kernel)) (fun _ h9 => h9) rfl dX10_laws_50 ?_
          refine lv_iload_n hx hb dX10_laws_53 rfl (lv_at hl 0 rfl) ?_
          refine kd_callIK (g := g) (wc := ([(so, .inr (7, [.ref sa, .ref sn, .int (nI T), .int go, .int (nI th), .int (nI sm)])), (sa, .inl (g.2.1 3, 6, .inr (.inr (.inr (.inr (fun j => some (tq j)))))))] ++ (kd_th tq R))) (va_runVN (mc := 0) (ms := 0) (rm := { frames := 0, cells := 0, slots := 0, locals := 0 }) (C := RX7) (host := "KingdomAtDice") (As := [.int (kd_kb R p0 T)]) (rest := []) ⟨hx, hb, hml, hown, hts⟩ (c_X7_worthOf l g H.size so sa sn T go th sm tq R (kd_kb R p0 T) hT) ⟨va_cnB 1 hts gX10_laws_X7_worthOf_n197 rfl rfl rfl (kd_N hE 34 rfl) (hts (.initialized RX7) (by decide +kernel)) (by decide +kernel) ⟨Nat.le_of_ble_eq_true rfl, Nat.le_of_ble_eq_true rfl⟩, (hts (.instanceMethod yX7_worthOf) (by decide +kernel)), (hts (.selects RX7 yX7_worthOf yX7_worthOf) (by decide +kernel))⟩ (kd_preV (wc := ([(so, .inr (7, [.ref sa, .ref sn, .int (nI T), .int go, .int (nI th), .int (nI sm)])), (sa, .inl (g.2.1 3, 6, .inr (.inr (.inr (.inr (fun j => some (tq j)))))))] ++ (kd_th tq R))) (va_recv hK hP (ci := 7) (q0 := 1) rfl rfl) hP hD hS hA hK hE [1, 2, 3, 4, 5, 6, 7, 8] rfl (by decide)) rfl rfl hl.1 rfl (lv_room (Nat.le_of_ble_eq_true rfl)) dX10_laws_54 ⟨Nat.le_of_ble_eq_true rfl, Nat.le_of_ble_eq_true rfl⟩) hP hD hS hA [1, 2, 3, 4, 5, 6, 7, 8] rfl (fun r_54 _ H locs hw hP hS => ?_)
          subst hw
          exact kd_iret hx hb hr hlocks hK hS dX10_laws_57 (()) (by rw [sp_X10_laws, if_neg c_5, if_neg c_13, if_neg c_26, if_neg c_42]) hP hD
        · refine lv_iload_n hx hb dX10_laws_45 rfl (lv_at hl 0 rfl) ?_
          refine lv_goto (tgt := 57) hx hb dX10_laws_46 (by decide) ?_
          exact kd_iret hx hb hr hlocks hK hS dX10_laws_57 (()) (by rw [sp_X10_laws, if_neg c_5, if_neg c_13, if_neg c_26, if_pos c_42]) hP hD
      · refine lv_bipush (v := (-103)) hx hb dX10_laws_29 (by decide) ?_
        exact kd_iret hx hb hr hlocks hK hS dX10_laws_31 (()) (by rw [sp_X10_laws, if_neg c_5, if_neg c_13, if_pos c_26]) hP hD
    · refine lv_bipush (v := (-102)) hx hb dX10_laws_16 (by decide) ?_
      exact kd_iret hx hb hr hlocks hK hS dX10_laws_18 (()) (by rw [sp_X10_laws, if_neg c_5, if_pos c_13]) hP hD
/-- what KingdomAtDice.see answers and leaves, by its instructions -/
def sp_X10_see (sm : Nat) (sf : Nat → Int32) (p0 : Int32) : Int32 × Nat × (Nat → Int32) :=
  if (sp_X10_isSum p0) = 0 then
    ((-102), sm, sf)
  else
    if (nI sm) < 8 then
      (((sp_X7_addSeen sm sf p0).1), ((sp_X7_addSeen sm sf p0).2.1), ((sp_X7_addSeen sm sf p0).2.2))
    else
      ((-104), sm, sf)
set_option maxHeartbeats 4000000 in
set_option maxRecDepth 100000 in
theorem c_X10_see (l : Launch) (g : kd_G) (sz : Nat) (x : Nat) (pg : Nat) (ka : Nat) (od : Nat) (dr : Nat) (so : Nat) (so2 : Nat) (dq : Nat → Nat) (k0 : Nat) (k1 : Nat) (ik : Int32) (nh : Nat) (sa : Nat) (sn : Nat) (T : Nat) (go : Int32) (th : Nat) (sm : Nat) (sf : Nat → Int32) (p0 : Int32) (hT : T ≤ 6) (hsm : sm ≤ 8) : kd_MI l yX10_see wsX10_see ({ frames := 2, cells := 0, slots := 0, locals := 42 }) [.ref x, .int p0] g [(x, .inr (10, [.ref pg, .ref ka, .ref od, .ref dr, .ref so, .ref so2, .ref (dq k0), .ref (dq k1), .int ik, .int (nI nh)])), (so, .inr (7, [.ref sa, .ref sn, .int (nI T), .int go, .int (nI th), .int (nI sm)])), (sn, .inl (g.2.1 0, 8, .inl sf))] sz (fun r (u : Nat × (Nat → Int32)) => (r, u) = sp_X10_see sm sf p0) (fun u => [(x, .inr (10, [.ref pg, .ref ka, .ref od, .ref dr, .ref so, .ref so2, .ref (dq k0), .ref (dq k1), .int ik, .int (nI nh)])), (so, .inr (7, [.ref sa, .ref sn, .int (nI T), .int go, .int (nI th), .int (nI u.1)])), (sn, .inl (g.2.1 0, 8, .inl u.2))]) 0 0 := by
  refine kd_met (l := l) (y := yX10_see) (ws := wsX10_see) (rm := { frames := 2, cells := 0, slots := 0, locals := 42 }) (av := [.ref x, .int p0]) (g := g) (WS := [(x, .inr (10, [.ref pg, .ref ka, .ref od, .ref dr, .ref so, .ref so2, .ref (dq k0), .ref (dq k1), .int ik, .int (nI nh)])), (so, .inr (7, [.ref sa, .ref sn, .int (nI T), .int go, .int (nI th), .int (nI sm)])), (sn, .inl (g.2.1 0, 8, .inl sf))]) (sz := sz) (mc := 0) (ms := 0) (cc := cX10_see) (maxL := 2) (ret := (some .int)) (own := RX10) (fun A => va_Qi (fun r (u : Nat × (Nat → Int32)) => (r, u) = sp_X10_see sm sf p0) (fun u t => kd_post g A [(x, .inr (10, [.ref pg, .ref ka, .ref od, .ref dr, .ref so, .ref so2, .ref (dq k0), .ref (dq k1), .int ik, .int (nI nh)])), (so, .inr (7, [.ref sa, .ref sn, .int (nI T), .int go, .int (nI th), .int (nI u.1)])), (sn, .inl (g.2.1 0, 8, .inl u.2))] t) A) (by decide) rfl rfl (Nat.le_of_ble_eq_true rfl) ?_
  intro p e s m below meth c A ls hx hb hr hml hts hown hlocks hnm hA hP hK hD hS hE hl
  have hl : lv_has ls 2 [(0, .ref x), (1, .int p0)] := hl
  have hiX7 : ∀ w ∈ u_ws RX7 TX7 6, w ∈ wsX10_see := by decide +kernel
  have hiX10 : ∀ w ∈ u_ws RX10 TX10 10, w ∈ wsX10_see := by decide +kernel
  refine lv_iload_n hx hb dX10_see_0 rfl (lv_at hl 1 rfl) ?_
  refine kd_callIK (g := g) (wc := []) (va_runS (mc := 0) (ms := 0) (rm := { frames := 0, cells := 0, slots := 0, locals := 0 }) (As := [.int p0]) (rest := []) ⟨hx, hb, hml, hown, hts⟩ (c_X10_isSum l g s.heap.size p0 ) (va_cwS 1 hts gX10_see_X10_isSum rfl rfl rfl (by decide +kernel) ⟨Nat.le_of_ble_eq_true rfl, Nat.le_of_ble_eq_true rfl⟩) (kd_preS (wc := []) (av := [.int p0]) hP hD hS hA hK hE [] rfl (by decide)) rfl rfl hl.1 rfl (lv_room (Nat.le_of_ble_eq_true rfl)) dX10_see_1 ⟨Nat.le_of_ble_eq_true rfl, Nat.le_of_ble_eq_true rfl⟩) hP hD hS hA [] rfl (fun r_1 _ H locs hw hP hS => ?_)
  subst hw
  refine lv_if_ne (tgt := 10) hx hb dX10_see_4 (by decide) (fun c_4 => ?_) (fun c_4 => ?_)
  · refine lv_aload_n hx hb dX10_see_10 rfl (lv_at hl 0 rfl) ?_
    refine va_get (ci := 10) (v := .ref so) (C := RX10) (T := TX10) (N := 10) hx hb hts hiX10 hown hK hP (0) rfl rfl 4 (by decide) (hts (.fieldLink RX10 56 "KingdomAtDice" "now" "LKingdomAtDice$Standing;") (by decide +kernel)) (fun _ h9 => h9) rfl dX10_see_11 ?_
    refine va_getN (ci := 7) (v := .int (nI sm)) (C := RX7) (T := TX7) (N := 6) hx hb hts hiX7 hown hK hP (1) rfl rfl 5 (by decide) (kd_Nb hE 57 rfl) (fun _ h9 => h9) rfl dX10_see_14 ?_
    refine lv_bipush (v := 8) hx hb dX10_see_17 (by decide) ?_
    refine lv_icmp_lt (tgt := 27) hx hb dX10_see_19 (by decide) (fun c_19 => ?_) (fun c_19 => ?_)
    · have n_19 : sm < 8 := kd_cl (a := sm) (b := 8) (by omega) (by omega) c_19
      refine lv_aload_n hx hb dX10_see_27 rfl (lv_at hl 0 rfl) ?_
      refine va_get (ci := 10) (v := .ref so) (C := RX10) (T := TX10) (N := 10) hx hb hts hiX10 hown hK hP (0) rfl rfl 4 (by decide) (hts (.fieldLink RX10 56 "KingdomAtDice" "now" "LKingdomAtDice$Standing;") (by decide +kernel)) (fun _ h9 => h9) rfl dX10_see_28 ?_
      refine lv_iload_n hx hb dX10_see_31 rfl (lv_at hl 1 rfl) ?_
      refine kd_callIM (Wf := fun (u : Nat × (Nat → Int32)) => [(so, .inr (7, [.ref sa, .ref sn, .int (nI T), .int go, .int (nI th), .int (nI u.1)])), (sn, .inl (g.2.1 0, 8, .inl u.2))]) (g := g) (wc := [(so, .inr (7, [.ref sa, .ref sn, .int (nI T), .int go, .int (nI th), .int (nI sm)])), (sn, .inl (g.2.1 0, 8, .inl sf))]) (va_runVN (mc := 0) (ms := 0) (rm := { frames := 1, cells := 0, slots := 0, locals := 21 }) (C := RX7) (host := "KingdomAtDice") (As := [.int p0]) (rest := []) ⟨hx, hb, hml, hown, hts⟩ (c_X7_addSeen l g H.size so sa sn T go th sm sf p0 hT hsm) ⟨va_cnB 1 hts gX10_see_X7_addSeen_n203 rfl rfl rfl (kd_N hE 35 rfl) (hts (.initialized RX7) (by decide +kernel)) (by decide +kernel) ⟨Nat.le_of_ble_eq_true rfl, Nat.le_of_ble_eq_true rfl⟩, (hts (.instanceMethod yX7_addSeen) (by decide +kernel)), (hts (.selects RX7 yX7_addSeen yX7_addSeen) (by decide +kernel))⟩ (kd_preV (wc := [(so, .inr (7, [.ref sa, .ref sn, .int (nI T), .int go, .int (nI th), .int (nI sm)])), (sn, .inl (g.2.1 0, 8, .inl sf))]) (va_recv hK hP (ci := 7) (q0 := 1) rfl rfl) hP hD hS hA hK hE [1, 2] rfl (by decide)) rfl rfl hl.1 rfl (lv_room (Nat.le_of_ble_eq_true rfl)) dX10_see_32 ⟨Nat.le_of_ble_eq_true rfl, Nat.le_of_ble_eq_true rfl⟩) hP hD hS hA [1, 2] rfl (by decide) (fun _ => rfl) (fun r_32 u_32 H locs hw_32 hP hD hS => ?_)
      obtain ⟨sm_32, sf_32⟩ := u_32
      have hP : va_P g.1 vwCl [(x, .inr (10, [.ref pg, .ref ka, .ref od, .ref dr, .ref so, .ref so2, .ref (dq k0), .ref (dq k1), .int ik, .int (nI nh)])), (so, .inr (7, [.ref sa, .ref sn, .int (nI T), .int go, .int (nI th), .int (nI sm_32)])), (sn, .inl (g.2.1 0, 8, .inl sf_32))] H := hP
      have hD : va_D A [(x, .inr (10, [.ref pg, .ref ka, .ref od, .ref dr, .ref so, .ref so2, .ref (dq k0), .ref (dq k1), .int ik, .int (nI nh)])), (so, .inr (7, [.ref sa, .ref sn, .int (nI T), .int go, .int (nI th), .int (nI sm_32)])), (sn, .inl (g.2.1 0, 8, .inl sf_32))] := hD
      obtain ⟨rfl, rfl, rfl⟩ := kd_eq3 hw_32
      exact kd_iret hx hb hr hlocks hK hS dX10_see_35 ((((sp_X7_addSeen sm sf p0).2.1), ((sp_X7_addSeen sm sf p0).2.2))) (by rw [sp_X10_see, if_neg c_4, if_pos c_19]) hP hD
    · have n_19 : 8 ≤ sm := kd_cnl (a := sm) (b := 8) (by omega) (by omega) c_19
      refine lv_bipush (v := (-104)) hx hb dX10_see_22 (by decide) ?_
      refine lv_goto (tgt := 35) hx hb dX10_see_24 (by decide) ?_
      exact kd_iret hx hb hr hlocks hK hS dX10_see_35 ((sm, sf)) (by rw [sp_X10_see, if_neg c_4, if_neg c_19]) hP hD
  · refine lv_bipush (v := (-102)) hx hb dX10_see_7 (by decide) ?_
    exact kd_iret hx hb hr hlocks hK hS dX10_see_9 ((sm, sf)) (by rw [sp_X10_see, if_pos c_4]) hP hD
/-- what KingdomAtDice.forget answers and leaves, by its instructions -/
def sp_X10_forget (sm : Nat) : Int32 × Nat :=
  (((sp_X7_clearSeen sm).1), ((sp_X7_clearSeen sm).2))
set_option maxHeartbeats 4000000 in
set_option maxRecDepth 100000 in
theorem c_X10_forget (l : Launch) (g : kd_G) (sz : Nat) (x : Nat) (pg : Nat) (ka : Nat) (od : Nat) (dr : Nat) (so : Nat) (so2 : Nat) (dq : Nat → Nat) (k0 : Nat) (k1 : Nat) (ik : Int32) (nh : Nat) (sa : Nat) (sn : Nat) (T : Nat) (go : Int32) (th : Nat) (sm : Nat) (hT : T ≤ 6) : kd_MI l yX10_forget wsX10_forget ({ frames := 1, cells := 0, slots := 0, locals := 21 }) [.ref x] g [(x, .inr (10, [.ref pg, .ref ka, .ref od, .ref dr, .ref so, .ref so2, .ref (dq k0), .ref (dq k1), .int ik, .int (nI nh)])), (so, .inr (7, [.ref sa, .ref sn, .int (nI T), .int go, .int (nI th), .int (nI sm)]))] sz (fun r (u : Nat) => (r, u) = sp_X10_forget sm) (fun u => [(x, .inr (10, [.ref pg, .ref ka, .ref od, .ref dr, .ref so, .ref so2, .ref (dq k0), .ref (dq k1), .int ik, .int (nI nh)])), (so, .inr (7, [.ref sa, .ref sn, .int (nI T), .int go, .int (nI th), .int (nI u)]))]) 0 0 := by
  refine kd_met (l := l) (y := yX10_forget) (ws := wsX10_forget) (rm := { frames := 1, cells := 0, slots := 0, locals := 21 }) (av := [.ref x]) (g := g) (WS := [(x, .inr (10, [.ref pg, .ref ka, .ref od, .ref dr, .ref so, .ref so2, .ref (dq k0), .ref (dq k1), .int ik, .int (nI nh)])), (so, .inr (7, [.ref sa, .ref sn, .int (nI T), .int go, .int (nI th), .int (nI sm)]))]) (sz := sz) (mc := 0) (ms := 0) (cc := cX10_forget) (maxL := 1) (ret := (some .int)) (own := RX10) (fun A => va_Qi (fun r (u : Nat) => (r, u) = sp_X10_forget sm) (fun u t => kd_post g A [(x, .inr (10, [.ref pg, .ref ka, .ref od, .ref dr, .ref so, .ref so2, .ref (dq k0), .ref (dq k1), .int ik, .int (nI nh)])), (so, .inr (7, [.ref sa, .ref sn, .int (nI T), .int go, .int (nI th), .int (nI u)]))] t) A) (by decide) rfl rfl (Nat.le_of_ble_eq_true rfl) ?_
  intro p e s m below meth c A ls hx hb hr hml hts hown hlocks hnm hA hP hK hD hS hE hl
  have hl : lv_has ls 1 [(0, .ref x)] := hl
  have hiX10 : ∀ w ∈ u_ws RX10 TX10 10, w ∈ wsX10_forget := by decide +kernel
  refine lv_aload_n hx hb dX10_forget_0 rfl (lv_at hl 0 rfl) ?_
  refine va_get (ci := 10) (v := .ref so) (C := RX10) (T := TX10) (N := 10) hx hb hts hiX10 hown hK hP (0) rfl rfl 4 (by decide) (hts (.fieldLink RX10 56 "KingdomAtDice" "now" "LKingdomAtDice$Standing;") (by decide +kernel)) (fun _ h9 => h9) rfl dX10_forget_1 ?_
  refine kd_callIM (Wf := fun (u : Nat) => [(so, .inr (7, [.ref sa, .ref sn, .int (nI T), .int go, .int (nI th), .int (nI u)]))]) (g := g) (wc := [(so, .inr (7, [.ref sa, .ref sn, .int (nI T), .int go, .int (nI th), .int (nI sm)]))]) (va_runVN (mc := 0) (ms := 0) (rm := { frames := 0, cells := 0, slots := 0, locals := 0 }) (C := RX7) (host := "KingdomAtDice") (As := []) (rest := []) ⟨hx, hb, hml, hown, hts⟩ (c_X7_clearSeen l g s.heap.size so sa sn T go th sm hT) ⟨va_cnB 0 hts gX10_forget_X7_clearSeen_n206 rfl rfl rfl (kd_N hE 36 rfl) (hts (.initialized RX7) (by decide +kernel)) (by decide +kernel) ⟨Nat.le_of_ble_eq_true rfl, Nat.le_of_ble_eq_true rfl⟩, (hts (.instanceMethod yX7_clearSeen) (by decide +kernel)), (hts (.selects RX7 yX7_clearSeen yX7_clearSeen) (by decide +kernel))⟩ (kd_preV (wc := [(so, .inr (7, [.ref sa, .ref sn, .int (nI T), .int go, .int (nI th), .int (nI sm)]))]) (va_recv hK hP (ci := 7) (q0 := 1) rfl rfl) hP hD hS hA hK hE [1] rfl (by decide)) rfl rfl hl.1 rfl (lv_room (Nat.le_of_ble_eq_true rfl)) dX10_forget_4 ⟨Nat.le_of_ble_eq_true rfl, Nat.le_of_ble_eq_true rfl⟩) hP hD hS hA [1] rfl (by decide) (fun _ => rfl) (fun r_4 u_4 H locs hw_4 hP hD hS => ?_)
  obtain ⟨sm_4, rfl⟩ : ∃ z, z = u_4 := ⟨_, rfl⟩
  have hP : va_P g.1 vwCl [(x, .inr (10, [.ref pg, .ref ka, .ref od, .ref dr, .ref so, .ref so2, .ref (dq k0), .ref (dq k1), .int ik, .int (nI nh)])), (so, .inr (7, [.ref sa, .ref sn, .int (nI T), .int go, .int (nI th), .int (nI sm_4)]))] H := hP
  have hD : va_D A [(x, .inr (10, [.ref pg, .ref ka, .ref od, .ref dr, .ref so, .ref so2, .ref (dq k0), .ref (dq k1), .int ik, .int (nI nh)])), (so, .inr (7, [.ref sa, .ref sn, .int (nI T), .int go, .int (nI th), .int (nI sm_4)]))] := hD
  obtain ⟨rfl, rfl⟩ := kd_eq2 hw_4
  exact kd_iret hx hb hr hlocks hK hS dX10_forget_7 (((sp_X7_clearSeen sm).2)) (rfl) hP hD
/-- of which of the first i kinds the seen sums can be, as bits -/
def kd_wh (sf : Nat → Int32) (sm : Nat) : Nat → Int32
  | 0 => 0
  | i + 1 => if (lg_cmp (kd_ws i sf sm) 0) ≤ 0 then kd_wh sf sm i else kd_wh sf sm i ||| ((1 : Int32) <<< ((nI i) &&& 31))
/-- the likeliest of the first i kinds -/
def kd_lk (sf : Nat → Int32) (sm : Nat) : Nat → Int32 × Int64 × Int64
  | 0 => (-1, 0, 1)
  | i + 1 => if (lg_cmp ((kd_ws i sf sm) * (kd_lk sf sm i).2.2) ((kd_lk sf sm i).2.1 * (kd_pw ((kd_wm i).toInt64) sm))) ≤ 0 then kd_lk sf sm i else (nI i, kd_ws i sf sm, kd_pw ((kd_wm i).toInt64) sm)
set_option maxHeartbeats 4000000 in
set_option maxRecDepth 100000 in
theorem c_X10_which (l : Launch) (g : kd_G) (sz : Nat) (x : Nat) (pg : Nat) (ka : Nat) (od : Nat) (dr : Nat) (so : Nat) (so2 : Nat) (dq : Nat → Nat) (k0 : Nat) (k1 : Nat) (ik : Int32) (nh : Nat) (sa : Nat) (sn : Nat) (T : Nat) (go : Int32) (th : Nat) (sm : Nat) (sf : Nat → Int32) (hT : T ≤ 6) (hsm : sm ≤ 8) : kd_MI l yX10_which wsX10_which ({ frames := 3, cells := 0, slots := 0, locals := 68 }) [.ref x] g ([(x, .inr (10, [.ref pg, .ref ka, .ref od, .ref dr, .ref so, .ref so2, .ref (dq k0), .ref (dq k1), .int ik, .int (nI nh)])), (ka, .inl (g.2.1 2, 5, .inr (.inr (.inr (.inr (fun j => some (dq j)))))))] ++ (kd_dc dq ++ [(so, .inr (7, [.ref sa, .ref sn, .int (nI T), .int go, .int (nI th), .int (nI sm)])), (sn, .inl (g.2.1 0, 8, .inl sf))])) sz (fun r (_ : Unit) => r = kd_wh sf sm 5) (fun _ => ([(x, .inr (10, [.ref pg, .ref ka, .ref od, .ref dr, .ref so, .ref so2, .ref (dq k0), .ref (dq k1), .int ik, .int (nI nh)])), (ka, .inl (g.2.1 2, 5, .inr (.inr (.inr (.inr (fun j => some (dq j)))))))] ++ (kd_dc dq ++ [(so, .inr (7, [.ref sa, .ref sn, .int (nI T), .int go, .int (nI th), .int (nI sm)])), (sn, .inl (g.2.1 0, 8, .inl sf))]))) 0 0 := by
  refine kd_met (l := l) (y := yX10_which) (ws := wsX10_which) (rm := { frames := 3, cells := 0, slots := 0, locals := 68 }) (av := [.ref x]) (g := g) (WS := ([(x, .inr (10, [.ref pg, .ref ka, .ref od, .ref dr, .ref so, .ref so2, .ref (dq k0), .ref (dq k1), .int ik, .int (nI nh)])), (ka, .inl (g.2.1 2, 5, .inr (.inr (.inr (.inr (fun j => some (dq j)))))))] ++ (kd_dc dq ++ [(so, .inr (7, [.ref sa, .ref sn, .int (nI T), .int go, .int (nI th), .int (nI sm)])), (sn, .inl (g.2.1 0, 8, .inl sf))]))) (sz := sz) (mc := 0) (ms := 0) (cc := cX10_which) (maxL := 3) (ret := (some .int)) (own := RX10) (fun A => va_Qi (fun r (_ : Unit) => r = kd_wh sf sm 5) (fun u t => kd_post g A ([(x, .inr (10, [.ref pg, .ref ka, .ref od, .ref dr, .ref so, .ref so2, .ref (dq k0), .ref (dq k1), .int ik, .int (nI nh)])), (ka, .inl (g.2.1 2, 5, .inr (.inr (.inr (.inr (fun j => some (dq j)))))))] ++ (kd_dc dq ++ [(so, .inr (7, [.ref sa, .ref sn, .int (nI T), .int go, .int (nI th), .int (nI sm)])), (sn, .inl (g.2.1 0, 8, .inl sf))])) t) A) (by decide) rfl rfl (Nat.le_of_ble_eq_true rfl) ?_
  intro p e s m below meth c A ls hx hb hr hml hts hown hlocks hnm hA hP hK hD hS hE hl
  have hl : lv_has ls 3 [(0, .ref x)] := hl
  have hiX10 : ∀ w ∈ u_ws RX10 TX10 10, w ∈ wsX10_which := by decide +kernel
  refine lv_iconst (v := 0) hx hb dX10_which_0 (by decide) ?_
  refine lv_istore_n (lv' := [(1, .int 0), (0, .ref x)]) hx hb dX10_which_1 rfl hl (by decide) rfl (fun ls hl => ?_)
  refine lv_iconst (v := 0) hx hb dX10_which_2 (by decide) ?_
  refine lv_istore_n (lv' := [(2, .int 0), (1, .int 0), (0, .ref x)]) hx hb dX10_which_3 rfl hl (by decide) rfl (fun ls hl => ?_)
  have loop_4 : ∀ (n_4 : Nat) (i : Nat) (a : Int32), (i ≤ 5) → (a = kd_wh sf sm i) → (5 - i) < n_4 → ∀ (H : Heap) (locs : List Loc), va_P g.1 vwCl ([(x, .inr (10, [.ref pg, .ref ka, .ref od, .ref dr, .ref so, .ref so2, .ref (dq k0), .ref (dq k1), .int ik, .int (nI nh)])), (ka, .inl (g.2.1 2, 5, .inr (.inr (.inr (.inr (fun j => some (dq j)))))))] ++ (kd_dc dq ++ [(so, .inr (7, [.ref sa, .ref sn, .int (nI T), .int go, .int (nI th), .int (nI sm)])), (sn, .inl (g.2.1 0, 8, .inl sf))])) H → va_D A ([(x, .inr (10, [.ref pg, .ref ka, .ref od, .ref dr, .ref so, .ref so2, .ref (dq k0), .ref (dq k1), .int ik, .int (nI nh)])), (ka, .inl (g.2.1 2, 5, .inr (.inr (.inr (.inr (fun j => some (dq j)))))))] ++ (kd_dc dq ++ [(so, .inr (7, [.ref sa, .ref sn, .int (nI T), .int go, .int (nI th), .int (nI sm)])), (sn, .inl (g.2.1 0, 8, .inl sf))])) → va_S A s.heap H locs → ∀ (ls : Array Slot), lv_has ls 3 [(0, .ref x), (1, .int a), (2, .int (nI i))] → W p l e ({ frames := 3, cells := 0, slots := 0, locals := 68 } : Room) s m ([.ref x] : List Value).toArray below meth c H locs 0 0 (MQ below (va_Qi (fun r (_ : Unit) => r = kd_wh sf sm 5) (fun u t => kd_post g A ([(x, .inr (10, [.ref pg, .ref ka, .ref od, .ref dr, .ref so, .ref so2, .ref (dq k0), .ref (dq k1), .int ik, .int (nI nh)])), (ka, .inl (g.2.1 2, 5, .inr (.inr (.inr (.inr (fun j => some (dq j)))))))] ++ (kd_dc dq ++ [(so, .inr (7, [.ref sa, .ref sn, .int (nI T), .int go, .int (nI th), .int (nI sm)])), (sn, .inl (g.2.1 0, 8, .inl sf))])) t) A) ([.ref x] : List Value).toArray s 0 0 A) (F0 m 4 ls []) := by
    intro n_4
    induction n_4 with
    | zero => intro i a _ _ hm_4; exact absurd hm_4 (Nat.not_lt_zero _)
    | succ n_4 ih_4 =>
      intro i a hi ha hm_4 H locs hP hD hS ls hl
      refine lv_iload_n hx hb dX10_which_4 rfl (lv_at hl 2 rfl) ?_
      refine lv_aload_n hx hb dX10_which_5 rfl (lv_at hl 0 rfl) ?_
      refine va_get (ci := 10) (v := .ref ka) (C := RX10) (T := TX10) (N := 10) hx hb hts hiX10 hown hK hP (0) rfl rfl 1 (by decide) (hts (.fieldLink RX10 35 "KingdomAtDice" "kinds" "[LKingdomAtDice$Dice;") (by decide +kernel)) (fun _ h9 => h9) rfl dX10_which_6 ?_
      refine va_alen hx hb hK hP 1 2 rfl rfl (v := 5) rfl dX10_which_9 ?_
      refine lv_icmp_ge (tgt := 43) hx hb dX10_which_10 (by decide) (fun c_10 => ?_) (fun c_10 => ?_)
      · have n_10 : 5 ≤ i := kd_ce (a := 5) (b := i) (by omega) (by omega) c_10
        refine lv_iload_n hx hb dX10_which_43 rfl (lv_at hl 1 rfl) ?_
        exact kd_iret hx hb hr hlocks hK hS dX10_which_44 (()) (by rw [ha, show i = 5 by omega]) hP hD
      · have n_10 : i < 5 := kd_cne (a := 5) (b := i) (by omega) (by omega) c_10
        refine lv_aload_n hx hb dX10_which_13 rfl (lv_at hl 0 rfl) ?_
        refine va_get (ci := 10) (v := .ref so) (C := RX10) (T := TX10) (N := 10) hx hb hts hiX10 hown hK hP (0) rfl rfl 4 (by decide) (hts (.fieldLink RX10 56 "KingdomAtDice" "now" "LKingdomAtDice$Standing;") (by decide +kernel)) (fun _ h9 => h9) rfl dX10_which_14 ?_
        refine lv_aload_n hx hb dX10_which_17 rfl (lv_at hl 0 rfl) ?_
        refine va_get (ci := 10) (v := .ref ka) (C := RX10) (T := TX10) (N := 10) hx hb hts hiX10 hown hK hP (0) rfl rfl 1 (by decide) (hts (.fieldLink RX10 35 "KingdomAtDice" "kinds" "[LKingdomAtDice$Dice;") (by decide +kernel)) (fun _ h9 => h9) rfl dX10_which_18 ?_
        refine lv_iload_n hx hb dX10_which_21 rfl (lv_at hl 2 rfl) ?_
        refine kd_aldN hx hb hK hP 1 2 (k := i) rfl rfl (by omega) (by decide) dX10_which_22 ?_
        refine kd_callLK (g := g) (wc := ([(so, .inr (7, [.ref sa, .ref sn, .int (nI T), .int go, .int (nI th), .int (nI sm)])), (sn, .inl (g.2.1 0, 8, .inl sf))] ++ (kd_dc dq))) (va_runVN (mc := 0) (ms := 0) (rm := { frames := 2, cells := 0, slots := 0, locals := 44 }) (C := RX7) (host := "KingdomAtDice") (As := [.ref (dq i)]) (rest := []) ⟨hx, hb, hml, hown, hts⟩ (c_X7_waysSeenBy l g H.size so sa sn T go th sm sf dq i hT hsm (by omega)) ⟨va_cnB 1 hts gX10_which_X7_waysSeenBy_n209 rfl rfl rfl (kd_N hE 37 rfl) (hts (.initialized RX7) (by decide +kernel)) (by decide +kernel) ⟨Nat.le_of_ble_eq_true rfl, Nat.le_of_ble_eq_true rfl⟩, (hts (.instanceMethod yX7_waysSeenBy) (by decide +kernel)), (hts (.selects RX7 yX7_waysSeenBy yX7_waysSeenBy) (by decide +kernel))⟩ (kd_preV (wc := ([(so, .inr (7, [.ref sa, .ref sn, .int (nI T), .int go, .int (nI th), .int (nI sm)])), (sn, .inl (g.2.1 0, 8, .inl sf))] ++ (kd_dc dq))) (va_recv hK hP (ci := 7) (q0 := 7) rfl rfl) hP hD hS hA hK hE [7, 8, 2, 3, 4, 5, 6] rfl (by decide)) rfl rfl hl.1 rfl (lv_room (Nat.le_of_ble_eq_true rfl)) dX10_which_23 ⟨Nat.le_of_ble_eq_true rfl, Nat.le_of_ble_eq_true rfl⟩) hP hD hS hA [7, 8, 2, 3, 4, 5, 6] rfl (fun r_23 _ H locs hw hP hS => ?_)
        subst hw
        refine lv_lconst (v := 0) hx hb dX10_which_26 (by decide) ?_
        refine W.lcmp hx hb dX10_which_27 ?_
        refine lv_if_le (tgt := 37) hx hb dX10_which_28 (by decide) (fun c_28 => ?_) (fun c_28 => ?_)
        · refine lv_iinc (v := nI (i + 1)) (lv' := [(2, .int (nI (i + 1))), (0, .ref x), (1, .int a)]) hx hb dX10_which_37 hl (k := 2) rfl (nI_1 _) (by decide) rfl (fun ls hl => ?_)
          refine lv_goto (tgt := 4) hx hb dX10_which_40 (by decide) ?_
          exact ih_4 (i + 1) a (by omega) (by rw [kd_wh, ← ha]; first | rw [if_pos c_28] | rw [if_neg c_28]) (by omega) _ _ hP hD hS ls (lv_sub hl [1, 2, 0] rfl)
        · refine lv_iload_n hx hb dX10_which_31 rfl (lv_at hl 1 rfl) ?_
          refine lv_iconst (v := 1) hx hb dX10_which_32 (by decide) ?_
          refine lv_iload_n hx hb dX10_which_33 rfl (lv_at hl 2 rfl) ?_
          refine lv_ishl hx hb dX10_which_34 ?_
          refine lv_ior hx hb dX10_which_35 ?_
          refine lv_istore_n (lv' := [(1, .int (a ||| (1 <<< ((nI i) &&& 31)))), (0, .ref x), (2, .int (nI i))]) hx hb dX10_which_36 rfl hl (by decide) rfl (fun ls hl => ?_)
          refine lv_iinc (v := nI (i + 1)) (lv' := [(2, .int (nI (i + 1))), (1, .int (a ||| (1 <<< ((nI i) &&& 31)))), (0, .ref x)]) hx hb dX10_which_37 hl (k := 2) rfl (nI_1 _) (by decide) rfl (fun ls hl => ?_)
          refine lv_goto (tgt := 4) hx hb dX10_which_40 (by decide) ?_
          exact ih_4 (i + 1) (a ||| (1 <<< ((nI i) &&& 31))) (by omega) (by rw [kd_wh, ← ha]; first | rw [if_pos c_28] | rw [if_neg c_28]) (by omega) _ _ hP hD hS ls (lv_sub hl [2, 1, 0] rfl)
  exact loop_4 ((5 - 0) + 1) 0 0 (by omega) rfl (Nat.lt_succ_self _) _ _ hP hD hS ls (lv_sub hl [2, 1, 0] rfl)
set_option maxHeartbeats 4000000 in
set_option maxRecDepth 100000 in
theorem c_X10_likely (l : Launch) (g : kd_G) (sz : Nat) (x : Nat) (pg : Nat) (ka : Nat) (od : Nat) (dr : Nat) (so : Nat) (so2 : Nat) (dq : Nat → Nat) (k0 : Nat) (k1 : Nat) (ik : Int32) (nh : Nat) (sa : Nat) (sn : Nat) (T : Nat) (go : Int32) (th : Nat) (sm : Nat) (sf : Nat → Int32) (hT : T ≤ 6) (hsm : sm ≤ 8) : kd_MI l yX10_likely wsX10_likely ({ frames := 3, cells := 0, slots := 0, locals := 68 }) [.ref x] g ([(x, .inr (10, [.ref pg, .ref ka, .ref od, .ref dr, .ref so, .ref so2, .ref (dq k0), .ref (dq k1), .int ik, .int (nI nh)])), (ka, .inl (g.2.1 2, 5, .inr (.inr (.inr (.inr (fun j => some (dq j)))))))] ++ (kd_dc dq ++ [(so, .inr (7, [.ref sa, .ref sn, .int (nI T), .int go, .int (nI th), .int (nI sm)])), (sn, .inl (g.2.1 0, 8, .inl sf))])) sz (fun r (_ : Unit) => r = Prod.fst (kd_lk sf sm 5)) (fun _ => ([(x, .inr (10, [.ref pg, .ref ka, .ref od, .ref dr, .ref so, .ref so2, .ref (dq k0), .ref (dq k1), .int ik, .int (nI nh)])), (ka, .inl (g.2.1 2, 5, .inr (.inr (.inr (.inr (fun j => some (dq j)))))))] ++ (kd_dc dq ++ [(so, .inr (7, [.ref sa, .ref sn, .int (nI T), .int go, .int (nI th), .int (nI sm)])), (sn, .inl (g.2.1 0, 8, .inl sf))]))) 0 0 := by
  refine kd_met (l := l) (y := yX10_likely) (ws := wsX10_likely) (rm := { frames := 3, cells := 0, slots := 0, locals := 68 }) (av := [.ref x]) (g := g) (WS := ([(x, .inr (10, [.ref pg, .ref ka, .ref od, .ref dr, .ref so, .ref so2, .ref (dq k0), .ref (dq k1), .int ik, .int (nI nh)])), (ka, .inl (g.2.1 2, 5, .inr (.inr (.inr (.inr (fun j => some (dq j)))))))] ++ (kd_dc dq ++ [(so, .inr (7, [.ref sa, .ref sn, .int (nI T), .int go, .int (nI th), .int (nI sm)])), (sn, .inl (g.2.1 0, 8, .inl sf))]))) (sz := sz) (mc := 0) (ms := 0) (cc := cX10_likely) (maxL := 11) (ret := (some .int)) (own := RX10) (fun A => va_Qi (fun r (_ : Unit) => r = Prod.fst (kd_lk sf sm 5)) (fun u t => kd_post g A ([(x, .inr (10, [.ref pg, .ref ka, .ref od, .ref dr, .ref so, .ref so2, .ref (dq k0), .ref (dq k1), .int ik, .int (nI nh)])), (ka, .inl (g.2.1 2, 5, .inr (.inr (.inr (.inr (fun j => some (dq j)))))))] ++ (kd_dc dq ++ [(so, .inr (7, [.ref sa, .ref sn, .int (nI T), .int go, .int (nI th), .int (nI sm)])), (sn, .inl (g.2.1 0, 8, .inl sf))])) t) A) (by decide) rfl rfl (Nat.le_of_ble_eq_true rfl) ?_
  intro p e s m below meth c A ls hx hb hr hml hts hown hlocks hnm hA hP hK hD hS hE hl
  have hl : lv_has ls 11 [(0, .ref x)] := hl
  have hiX7 : ∀ w ∈ u_ws RX7 TX7 6, w ∈ wsX10_likely := by decide +kernel
  have hiX10 : ∀ w ∈ u_ws RX10 TX10 10, w ∈ wsX10_likely := by decide +kernel
  refine lv_iconst (v := (-1)) hx hb dX10_likely_0 (by decide) ?_
  refine lv_istore_n (lv' := [(1, .int (-1)), (0, .ref x)]) hx hb dX10_likely_1 rfl hl (by decide) rfl (fun ls hl => ?_)
  refine lv_lconst (v := 0) hx hb dX10_likely_2 (by decide) ?_
  refine lv_lstore_n (lv' := [(2, .long 0), (1, .int (-1)), (0, .ref x)]) hx hb dX10_likely_3 rfl hl (by decide) rfl (fun ls hl => ?_)
  refine lv_lconst (v := 1) hx hb dX10_likely_4 (by decide) ?_
  refine lv_lstore (lv' := [(4, .long 1), (2, .long 0), (1, .int (-1)), (0, .ref x)]) hx hb dX10_likely_5 hl (by decide) rfl (fun ls hl => ?_)
  refine lv_iconst (v := 0) hx hb dX10_likely_7 (by decide) ?_
  refine lv_istore (lv' := [(6, .int 0), (4, .long 1), (2, .long 0), (1, .int (-1)), (0, .ref x)]) hx hb dX10_likely_8 hl (by decide) rfl (fun ls hl => ?_)
  have loop_10 : ∀ (n_10 : Nat) (i : Nat) (a : Int32) (y : Int64) (z : Int64), (i ≤ 5) → ((a, y, z) = kd_lk sf sm i) → (5 - i) < n_10 → ∀ (H : Heap) (locs : List Loc), va_P g.1 vwCl ([(x, .inr (10, [.ref pg, .ref ka, .ref od, .ref dr, .ref so, .ref so2, .ref (dq k0), .ref (dq k1), .int ik, .int (nI nh)])), (ka, .inl (g.2.1 2, 5, .inr (.inr (.inr (.inr (fun j => some (dq j)))))))] ++ (kd_dc dq ++ [(so, .inr (7, [.ref sa, .ref sn, .int (nI T), .int go, .int (nI th), .int (nI sm)])), (sn, .inl (g.2.1 0, 8, .inl sf))])) H → va_D A ([(x, .inr (10, [.ref pg, .ref ka, .ref od, .ref dr, .ref so, .ref so2, .ref (dq k0), .ref (dq k1), .int ik, .int (nI nh)])), (ka, .inl (g.2.1 2, 5, .inr (.inr (.inr (.inr (fun j => some (dq j)))))))] ++ (kd_dc dq ++ [(so, .inr (7, [.ref sa, .ref sn, .int (nI T), .int go, .int (nI th), .int (nI sm)])), (sn, .inl (g.2.1 0, 8, .inl sf))])) → va_S A s.heap H locs → ∀ (ls : Array Slot), lv_has ls 11 [(0, .ref x), (1, .int a), (2, .long y), (4, .long z), (6, .int (nI i))] → W p l e ({ frames := 3, cells := 0, slots := 0, locals := 68 } : Room) s m ([.ref x] : List Value).toArray below meth c H locs 0 0 (MQ below (va_Qi (fun r (_ : Unit) => r = Prod.fst (kd_lk sf sm 5)) (fun u t => kd_post g A ([(x, .inr (10, [.ref pg, .ref ka, .ref od, .ref dr, .ref so, .ref so2, .ref (dq k0), .ref (dq k1), .int ik, .int (nI nh)])), (ka, .inl (g.2.1 2, 5, .inr (.inr (.inr (.inr (fun j => some (dq j)))))))] ++ (kd_dc dq ++ [(so, .inr (7, [.ref sa, .ref sn, .int (nI T), .int go, .int (nI th), .int (nI sm)])), (sn, .inl (g.2.1 0, 8, .inl sf))])) t) A) ([.ref x] : List Value).toArray s 0 0 A) (F0 m 10 ls []) := by
    intro n_10
    induction n_10 with
    | zero => intro i a y z _ _ hm_10; exact absurd hm_10 (Nat.not_lt_zero _)
    | succ n_10 ih_10 =>
      intro i a y z hi hq hm_10 H locs hP hD hS ls hl
      refine lv_iload hx hb dX10_likely_10 (lv_at hl 4 rfl) ?_
      refine lv_aload_n hx hb dX10_likely_12 rfl (lv_at hl 0 rfl) ?_
      refine va_get (ci := 10) (v := .ref ka) (C := RX10) (T := TX10) (N := 10) hx hb hts hiX10 hown hK hP (0) rfl rfl 1 (by decide) (hts (.fieldLink RX10 35 "KingdomAtDice" "kinds" "[LKingdomAtDice$Dice;") (by decide +kernel)) (fun _ h9 => h9) rfl dX10_likely_13 ?_
      refine va_alen hx hb hK hP 1 2 rfl rfl (v := 5) rfl dX10_likely_16 ?_
      refine lv_icmp_ge (tgt := 88) hx hb dX10_likely_17 (by decide) (fun c_17 => ?_) (fun c_17 => ?_)
      · have n_17 : 5 ≤ i := kd_ce (a := 5) (b := i) (by omega) (by omega) c_17
        refine lv_iload_n hx hb dX10_likely_88 rfl (lv_at hl 1 rfl) ?_
        exact kd_iret hx hb hr hlocks hK hS dX10_likely_89 (()) (by rw [show (5 : Nat) = i by omega, ← hq]) hP hD
      · have n_17 : i < 5 := kd_cne (a := 5) (b := i) (by omega) (by omega) c_17
        refine lv_aload_n hx hb dX10_likely_20 rfl (lv_at hl 0 rfl) ?_
        refine va_get (ci := 10) (v := .ref so) (C := RX10) (T := TX10) (N := 10) hx hb hts hiX10 hown hK hP (0) rfl rfl 4 (by decide) (hts (.fieldLink RX10 56 "KingdomAtDice" "now" "LKingdomAtDice$Standing;") (by decide +kernel)) (fun _ h9 => h9) rfl dX10_likely_21 ?_
        refine lv_aload_n hx hb dX10_likely_24 rfl (lv_at hl 0 rfl) ?_
        refine va_get (ci := 10) (v := .ref ka) (C := RX10) (T := TX10) (N := 10) hx hb hts hiX10 hown hK hP (0) rfl rfl 1 (by decide) (hts (.fieldLink RX10 35 "KingdomAtDice" "kinds" "[LKingdomAtDice$Dice;") (by decide +kernel)) (fun _ h9 => h9) rfl dX10_likely_25 ?_
        refine lv_iload hx hb dX10_likely_28 (lv_at hl 4 rfl) ?_
        refine kd_aldN hx hb hK hP 1 2 (k := i) rfl rfl (by omega) (by decide) dX10_likely_30 ?_
        refine kd_callLK (g := g) (wc := ([(so, .inr (7, [.ref sa, .ref sn, .int (nI T), .int go, .int (nI th), .int (nI sm)])), (sn, .inl (g.2.1 0, 8, .inl sf))] ++ (kd_dc dq))) (va_runVN (mc := 0) (ms := 0) (rm := { frames := 2, cells := 0, slots := 0, locals := 44 }) (C := RX7) (host := "KingdomAtDice") (As := [.ref (dq i)]) (rest := []) ⟨hx, hb, hml, hown, hts⟩ (c_X7_waysSeenBy l g H.size so sa sn T go th sm sf dq i hT hsm (by omega)) ⟨va_cnB 1 hts gX10_likely_X7_waysSeenBy_n209 rfl rfl rfl (kd_N hE 37 rfl) (hts (.initialized RX7) (by decide +kernel)) (by decide +kernel) ⟨Nat.le_of_ble_eq_true rfl, Nat.le_of_ble_eq_true rfl⟩, (hts (.instanceMethod yX7_waysSeenBy) (by decide +kernel)), (hts (.selects RX7 yX7_waysSeenBy yX7_waysSeenBy) (by decide +kernel))⟩ (kd_preV (wc := ([(so, .inr (7, [.ref sa, .ref sn, .int (nI T), .int go, .int (nI th), .int (nI sm)])), (sn, .inl (g.2.1 0, 8, .inl sf))] ++ (kd_dc dq))) (va_recv hK hP (ci := 7) (q0 := 7) rfl rfl) hP hD hS hA hK hE [7, 8, 2, 3, 4, 5, 6] rfl (by decide)) rfl rfl hl.1 rfl (lv_room (Nat.le_of_ble_eq_true rfl)) dX10_likely_31 ⟨Nat.le_of_ble_eq_true rfl, Nat.le_of_ble_eq_true rfl⟩) hP hD hS hA [7, 8, 2, 3, 4, 5, 6] rfl (fun r_31 _ H locs hw hP hS => ?_)
        subst hw
        refine lv_lstore (lv' := [(7, .long (kd_ws i sf sm)), (0, .ref x), (1, .int a), (2, .long y), (4, .long z), (6, .int (nI i))]) hx hb dX10_likely_34 hl (by decide) rfl (fun ls hl => ?_)
        refine lv_aload_n hx hb dX10_likely_36 rfl (lv_at hl 1 rfl) ?_
        refine va_get (ci := 10) (v := .ref ka) (C := RX10) (T := TX10) (N := 10) hx hb hts hiX10 hown hK hP (0) rfl rfl 1 (by decide) (hts (.fieldLink RX10 35 "KingdomAtDice" "kinds" "[LKingdomAtDice$Dice;") (by decide +kernel)) (fun _ h9 => h9) rfl dX10_likely_37 ?_
        refine lv_iload hx hb dX10_likely_40 (lv_at hl 5 rfl) ?_
        refine kd_aldN hx hb hK hP 1 2 (k := i) rfl rfl (by omega) (by decide) dX10_likely_42 ?_
        have run_43 : ∀ k_43 : Nat, k_43 < 5 → va_Run p l e ({ frames := 3, cells := 0, slots := 0, locals := 68 } : Room) s m ([.ref x] : List Value).toArray below meth c H locs 0 0 0 0 (F0 m 43 ls [.ref (dq k_43)]) [] (va_Qi (fun r (_ : Unit) => r = kd_wm k_43) (fun _ t => kd_post g (va_A (kd_dc dq) H.size) (kd_dc dq) t) (va_A (kd_dc dq) H.size) (.ref (dq k_43) :: []).toArray) (va_A (kd_dc dq) H.size) := by
          intro k_43 hk
          rcases (show k_43 = 0 ∨ k_43 = 1 ∨ k_43 = 2 ∨ k_43 = 3 ∨ k_43 = 4 by omega) with rfl | rfl | rfl | rfl | rfl
          · exact va_runV (mc := 0) (ms := 0) (rm := { frames := 1, cells := 0, slots := 0, locals := 20 }) (As := []) (rest := []) ⟨hx, hb, hml, hown, hts⟩ (c_wayMany_0 l g H.size dq ) (cwV 0 hts gX10_likely_X1_wayMany rfl rfl rfl (by decide +kernel) ⟨Nat.le_of_ble_eq_true rfl, Nat.le_of_ble_eq_true rfl⟩) (kd_preV (wc := (kd_dc dq)) (va_recv hK hP (ci := 1) (q0 := 2) rfl rfl) hP hD hS hA hK hE [2, 3, 4, 5, 6] rfl (by decide)) rfl rfl hl.1 rfl (lv_room (Nat.le_of_ble_eq_true rfl)) dX10_likely_43 ⟨Nat.le_of_ble_eq_true rfl, Nat.le_of_ble_eq_true rfl⟩
          · exact va_runU (mc := 0) (ms := 0) (rm := { frames := 1, cells := 0, slots := 0, locals := 20 }) (C := RX3) (As := []) (rest := []) ⟨hx, hb, hml, hown, hts⟩ (c_wayMany_1 l g H.size dq ) (va_cwU 0 hts gX10_likely_X1_wayMany_u213X3 rfl rfl rfl rfl (by decide +kernel) ⟨Nat.le_of_ble_eq_true rfl, Nat.le_of_ble_eq_true rfl⟩) (kd_preV (wc := (kd_dc dq)) (va_recv hK hP (ci := 3) (q0 := 3) rfl rfl) hP hD hS hA hK hE [2, 3, 4, 5, 6] rfl (by decide)) rfl rfl hl.1 rfl (lv_room (Nat.le_of_ble_eq_true rfl)) dX10_likely_43 ⟨Nat.le_of_ble_eq_true rfl, Nat.le_of_ble_eq_true rfl⟩
          · exact va_runU (mc := 0) (ms := 0) (rm := { frames := 1, cells := 0, slots := 0, locals := 20 }) (C := RX9) (As := []) (rest := []) ⟨hx, hb, hml, hown, hts⟩ (c_wayMany_2 l g H.size dq ) (va_cwO 0 hts gX10_likely_X9_wayMany_u213X9 rfl rfl rfl (show Cond.code yX1_wayMany cX1_wayMany 1 (some .int) ∈ _ by decide +kernel) (by decide +kernel) ⟨Nat.le_of_ble_eq_true rfl, Nat.le_of_ble_eq_true rfl⟩) (kd_preV (wc := (kd_dc dq)) (va_recv hK hP (ci := 9) (q0 := 4) rfl rfl) hP hD hS hA hK hE [2, 3, 4, 5, 6] rfl (by decide)) rfl rfl hl.1 rfl (lv_room (Nat.le_of_ble_eq_true rfl)) dX10_likely_43 ⟨Nat.le_of_ble_eq_true rfl, Nat.le_of_ble_eq_true rfl⟩
          · exact va_runU (mc := 0) (ms := 0) (rm := { frames := 1, cells := 0, slots := 0, locals := 20 }) (C := RX4) (As := []) (rest := []) ⟨hx, hb, hml, hown, hts⟩ (c_wayMany_3 l g H.size dq ) (va_cwU 0 hts gX10_likely_X1_wayMany_u213X4 rfl rfl rfl rfl (by decide +kernel) ⟨Nat.le_of_ble_eq_true rfl, Nat.le_of_ble_eq_true rfl⟩) (kd_preV (wc := (kd_dc dq)) (va_recv hK hP (ci := 4) (q0 := 5) rfl rfl) hP hD hS hA hK hE [2, 3, 4, 5, 6] rfl (by decide)) rfl rfl hl.1 rfl (lv_room (Nat.le_of_ble_eq_true rfl)) dX10_likely_43 ⟨Nat.le_of_ble_eq_true rfl, Nat.le_of_ble_eq_true rfl⟩
          · exact va_runU (mc := 0) (ms := 0) (rm := { frames := 1, cells := 0, slots := 0, locals := 20 }) (C := RX0) (As := []) (rest := []) ⟨hx, hb, hml, hown, hts⟩ (c_wayMany_4 l g H.size dq ) (va_cwU 0 hts gX10_likely_X1_wayMany_u213X0 rfl rfl rfl rfl (by decide +kernel) ⟨Nat.le_of_ble_eq_true rfl, Nat.le_of_ble_eq_true rfl⟩) (kd_preV (wc := (kd_dc dq)) (va_recv hK hP (ci := 0) (q0 := 6) rfl rfl) hP hD hS hA hK hE [2, 3, 4, 5, 6] rfl (by decide)) rfl rfl hl.1 rfl (lv_room (Nat.le_of_ble_eq_true rfl)) dX10_likely_43 ⟨Nat.le_of_ble_eq_true rfl, Nat.le_of_ble_eq_true rfl⟩
        refine kd_callIK (g := g) (wc := (kd_dc dq)) (run_43 i (by omega)) hP hD hS hA [2, 3, 4, 5, 6] rfl (fun r_43 _ H locs hw hP hS => ?_)
        subst hw
        refine lv_i2l hx hb dX10_likely_46 rfl ?_
        refine lv_aload_n hx hb dX10_likely_47 rfl (lv_at hl 1 rfl) ?_
        refine va_get (ci := 10) (v := .ref so) (C := RX10) (T := TX10) (N := 10) hx hb hts hiX10 hown hK hP (0) rfl rfl 4 (by decide) (hts (.fieldLink RX10 56 "KingdomAtDice" "now" "LKingdomAtDice$Standing;") (by decide +kernel)) (fun _ h9 => h9) rfl dX10_likely_48 ?_
        refine va_getN (ci := 7) (v := .int (nI sm)) (C := RX7) (T := TX7) (N := 6) hx hb hts hiX7 hown hK hP (7) rfl rfl 5 (by decide) (kd_Nb hE 57 rfl) (fun _ h9 => h9) rfl dX10_likely_51 ?_
        refine kd_callLK (g := g) (wc := []) (va_runS (mc := 0) (ms := 0) (rm := { frames := 0, cells := 0, slots := 0, locals := 0 }) (As := [.long ((kd_wm i).toInt64), .int (nI sm)]) (rest := []) ⟨hx, hb, hml, hown, hts⟩ (c_X10_power l g H.size ((kd_wm i).toInt64) sm (by omega)) (va_cwS 2 hts gX10_likely_X10_power rfl rfl rfl (by decide +kernel) ⟨Nat.le_of_ble_eq_true rfl, Nat.le_of_ble_eq_true rfl⟩) (kd_preS (wc := []) (av := [.long ((kd_wm i).toInt64), .int (nI sm)]) hP hD hS hA hK hE [] rfl (by decide)) rfl rfl hl.1 rfl (lv_room (Nat.le_of_ble_eq_true rfl)) dX10_likely_54 ⟨Nat.le_of_ble_eq_true rfl, Nat.le_of_ble_eq_true rfl⟩) hP hD hS hA [] rfl (fun r_54 _ H locs hw hP hS => ?_)
        subst hw
        refine lv_lstore (lv' := [(9, .long (kd_pw ((kd_wm i).toInt64) sm)), (7, .long (kd_ws i sf sm)), (0, .ref x), (1, .int a), (2, .long y), (4, .long z), (6, .int (nI i))]) hx hb dX10_likely_57 hl (by decide) rfl (fun ls hl => ?_)
        refine lv_lload hx hb dX10_likely_59 (lv_at hl 1 rfl) ?_
        refine lv_lload hx hb dX10_likely_61 (lv_at hl 5 rfl) ?_
        refine lv_lmul hx hb dX10_likely_63 ?_
        refine lv_lload_n hx hb dX10_likely_64 rfl (lv_at hl 4 rfl) ?_
        refine lv_lload hx hb dX10_likely_65 (lv_at hl 0 rfl) ?_
        refine lv_lmul hx hb dX10_likely_67 ?_
        refine W.lcmp hx hb dX10_likely_68 ?_
        refine lv_if_le (tgt := 82) hx hb dX10_likely_69 (by decide) (fun c_69 => ?_) (fun c_69 => ?_)
        · refine lv_iinc (v := nI (i + 1)) (lv' := [(6, .int (nI (i + 1))), (9, .long (kd_pw ((kd_wm i).toInt64) sm)), (7, .long (kd_ws i sf sm)), (0, .ref x), (1, .int a), (2, .long y), (4, .long z)]) hx hb dX10_likely_82 hl (k := 6) rfl (nI_1 _) (by decide) rfl (fun ls hl => ?_)
          refine lv_goto (tgt := 10) hx hb dX10_likely_85 (by decide) ?_
          exact ih_10 (i + 1) a y z (by omega) (by rw [kd_lk, ← hq]; dsimp only; first | rw [if_pos c_69] | rw [if_neg c_69]) (by omega) _ _ hP hD hS ls (lv_sub hl [3, 4, 5, 6, 0] rfl)
        · refine lv_iload hx hb dX10_likely_72 (lv_at hl 6 rfl) ?_
          refine lv_istore_n (lv' := [(1, .int (nI i)), (9, .long (kd_pw ((kd_wm i).toInt64) sm)), (7, .long (kd_ws i sf sm)), (0, .ref x), (2, .long y), (4, .long z), (6, .int (nI i))]) hx hb dX10_likely_74 rfl hl (by decide) rfl (fun ls hl => ?_)
          refine lv_lload hx hb dX10_likely_75 (lv_at hl 2 rfl) ?_
          refine lv_lstore_n (lv' := [(2, .long (kd_ws i sf sm)), (1, .int (nI i)), (9, .long (kd_pw ((kd_wm i).toInt64) sm)), (7, .long (kd_ws i sf sm)), (0, .ref x), (4, .long z), (6, .int (nI i))]) hx hb dX10_likely_77 rfl hl (by decide) rfl (fun ls hl => ?_)
          refine lv_lload hx hb dX10_likely_78 (lv_at hl 2 rfl) ?_
          refine lv_lstore (lv' := [(4, .long (kd_pw ((kd_wm i).toInt64) sm)), (2, .long (kd_ws i sf sm)), (1, .int (nI i)), (9, .long (kd_pw ((kd_wm i).toInt64) sm)), (7, .long (kd_ws i sf sm)), (0, .ref x), (6, .int (nI i))]) hx hb dX10_likely_80 hl (by decide) rfl (fun ls hl => ?_)
          refine lv_iinc (v := nI (i + 1)) (lv' := [(6, .int (nI (i + 1))), (4, .long (kd_pw ((kd_wm i).toInt64) sm)), (2, .long (kd_ws i sf sm)), (1, .int (nI i)), (9, .long (kd_pw ((kd_wm i).toInt64) sm)), (7, .long (kd_ws i sf sm)), (0, .ref x)]) hx hb dX10_likely_82 hl (k := 6) rfl (nI_1 _) (by decide) rfl (fun ls hl => ?_)
          refine lv_goto (tgt := 10) hx hb dX10_likely_85 (by decide) ?_
          exact ih_10 (i + 1) (nI i) (kd_ws i sf sm) (kd_pw ((kd_wm i).toInt64) sm) (by omega) (by rw [kd_lk, ← hq]; dsimp only; first | rw [if_pos c_69] | rw [if_neg c_69]) (by omega) _ _ hP hD hS ls (lv_sub hl [6, 3, 2, 1, 0] rfl)
  exact loop_10 ((5 - 0) + 1) 0 (-1) 0 1 (by omega) rfl (Nat.lt_succ_self _) _ _ hP hD hS ls (lv_sub hl [4, 3, 2, 1, 0] rfl)
/-- k throws by draws: which things are the KING's, his gold, the seed -/
def kd_hl (k0 k1 : Nat) (R : Nat → Nat → Int32) (T : Nat) : Nat → Int32 × Int32 × Int64 → Int32 × Int32 × Int64
  | 0, st => st
  | k + 1, st => if st.1 = 0 then st else
    if (kd_fall k0 st.2.2).1 ≤ (kd_fall k1 (kd_fall k0 st.2.2).2).1 then
      if (kd_fall k1 (kd_fall k0 st.2.2).2).1 ≤ (kd_fall k0 st.2.2).1 then kd_hl k0 k1 R T k (st.1, st.2.1, (kd_fall k1 (kd_fall k0 st.2.2).2).2)
      else kd_hl k0 k1 R T k (st.1 - sp_J6_lowestOneBit_0f7a4 st.1, st.2.1, (kd_fall k1 (kd_fall k0 st.2.2).2).2)
    else kd_hl k0 k1 R T k (st.1, st.2.1 + kd_wo R (sp_J6_lowestOneBit_0f7a4 st.1) T, (kd_fall k1 (kd_fall k0 st.2.2).2).2)
theorem kd_hl_0 {k0 k1 : Nat} {R : Nat → Nat → Int32} {T : Nat} {b go : Int32} {sd : Int64} (h : b = 0) : ∀ k, kd_hl k0 k1 R T k (b, go, sd) = (b, go, sd)
  | 0 => rfl
  | k + 1 => by rw [kd_hl]; dsimp only; rw [if_pos h]
def kd_hr (p2 : Int32) (st : Int32 × Int32 × Int64) : Int32 × Int64 := if p2 = 0 then (sp_J6_bitCount_0f7a4 st.1, st.2.2) else if p2 = 1 then (st.2.1, st.2.2) else (sp_X2_seedNow st.2.2, st.2.2)
def kd_halls (k0 k1 T : Nat) (R : Nat → Nat → Int32) (go : Int32) (sd : Int64) (p0 p1 p2 : Int32) : Int32 × Int64 :=
  if p0 < 1 then (-102, sd) else if 60 < p0 then (-102, sd) else if p1 < 0 then (-102, sd) else if (sp_X10_isBelow p2 3) = 0 then (-102, sd) else if (sp_X7_hasHall T) = 0 then (-103, sd) else
    kd_hr p2 (kd_hl k0 k1 R T p0.toNatClampNeg (kd_kb R 0 T, go, p1.toInt64))
theorem kd_60 {x : Int32} (h1 : ¬ x < 1) (h : ¬ 60 < x) : x = nI x.toNatClampNeg ∧ x.toNatClampNeg ≤ 60 := by
  have h0 : ¬ x < 0 := fun q => h1 (Int32.lt_iff_toInt_lt.mpr (by have := Int32.lt_iff_toInt_lt.mp q; have e : (0 : Int32).toInt = 0 := by decide
                                                                  have e1 : (1 : Int32).toInt = 1 := by decide
                                                                  omega))
  obtain ⟨j, hj, rfl⟩ := nI_of h0
  rw [nI_clamp hj]
  exact ⟨rfl, kd_cnl (a := 60) (b := j) (by decide) hj h⟩
set_option maxHeartbeats 4000000 in
set_option maxRecDepth 100000 in
theorem c_X10_halls (l : Launch) (g : kd_G) (sz : Nat) (x : Nat) (pg : Nat) (ka : Nat) (od : Nat) (dr : Nat) (so : Nat) (so2 : Nat) (dq : Nat → Nat) (k0 : Nat) (k1 : Nat) (ik : Int32) (nh : Nat) (sd : Int64) (sa : Nat) (sn : Nat) (T : Nat) (go : Int32) (th : Nat) (sm : Nat) (tq : Nat → Nat) (R : Nat → Nat → Int32) (p0 : Int32) (p1 : Int32) (p2 : Int32) (hT : T ≤ 6) (hk0 : k0 < 5) (hk1 : k1 < 5) : kd_MI l yX10_halls wsX10_halls ({ frames := 3, cells := 0, slots := 0, locals := 64 }) [.ref x, .int p0, .int p1, .int p2] g ([(x, .inr (10, [.ref pg, .ref ka, .ref od, .ref dr, .ref so, .ref so2, .ref (dq k0), .ref (dq k1), .int ik, .int (nI nh)]))] ++ (kd_dc dq ++ ([(dr, .inr (2, [.long sd])), (so, .inr (7, [.ref sa, .ref sn, .int (nI T), .int go, .int (nI th), .int (nI sm)])), (sa, .inl (g.2.1 3, 6, .inr (.inr (.inr (.inr (fun j => some (tq j)))))))] ++ (kd_th tq R)))) sz (fun r (u : Int64) => (r, u) = kd_halls k0 k1 T R go sd p0 p1 p2) (fun u => ([(x, .inr (10, [.ref pg, .ref ka, .ref od, .ref dr, .ref so, .ref so2, .ref (dq k0), .ref (dq k1), .int ik, .int (nI nh)]))] ++ (kd_dc dq ++ ([(dr, .inr (2, [.long u])), (so, .inr (7, [.ref sa, .ref sn, .int (nI T), .int go, .int (nI th), .int (nI sm)])), (sa, .inl (g.2.1 3, 6, .inr (.inr (.inr (.inr (fun j => some (tq j)))))))] ++ (kd_th tq R))))) 0 0 := by
  refine kd_met (l := l) (y := yX10_halls) (ws := wsX10_halls) (rm := { frames := 3, cells := 0, slots := 0, locals := 64 }) (av := [.ref x, .int p0, .int p1, .int p2]) (g := g) (WS := ([(x, .inr (10, [.ref pg, .ref ka, .ref od, .ref dr, .ref so, .ref so2, .ref (dq k0), .ref (dq k1), .int ik, .int (nI nh)]))] ++ (kd_dc dq ++ ([(dr, .inr (2, [.long sd])), (so, .inr (7, [.ref sa, .ref sn, .int (nI T), .int go, .int (nI th), .int (nI sm)])), (sa, .inl (g.2.1 3, 6, .inr (.inr (.inr (.inr (fun j => some (tq j)))))))] ++ (kd_th tq R))))) (sz := sz) (mc := 0) (ms := 0) (cc := cX10_halls) (maxL := 10) (ret := (some .int)) (own := RX10) (fun A => va_Qi (fun r (u : Int64) => (r, u) = kd_halls k0 k1 T R go sd p0 p1 p2) (fun u t => kd_post g A ([(x, .inr (10, [.ref pg, .ref ka, .ref od, .ref dr, .ref so, .ref so2, .ref (dq k0), .ref (dq k1), .int ik, .int (nI nh)]))] ++ (kd_dc dq ++ ([(dr, .inr (2, [.long u])), (so, .inr (7, [.ref sa, .ref sn, .int (nI T), .int go, .int (nI th), .int (nI sm)])), (sa, .inl (g.2.1 3, 6, .inr (.inr (.inr (.inr (fun j => some (tq j)))))))] ++ (kd_th tq R)))) t) A) (by decide) rfl rfl (Nat.le_of_ble_eq_true rfl) ?_
  intro p e s m below meth c A ls hx hb hr hml hts hown hlocks hnm hA hP hK hD hS hE hl
  have hl : lv_has ls 10 [(0, .ref x), (1, .int p0), (2, .int p1), (3, .int p2)] := hl
  have hiX7 : ∀ w ∈ u_ws RX7 TX7 6, w ∈ wsX10_halls := by decide +kernel
  have hiX10 : ∀ w ∈ u_ws RX10 TX10 10, w ∈ wsX10_halls := by decide +kernel
  refine lv_iload_n hx hb dX10_halls_0 rfl (lv_at hl 1 rfl) ?_
  refine lv_iconst (v := 1) hx hb dX10_halls_1 (by decide) ?_
  refine lv_icmp_lt (tgt := 23) hx hb dX10_halls_2 (by decide) (fun c_2 => ?_) (fun c_2 => ?_)
  · refine lv_bipush (v := (-102)) hx hb dX10_halls_23 (by decide) ?_
    exact kd_iret hx hb hr hlocks hK hS dX10_halls_25 (sd) (by rw [kd_halls, if_pos c_2]) hP hD
  · refine lv_iload_n hx hb dX10_halls_5 rfl (lv_at hl 1 rfl) ?_
    refine lv_bipush (v := 60) hx hb dX10_halls_6 (by decide) ?_
    refine lv_icmp_gt (tgt := 23) hx hb dX10_halls_8 (by decide) (fun c_8 => ?_) (fun c_8 => ?_)
    · refine lv_bipush (v := (-102)) hx hb dX10_halls_23 (by decide) ?_
      exact kd_iret hx hb hr hlocks hK hS dX10_halls_25 (sd) (by rw [kd_halls, if_neg c_2, if_pos c_8]) hP hD
    · refine lv_iload_n hx hb dX10_halls_11 rfl (lv_at hl 2 rfl) ?_
      refine lv_if_lt (tgt := 23) hx hb dX10_halls_12 (by decide) (fun c_12 => ?_) (fun c_12 => ?_)
      · refine lv_bipush (v := (-102)) hx hb dX10_halls_23 (by decide) ?_
        exact kd_iret hx hb hr hlocks hK hS dX10_halls_25 (sd) (by rw [kd_halls, if_neg c_2, if_neg c_8, if_pos c_12]) hP hD
      · refine lv_iload_n hx hb dX10_halls_15 rfl (lv_at hl 3 rfl) ?_
        refine lv_iconst (v := 3) hx hb dX10_halls_16 (by decide) ?_
        refine kd_callIK (g := g) (wc := []) (va_runS (mc := 0) (ms := 0) (rm := { frames := 0, cells := 0, slots := 0, locals := 0 }) (As := [.int p2, .int 3]) (rest := []) ⟨hx, hb, hml, hown, hts⟩ (c_X10_isBelow l g s.heap.size p2 3 ) (va_cwS 2 hts gX10_halls_X10_isBelow rfl rfl rfl (by decide +kernel) ⟨Nat.le_of_ble_eq_true rfl, Nat.le_of_ble_eq_true rfl⟩) (kd_preS (wc := []) (av := [.int p2, .int 3]) hP hD hS hA hK hE [] rfl (by decide)) rfl rfl hl.1 rfl (lv_room (Nat.le_of_ble_eq_true rfl)) dX10_halls_17 ⟨Nat.le_of_ble_eq_true rfl, Nat.le_of_ble_eq_true rfl⟩) hP hD hS hA [] rfl (fun r_17 _ H locs hw hP hS => ?_)
        subst hw
        refine lv_if_ne (tgt := 26) hx hb dX10_halls_20 (by decide) (fun c_20 => ?_) (fun c_20 => ?_)
        · refine lv_aload_n hx hb dX10_halls_26 rfl (lv_at hl 0 rfl) ?_
          refine va_get (ci := 10) (v := .ref so) (C := RX10) (T := TX10) (N := 10) hx hb hts hiX10 hown hK hP (0) rfl rfl 4 (by decide) (hts (.fieldLink RX10 56 "KingdomAtDice" "now" "LKingdomAtDice$Standing;") (by decide +kernel)) (fun _ h9 => h9) rfl dX10_halls_27 ?_
          refine kd_callIK (g := g) (wc := [(so, .inr (7, [.ref sa, .ref sn, .int (nI T), .int go, .int (nI th), .int (nI sm)]))]) (va_runVN (mc := 0) (ms := 0) (rm := { frames := 0, cells := 0, slots := 0, locals := 0 }) (C := RX7) (host := "KingdomAtDice") (As := []) (rest := []) ⟨hx, hb, hml, hown, hts⟩ (c_X7_hasHall l g H.size so sa sn T go th sm hT) ⟨va_cnB 0 hts gX10_halls_X7_hasHall_n161 rfl rfl rfl (kd_N hE 24 rfl) (hts (.initialized RX7) (by decide +kernel)) (by decide +kernel) ⟨Nat.le_of_ble_eq_true rfl, Nat.le_of_ble_eq_true rfl⟩, (hts (.instanceMethod yX7_hasHall) (by decide +kernel)), (hts (.selects RX7 yX7_hasHall yX7_hasHall) (by decide +kernel))⟩ (kd_preV (wc := [(so, .inr (7, [.ref sa, .ref sn, .int (nI T), .int go, .int (nI th), .int (nI sm)]))]) (va_recv hK hP (ci := 7) (q0 := 7) rfl rfl) hP hD hS hA hK hE [7] rfl (by decide)) rfl rfl hl.1 rfl (lv_room (Nat.le_of_ble_eq_true rfl)) dX10_halls_30 ⟨Nat.le_of_ble_eq_true rfl, Nat.le_of_ble_eq_true rfl⟩) hP hD hS hA [7] rfl (fun r_30 _ H locs hw hP hS => ?_)
          subst hw
          refine lv_if_ne (tgt := 39) hx hb dX10_halls_33 (by decide) (fun c_33 => ?_) (fun c_33 => ?_)
          · refine lv_aload_n hx hb dX10_halls_39 rfl (lv_at hl 0 rfl) ?_
            refine va_get (ci := 10) (v := .ref so) (C := RX10) (T := TX10) (N := 10) hx hb hts hiX10 hown hK hP (0) rfl rfl 4 (by decide) (hts (.fieldLink RX10 56 "KingdomAtDice" "now" "LKingdomAtDice$Standing;") (by decide +kernel)) (fun _ h9 => h9) rfl dX10_halls_40 ?_
            refine lv_iconst (v := 0) hx hb dX10_halls_43 (by decide) ?_
            refine kd_callIK (g := g) (wc := ([(so, .inr (7, [.ref sa, .ref sn, .int (nI T), .int go, .int (nI th), .int (nI sm)])), (sa, .inl (g.2.1 3, 6, .inr (.inr (.inr (.inr (fun j => some (tq j)))))))] ++ (kd_th tq R))) (va_runVN (mc := 0) (ms := 0) (rm := { frames := 2, cells := 0, slots := 0, locals := 41 }) (C := RX7) (host := "KingdomAtDice") (As := [.int 0]) (rest := []) ⟨hx, hb, hml, hown, hts⟩ (c_X7_kingsBy l g H.size so sa sn T go th sm tq R 0 hT) ⟨va_cnB 1 hts gX10_halls_X7_kingsBy_n194 rfl rfl rfl (kd_N hE 32 rfl) (hts (.initialized RX7) (by decide +kernel)) (by decide +kernel) ⟨Nat.le_of_ble_eq_true rfl, Nat.le_of_ble_eq_true rfl⟩, (hts (.instanceMethod yX7_kingsBy) (by decide +kernel)), (hts (.selects RX7 yX7_kingsBy yX7_kingsBy) (by decide +kernel))⟩ (kd_preV (wc := ([(so, .inr (7, [.ref sa, .ref sn, .int (nI T), .int go, .int (nI th), .int (nI sm)])), (sa, .inl (g.2.1 3, 6, .inr (.inr (.inr (.inr (fun j => some (tq j)))))))] ++ (kd_th tq R))) (va_recv hK hP (ci := 7) (q0 := 7) rfl rfl) hP hD hS hA hK hE [7, 8, 9, 10, 11, 12, 13, 14] rfl (by decide)) rfl rfl hl.1 rfl (lv_room (Nat.le_of_ble_eq_true rfl)) dX10_halls_44 ⟨Nat.le_of_ble_eq_true rfl, Nat.le_of_ble_eq_true rfl⟩) hP hD hS hA [7, 8, 9, 10, 11, 12, 13, 14] rfl (fun r_44 _ H locs hw hP hS => ?_)
            subst hw
            refine lv_istore (lv' := [(4, .int (kd_kb R 0 T)), (0, .ref x), (1, .int p0), (2, .int p1), (3, .int p2)]) hx hb dX10_halls_47 hl (by decide) rfl (fun ls hl => ?_)
            refine lv_aload_n hx hb dX10_halls_49 rfl (lv_at hl 1 rfl) ?_
            refine va_get (ci := 10) (v := .ref so) (C := RX10) (T := TX10) (N := 10) hx hb hts hiX10 hown hK hP (0) rfl rfl 4 (by decide) (hts (.fieldLink RX10 56 "KingdomAtDice" "now" "LKingdomAtDice$Standing;") (by decide +kernel)) (fun _ h9 => h9) rfl dX10_halls_50 ?_
            refine va_getN (ci := 7) (v := .int go) (C := RX7) (T := TX7) (N := 6) hx hb hts hiX7 hown hK hP (7) rfl rfl 3 (by decide) (kd_Nb hE 55 rfl) (fun _ h9 => h9) rfl dX10_halls_53 ?_
            refine lv_istore (lv' := [(5, .int go), (4, .int (kd_kb R 0 T)), (0, .ref x), (1, .int p0), (2, .int p1), (3, .int p2)]) hx hb dX10_halls_56 hl (by decide) rfl (fun ls hl => ?_)
            refine lv_aload_n hx hb dX10_halls_58 rfl (lv_at hl 2 rfl) ?_
            refine va_get (ci := 10) (v := .ref dr) (C := RX10) (T := TX10) (N := 10) hx hb hts hiX10 hown hK hP (0) rfl rfl 3 (by decide) (hts (.fieldLink RX10 49 "KingdomAtDice" "draws" "LKingdomAtDice$Draws;") (by decide +kernel)) (fun _ h9 => h9) rfl dX10_halls_59 ?_
            refine lv_iload_n hx hb dX10_halls_62 rfl (lv_at hl 4 rfl) ?_
            refine kd_callVM (Wf := fun (u : Int64) => [(dr, .inr (2, [.long u]))]) (g := g) (wc := [(dr, .inr (2, [.long sd]))]) (va_runVN (mc := 0) (ms := 0) (rm := { frames := 0, cells := 0, slots := 0, locals := 0 }) (C := RX2) (host := "KingdomAtDice") (As := [.int p1]) (rest := []) ⟨hx, hb, hml, hown, hts⟩ (c_X2_begin l g H.size dr sd p1 ) ⟨va_cnB 1 hts gX10_halls_X2_begin_n219 rfl rfl rfl (kd_N hE 38 rfl) (hts (.initialized RX2) (by decide +kernel)) (by decide +kernel) ⟨Nat.le_of_ble_eq_true rfl, Nat.le_of_ble_eq_true rfl⟩, (hts (.instanceMethod yX2_begin) (by decide +kernel)), (hts (.selects RX2 yX2_begin yX2_begin) (by decide +kernel))⟩ (kd_preV (wc := [(dr, .inr (2, [.long sd]))]) (va_recv hK hP (ci := 2) (q0 := 6) rfl rfl) hP hD hS hA hK hE [6] rfl (by decide)) rfl rfl hl.1 rfl (lv_room (Nat.le_of_ble_eq_true rfl)) dX10_halls_63 ⟨Nat.le_of_ble_eq_true rfl, Nat.le_of_ble_eq_true rfl⟩) hP hD hS hA [6] rfl (by decide) (fun _ => rfl) (fun u_63 H locs hw_63 hP hD hS => ?_)
            obtain ⟨sd_63, rfl⟩ : ∃ z, z = u_63 := ⟨_, rfl⟩
            have hP : va_P g.1 vwCl ([(x, .inr (10, [.ref pg, .ref ka, .ref od, .ref dr, .ref so, .ref so2, .ref (dq k0), .ref (dq k1), .int ik, .int (nI nh)]))] ++ (kd_dc dq ++ ([(dr, .inr (2, [.long sd_63])), (so, .inr (7, [.ref sa, .ref sn, .int (nI T), .int go, .int (nI th), .int (nI sm)])), (sa, .inl (g.2.1 3, 6, .inr (.inr (.inr (.inr (fun j => some (tq j)))))))] ++ (kd_th tq R)))) H := hP
            have hD : va_D A ([(x, .inr (10, [.ref pg, .ref ka, .ref od, .ref dr, .ref so, .ref so2, .ref (dq k0), .ref (dq k1), .int ik, .int (nI nh)]))] ++ (kd_dc dq ++ ([(dr, .inr (2, [.long sd_63])), (so, .inr (7, [.ref sa, .ref sn, .int (nI T), .int go, .int (nI th), .int (nI sm)])), (sa, .inl (g.2.1 3, 6, .inr (.inr (.inr (.inr (fun j => some (tq j)))))))] ++ (kd_th tq R)))) := hD
            obtain ⟨hp0, hp60⟩ := kd_60 c_2 c_8
            refine lv_iconst (v := 0) hx hb dX10_halls_66 (by decide) ?_
            refine lv_istore (lv' := [(6, .int 0), (5, .int go), (4, .int (kd_kb R 0 T)), (0, .ref x), (1, .int p0), (2, .int p1), (3, .int p2)]) hx hb dX10_halls_67 hl (by decide) rfl (fun ls hl => ?_)
            have loop_69 : ∀ (n_69 : Nat) (i : Nat) (k : Nat) (b : Int32) (gv : Int32) (sv : Int64), (i + k = p0.toNatClampNeg) → (kd_hl k0 k1 R T p0.toNatClampNeg (kd_kb R 0 T, go, p1.toInt64) = kd_hl k0 k1 R T k (b, gv, sv)) → (k) < n_69 → ∀ (H : Heap) (locs : List Loc), va_P g.1 vwCl ([(x, .inr (10, [.ref pg, .ref ka, .ref od, .ref dr, .ref so, .ref so2, .ref (dq k0), .ref (dq k1), .int ik, .int (nI nh)]))] ++ (kd_dc dq ++ ([(dr, .inr (2, [.long sv])), (so, .inr (7, [.ref sa, .ref sn, .int (nI T), .int go, .int (nI th), .int (nI sm)])), (sa, .inl (g.2.1 3, 6, .inr (.inr (.inr (.inr (fun j => some (tq j)))))))] ++ (kd_th tq R)))) H → va_D A ([(x, .inr (10, [.ref pg, .ref ka, .ref od, .ref dr, .ref so, .ref so2, .ref (dq k0), .ref (dq k1), .int ik, .int (nI nh)]))] ++ (kd_dc dq ++ ([(dr, .inr (2, [.long sv])), (so, .inr (7, [.ref sa, .ref sn, .int (nI T), .int go, .int (nI th), .int (nI sm)])), (sa, .inl (g.2.1 3, 6, .inr (.inr (.inr (.inr (fun j => some (tq j)))))))] ++ (kd_th tq R)))) → va_S A s.heap H locs → ∀ (ls : Array Slot), lv_has ls 10 [(0, .ref x), (1, .int p0), (2, .int p1), (3, .int p2), (4, .int b), (5, .int gv), (6, .int (nI i))] → W p l e ({ frames := 3, cells := 0, slots := 0, locals := 64 } : Room) s m ([.ref x, .int p0, .int p1, .int p2] : List Value).toArray below meth c H locs 0 0 (MQ below (va_Qi (fun r (u : Int64) => (r, u) = kd_halls k0 k1 T R go sd p0 p1 p2) (fun u t => kd_post g A ([(x, .inr (10, [.ref pg, .ref ka, .ref od, .ref dr, .ref so, .ref so2, .ref (dq k0), .ref (dq k1), .int ik, .int (nI nh)]))] ++ (kd_dc dq ++ ([(dr, .inr (2, [.long u])), (so, .inr (7, [.ref sa, .ref sn, .int (nI T), .int go, .int (nI th), .int (nI sm)])), (sa, .inl (g.2.1 3, 6, .inr (.inr (.inr (.inr (fun j => some (tq j)))))))] ++ (kd_th tq R)))) t) A) ([.ref x, .int p0, .int p1, .int p2] : List Value).toArray s 0 0 A) (F0 m 69 ls []) := by
              intro n_69
              induction n_69 with
              | zero => intro i k b gv sv _ _ hm_69; exact absurd hm_69 (Nat.not_lt_zero _)
              | succ n_69 ih_69 =>
                intro i k b gv sv hik hq hm_69 H locs hP hD hS ls hl
                refine lv_iload hx hb dX10_halls_69 (lv_at hl 6 rfl) ?_
                refine lv_iload_n hx hb dX10_halls_71 rfl (lv_at hl 1 rfl) ?_
                refine lv_icmp_ge (tgt := 157) hx hb dX10_halls_72 (by decide) (fun c_72 => ?_) (fun c_72 => ?_)
                · try have n_72 : p0.toNatClampNeg ≤ i := kd_ce (a := p0.toNatClampNeg) (b := i) (by omega) (by omega) (by rw [← hp0]; exact c_72)
                  refine lv_iload_n hx hb dX10_halls_157 rfl (lv_at hl 3 rfl) ?_
                  by_cases c_158_0 : p2 = 0
                  · refine lv_lookup (off := 26) (tgt := 184) hx hb dX10_halls_158 (by decide) (by rw [c_158_0]; rfl) (by decide) ?_
                    refine lv_iload hx hb dX10_halls_184 (lv_at hl 4 rfl) ?_
                    refine kd_callIK (g := g) (wc := []) (va_runS (mc := 0) (ms := 0) (rm := { frames := 0, cells := 0, slots := 0, locals := 0 }) (As := [.int b]) (rest := []) ⟨hx, hb, hml, hown, hts⟩ (c_J6_bitCount_0f7a4 l g H.size b ) (va_cwS 1 hts gX10_halls_J6_bitCount_0f7a4 rfl rfl rfl (by decide +kernel) ⟨Nat.le_of_ble_eq_true rfl, Nat.le_of_ble_eq_true rfl⟩) (kd_preS (wc := []) (av := [.int b]) hP hD hS hA hK hE [] rfl (by decide)) rfl rfl hl.1 rfl (lv_room (Nat.le_of_ble_eq_true rfl)) dX10_halls_186 ⟨Nat.le_of_ble_eq_true rfl, Nat.le_of_ble_eq_true rfl⟩) hP hD hS hA [] rfl (fun r_186 _ H locs hw hP hS => ?_)
                    subst hw
                    exact kd_iret hx hb hr hlocks hK hS dX10_halls_189 (sv) (by rw [kd_halls, if_neg c_2, if_neg c_8, if_neg c_12, if_neg c_20, if_neg c_33, hq, show k = 0 by omega, kd_hl, kd_hr, if_pos c_158_0]) hP hD
                  · by_cases c_158_1 : p2 = 1
                    · refine lv_lookup (off := 32) (tgt := 190) hx hb dX10_halls_158 (by decide) (by rw [c_158_1]; rfl) (by decide) ?_
                      refine lv_iload hx hb dX10_halls_190 (lv_at hl 5 rfl) ?_
                      exact kd_iret hx hb hr hlocks hK hS dX10_halls_192 (sv) (by rw [kd_halls, if_neg c_2, if_neg c_8, if_neg c_12, if_neg c_20, if_neg c_33, hq, show k = 0 by omega, kd_hl, kd_hr, if_neg c_158_0, if_pos c_158_1]) hP hD
                    · refine lv_lookup (off := 35) (tgt := 193) hx hb dX10_halls_158 (by decide) (by have z0 := kd_ne2 c_158_0 (k := 0) (by decide); have z1 := kd_ne2 c_158_1 (k := 1) (by decide); generalize (p2 : Int32).toInt = zz at z0 z1 ⊢; simp [Op.lookupswitch.offset, z0, Ne.symm z0, z1, Ne.symm z1]) (by decide) ?_
                      refine lv_aload_n hx hb dX10_halls_193 rfl (lv_at hl 0 rfl) ?_
                      refine va_get (ci := 10) (v := .ref dr) (C := RX10) (T := TX10) (N := 10) hx hb hts hiX10 hown hK hP (0) rfl rfl 3 (by decide) (hts (.fieldLink RX10 49 "KingdomAtDice" "draws" "LKingdomAtDice$Draws;") (by decide +kernel)) (fun _ h9 => h9) rfl dX10_halls_194 ?_
                      refine kd_callIK (g := g) (wc := [(dr, .inr (2, [.long sv]))]) (va_runVN (mc := 0) (ms := 0) (rm := { frames := 0, cells := 0, slots := 0, locals := 0 }) (C := RX2) (host := "KingdomAtDice") (As := []) (rest := []) ⟨hx, hb, hml, hown, hts⟩ (c_X2_seedNow l g H.size dr sv ) ⟨va_cnB 0 hts gX10_halls_X2_seedNow_n234 rfl rfl rfl (kd_N hE 41 rfl) (hts (.initialized RX2) (by decide +kernel)) (by decide +kernel) ⟨Nat.le_of_ble_eq_true rfl, Nat.le_of_ble_eq_true rfl⟩, (hts (.instanceMethod yX2_seedNow) (by decide +kernel)), (hts (.selects RX2 yX2_seedNow yX2_seedNow) (by decide +kernel))⟩ (kd_preV (wc := [(dr, .inr (2, [.long sv]))]) (va_recv hK hP (ci := 2) (q0 := 6) rfl rfl) hP hD hS hA hK hE [6] rfl (by decide)) rfl rfl hl.1 rfl (lv_room (Nat.le_of_ble_eq_true rfl)) dX10_halls_197 ⟨Nat.le_of_ble_eq_true rfl, Nat.le_of_ble_eq_true rfl⟩) hP hD hS hA [6] rfl (fun r_197 _ H locs hw hP hS => ?_)
                      subst hw
                      exact kd_iret hx hb hr hlocks hK hS dX10_halls_200 (sv) (by rw [kd_halls, if_neg c_2, if_neg c_8, if_neg c_12, if_neg c_20, if_neg c_33, hq, show k = 0 by omega, kd_hl, kd_hr, if_neg c_158_0, if_neg c_158_1]) hP hD
                · have n_72 : i < p0.toNatClampNeg := kd_cne (a := p0.toNatClampNeg) (b := i) (by omega) (by omega) (by rw [← hp0]; exact c_72)
                  obtain ⟨k, rfl⟩ : ∃ z, k = z + 1 := ⟨k - 1, by omega⟩
                  refine lv_iload hx hb dX10_halls_75 (lv_at hl 4 rfl) ?_
                  refine lv_if_eq (tgt := 157) hx hb dX10_halls_77 (by decide) (fun c_77 => ?_) (fun c_77 => ?_)
                  · try have n_72 : p0.toNatClampNeg ≤ i := kd_ce (a := p0.toNatClampNeg) (b := i) (by omega) (by omega) (by rw [← hp0]; exact c_72)
                    refine lv_iload_n hx hb dX10_halls_157 rfl (lv_at hl 3 rfl) ?_
                    by_cases c_158_0 : p2 = 0
                    · refine lv_lookup (off := 26) (tgt := 184) hx hb dX10_halls_158 (by decide) (by rw [c_158_0]; rfl) (by decide) ?_
                      refine lv_iload hx hb dX10_halls_184 (lv_at hl 4 rfl) ?_
                      refine kd_callIK (g := g) (wc := []) (va_runS (mc := 0) (ms := 0) (rm := { frames := 0, cells := 0, slots := 0, locals := 0 }) (As := [.int b]) (rest := []) ⟨hx, hb, hml, hown, hts⟩ (c_J6_bitCount_0f7a4 l g H.size b ) (va_cwS 1 hts gX10_halls_J6_bitCount_0f7a4 rfl rfl rfl (by decide +kernel) ⟨Nat.le_of_ble_eq_true rfl, Nat.le_of_ble_eq_true rfl⟩) (kd_preS (wc := []) (av := [.int b]) hP hD hS hA hK hE [] rfl (by decide)) rfl rfl hl.1 rfl (lv_room (Nat.le_of_ble_eq_true rfl)) dX10_halls_186 ⟨Nat.le_of_ble_eq_true rfl, Nat.le_of_ble_eq_true rfl⟩) hP hD hS hA [] rfl (fun r_186 _ H locs hw hP hS => ?_)
                      subst hw
                      exact kd_iret hx hb hr hlocks hK hS dX10_halls_189 (sv) (by rw [kd_halls, if_neg c_2, if_neg c_8, if_neg c_12, if_neg c_20, if_neg c_33, hq, kd_hl_0 c_77, kd_hr, if_pos c_158_0]) hP hD
                    · by_cases c_158_1 : p2 = 1
                      · refine lv_lookup (off := 32) (tgt := 190) hx hb dX10_halls_158 (by decide) (by rw [c_158_1]; rfl) (by decide) ?_
                        refine lv_iload hx hb dX10_halls_190 (lv_at hl 5 rfl) ?_
                        exact kd_iret hx hb hr hlocks hK hS dX10_halls_192 (sv) (by rw [kd_halls, if_neg c_2, if_neg c_8, if_neg c_12, if_neg c_20, if_neg c_33, hq, kd_hl_0 c_77, kd_hr, if_neg c_158_0, if_pos c_158_1]) hP hD
                      · refine lv_lookup (off := 35) (tgt := 193) hx hb dX10_halls_158 (by decide) (by have z0 := kd_ne2 c_158_0 (k := 0) (by decide); have z1 := kd_ne2 c_158_1 (k := 1) (by decide); generalize (p2 : Int32).toInt = zz at z0 z1 ⊢; simp [Op.lookupswitch.offset, z0, Ne.symm z0, z1, Ne.symm z1]) (by decide) ?_
                        refine lv_aload_n hx hb dX10_halls_193 rfl (lv_at hl 0 rfl) ?_
                        refine va_get (ci := 10) (v := .ref dr) (C := RX10) (T := TX10) (N := 10) hx hb hts hiX10 hown hK hP (0) rfl rfl 3 (by decide) (hts (.fieldLink RX10 49 "KingdomAtDice" "draws" "LKingdomAtDice$Draws;") (by decide +kernel)) (fun _ h9 => h9) rfl dX10_halls_194 ?_
                        refine kd_callIK (g := g) (wc := [(dr, .inr (2, [.long sv]))]) (va_runVN (mc := 0) (ms := 0) (rm := { frames := 0, cells := 0, slots := 0, locals := 0 }) (C := RX2) (host := "KingdomAtDice") (As := []) (rest := []) ⟨hx, hb, hml, hown, hts⟩ (c_X2_seedNow l g H.size dr sv ) ⟨va_cnB 0 hts gX10_halls_X2_seedNow_n234 rfl rfl rfl (kd_N hE 41 rfl) (hts (.initialized RX2) (by decide +kernel)) (by decide +kernel) ⟨Nat.le_of_ble_eq_true rfl, Nat.le_of_ble_eq_true rfl⟩, (hts (.instanceMethod yX2_seedNow) (by decide +kernel)), (hts (.selects RX2 yX2_seedNow yX2_seedNow) (by decide +kernel))⟩ (kd_preV (wc := [(dr, .inr (2, [.long sv]))]) (va_recv hK hP (ci := 2) (q0 := 6) rfl rfl) hP hD hS hA hK hE [6] rfl (by decide)) rfl rfl hl.1 rfl (lv_room (Nat.le_of_ble_eq_true rfl)) dX10_halls_197 ⟨Nat.le_of_ble_eq_true rfl, Nat.le_of_ble_eq_true rfl⟩) hP hD hS hA [6] rfl (fun r_197 _ H locs hw hP hS => ?_)
                        subst hw
                        exact kd_iret hx hb hr hlocks hK hS dX10_halls_200 (sv) (by rw [kd_halls, if_neg c_2, if_neg c_8, if_neg c_12, if_neg c_20, if_neg c_33, hq, kd_hl_0 c_77, kd_hr, if_neg c_158_0, if_neg c_158_1]) hP hD
                  · refine lv_iload hx hb dX10_halls_80 (lv_at hl 4 rfl) ?_
                    refine kd_callIK (g := g) (wc := []) (va_runS (mc := 0) (ms := 0) (rm := { frames := 0, cells := 0, slots := 0, locals := 0 }) (As := [.int b]) (rest := []) ⟨hx, hb, hml, hown, hts⟩ (c_J6_lowestOneBit_0f7a4 l g H.size b ) (va_cwS 1 hts gX10_halls_J6_lowestOneBit_0f7a4 rfl rfl rfl (by decide +kernel) ⟨Nat.le_of_ble_eq_true rfl, Nat.le_of_ble_eq_true rfl⟩) (kd_preS (wc := []) (av := [.int b]) hP hD hS hA hK hE [] rfl (by decide)) rfl rfl hl.1 rfl (lv_room (Nat.le_of_ble_eq_true rfl)) dX10_halls_82 ⟨Nat.le_of_ble_eq_true rfl, Nat.le_of_ble_eq_true rfl⟩) hP hD hS hA [] rfl (fun r_82 _ H locs hw hP hS => ?_)
                    subst hw
                    refine lv_istore (lv' := [(7, .int (sp_J6_lowestOneBit_0f7a4 b)), (0, .ref x), (1, .int p0), (2, .int p1), (3, .int p2), (4, .int b), (5, .int gv), (6, .int (nI i))]) hx hb dX10_halls_85 hl (by decide) rfl (fun ls hl => ?_)
                    refine lv_aload_n hx hb dX10_halls_87 rfl (lv_at hl 1 rfl) ?_
                    refine va_get (ci := 10) (v := .ref (dq k0)) (C := RX10) (T := TX10) (N := 10) hx hb hts hiX10 hown hK hP (0) rfl rfl 6 (by decide) (hts (.fieldLink RX10 63 "KingdomAtDice" "kingDice" "LKingdomAtDice$Dice;") (by decide +kernel)) (fun _ h9 => h9) rfl dX10_halls_88 ?_
                    refine lv_aload_n hx hb dX10_halls_91 rfl (lv_at hl 1 rfl) ?_
                    refine va_get (ci := 10) (v := .ref dr) (C := RX10) (T := TX10) (N := 10) hx hb hts hiX10 hown hK hP (0) rfl rfl 3 (by decide) (hts (.fieldLink RX10 49 "KingdomAtDice" "draws" "LKingdomAtDice$Draws;") (by decide +kernel)) (fun _ h9 => h9) rfl dX10_halls_92 ?_
                    have run_95 : ∀ k_95 : Nat, k_95 < 5 → va_Run p l e ({ frames := 3, cells := 0, slots := 0, locals := 64 } : Room) s m ([.ref x, .int p0, .int p1, .int p2] : List Value).toArray below meth c H locs 0 0 0 0 (F0 m 95 ls [.ref dr, .ref (dq k_95)]) [] (va_Qi (fun r (u : Int64) => (r, u) = kd_fall k_95 sv) (fun u t => kd_post g (va_A (kd_dc dq ++ [(dr, .inr (2, [.long sv]))]) H.size) (kd_dc dq ++ [(dr, .inr (2, [.long u]))]) t) (va_A (kd_dc dq ++ [(dr, .inr (2, [.long sv]))]) H.size) (.ref (dq k_95) :: [.ref dr]).toArray) (va_A (kd_dc dq ++ [(dr, .inr (2, [.long sv]))]) H.size) := by
                      intro k_95 hk
                      rcases (show k_95 = 0 ∨ k_95 = 1 ∨ k_95 = 2 ∨ k_95 = 3 ∨ k_95 = 4 by omega) with rfl | rfl | rfl | rfl | rfl
                      · exact va_runV (mc := 0) (ms := 0) (rm := { frames := 1, cells := 0, slots := 0, locals := 21 }) (As := [.ref dr]) (rest := []) ⟨hx, hb, hml, hown, hts⟩ (c_fall_0 l g H.size dq dr sv ) (cwV 1 hts gX10_halls_X1_fall rfl rfl rfl (by decide +kernel) ⟨Nat.le_of_ble_eq_true rfl, Nat.le_of_ble_eq_true rfl⟩) (kd_preV (wc := (kd_dc dq ++ [(dr, .inr (2, [.long sv]))])) (va_recv hK hP (ci := 1) (q0 := 1) rfl rfl) hP hD hS hA hK hE [1, 2, 3, 4, 5, 6] rfl (by decide)) rfl rfl hl.1 rfl (lv_room (Nat.le_of_ble_eq_true rfl)) dX10_halls_95 ⟨Nat.le_of_ble_eq_true rfl, Nat.le_of_ble_eq_true rfl⟩
                      · exact va_runU (mc := 0) (ms := 0) (rm := { frames := 1, cells := 0, slots := 0, locals := 21 }) (C := RX3) (As := [.ref dr]) (rest := []) ⟨hx, hb, hml, hown, hts⟩ (c_fall_1 l g H.size dq dr sv ) (va_cwU 1 hts gX10_halls_X1_fall_u227X3 rfl rfl rfl rfl (by decide +kernel) ⟨Nat.le_of_ble_eq_true rfl, Nat.le_of_ble_eq_true rfl⟩) (kd_preV (wc := (kd_dc dq ++ [(dr, .inr (2, [.long sv]))])) (va_recv hK hP (ci := 3) (q0 := 2) rfl rfl) hP hD hS hA hK hE [1, 2, 3, 4, 5, 6] rfl (by decide)) rfl rfl hl.1 rfl (lv_room (Nat.le_of_ble_eq_true rfl)) dX10_halls_95 ⟨Nat.le_of_ble_eq_true rfl, Nat.le_of_ble_eq_true rfl⟩
                      · exact va_runU (mc := 0) (ms := 0) (rm := { frames := 1, cells := 0, slots := 0, locals := 21 }) (C := RX9) (As := [.ref dr]) (rest := []) ⟨hx, hb, hml, hown, hts⟩ (c_fall_2 l g H.size dq dr sv ) (va_cwO 1 hts gX10_halls_X9_fall_u227X9 rfl rfl rfl (show Cond.code yX1_fall cX1_fall 3 (some .int) ∈ _ by decide +kernel) (by decide +kernel) ⟨Nat.le_of_ble_eq_true rfl, Nat.le_of_ble_eq_true rfl⟩) (kd_preV (wc := (kd_dc dq ++ [(dr, .inr (2, [.long sv]))])) (va_recv hK hP (ci := 9) (q0 := 3) rfl rfl) hP hD hS hA hK hE [1, 2, 3, 4, 5, 6] rfl (by decide)) rfl rfl hl.1 rfl (lv_room (Nat.le_of_ble_eq_true rfl)) dX10_halls_95 ⟨Nat.le_of_ble_eq_true rfl, Nat.le_of_ble_eq_true rfl⟩
                      · exact va_runU (mc := 0) (ms := 0) (rm := { frames := 1, cells := 0, slots := 0, locals := 21 }) (C := RX4) (As := [.ref dr]) (rest := []) ⟨hx, hb, hml, hown, hts⟩ (c_fall_3 l g H.size dq dr sv ) (va_cwU 1 hts gX10_halls_X1_fall_u227X4 rfl rfl rfl rfl (by decide +kernel) ⟨Nat.le_of_ble_eq_true rfl, Nat.le_of_ble_eq_true rfl⟩) (kd_preV (wc := (kd_dc dq ++ [(dr, .inr (2, [.long sv]))])) (va_recv hK hP (ci := 4) (q0 := 4) rfl rfl) hP hD hS hA hK hE [1, 2, 3, 4, 5, 6] rfl (by decide)) rfl rfl hl.1 rfl (lv_room (Nat.le_of_ble_eq_true rfl)) dX10_halls_95 ⟨Nat.le_of_ble_eq_true rfl, Nat.le_of_ble_eq_true rfl⟩
                      · exact va_runU (mc := 0) (ms := 0) (rm := { frames := 1, cells := 0, slots := 0, locals := 21 }) (C := RX0) (As := [.ref dr]) (rest := []) ⟨hx, hb, hml, hown, hts⟩ (c_fall_4 l g H.size dq dr sv ) (va_cwU 1 hts gX10_halls_X1_fall_u227X0 rfl rfl rfl rfl (by decide +kernel) ⟨Nat.le_of_ble_eq_true rfl, Nat.le_of_ble_eq_true rfl⟩) (kd_preV (wc := (kd_dc dq ++ [(dr, .inr (2, [.long sv]))])) (va_recv hK hP (ci := 0) (q0 := 5) rfl rfl) hP hD hS hA hK hE [1, 2, 3, 4, 5, 6] rfl (by decide)) rfl rfl hl.1 rfl (lv_room (Nat.le_of_ble_eq_true rfl)) dX10_halls_95 ⟨Nat.le_of_ble_eq_true rfl, Nat.le_of_ble_eq_true rfl⟩
                    refine kd_callIM (Wf := fun (u : Int64) => (kd_dc dq ++ [(dr, .inr (2, [.long u]))])) (g := g) (wc := (kd_dc dq ++ [(dr, .inr (2, [.long sv]))])) (run_95 k0 hk0) hP hD hS hA [1, 2, 3, 4, 5, 6] rfl (by decide) (fun _ => rfl) (fun r_95 u_95 H locs hw_95 hP hD hS => ?_)
                    obtain ⟨sd_95, rfl⟩ : ∃ z, z = u_95 := ⟨_, rfl⟩
                    have hP : va_P g.1 vwCl ([(x, .inr (10, [.ref pg, .ref ka, .ref od, .ref dr, .ref so, .ref so2, .ref (dq k0), .ref (dq k1), .int ik, .int (nI nh)]))] ++ (kd_dc dq ++ ([(dr, .inr (2, [.long sd_95])), (so, .inr (7, [.ref sa, .ref sn, .int (nI T), .int go, .int (nI th), .int (nI sm)])), (sa, .inl (g.2.1 3, 6, .inr (.inr (.inr (.inr (fun j => some (tq j)))))))] ++ (kd_th tq R)))) H := hP
                    have hD : va_D A ([(x, .inr (10, [.ref pg, .ref ka, .ref od, .ref dr, .ref so, .ref so2, .ref (dq k0), .ref (dq k1), .int ik, .int (nI nh)]))] ++ (kd_dc dq ++ ([(dr, .inr (2, [.long sd_95])), (so, .inr (7, [.ref sa, .ref sn, .int (nI T), .int go, .int (nI th), .int (nI sm)])), (sa, .inl (g.2.1 3, 6, .inr (.inr (.inr (.inr (fun j => some (tq j)))))))] ++ (kd_th tq R)))) := hD
                    refine lv_istore (lv' := [(8, .int r_95), (7, .int (sp_J6_lowestOneBit_0f7a4 b)), (0, .ref x), (1, .int p0), (2, .int p1), (3, .int p2), (4, .int b), (5, .int gv), (6, .int (nI i))]) hx hb dX10_halls_98 hl (by decide) rfl (fun ls hl => ?_)
                    refine lv_aload_n hx hb dX10_halls_100 rfl (lv_at hl 2 rfl) ?_
                    refine va_get (ci := 10) (v := .ref (dq k1)) (C := RX10) (T := TX10) (N := 10) hx hb hts hiX10 hown hK hP (0) rfl rfl 7 (by decide) (hts (.fieldLink RX10 67 "KingdomAtDice" "cousinDice" "LKingdomAtDice$Dice;") (by decide +kernel)) (fun _ h9 => h9) rfl dX10_halls_101 ?_
                    refine lv_aload_n hx hb dX10_halls_104 rfl (lv_at hl 2 rfl) ?_
                    refine va_get (ci := 10) (v := .ref dr) (C := RX10) (T := TX10) (N := 10) hx hb hts hiX10 hown hK hP (0) rfl rfl 3 (by decide) (hts (.fieldLink RX10 49 "KingdomAtDice" "draws" "LKingdomAtDice$Draws;") (by decide +kernel)) (fun _ h9 => h9) rfl dX10_halls_105 ?_
                    have run_108 : ∀ k_108 : Nat, k_108 < 5 → va_Run p l e ({ frames := 3, cells := 0, slots := 0, locals := 64 } : Room) s m ([.ref x, .int p0, .int p1, .int p2] : List Value).toArray below meth c H locs 0 0 0 0 (F0 m 108 ls [.ref dr, .ref (dq k_108)]) [] (va_Qi (fun r (u : Int64) => (r, u) = kd_fall k_108 sd_95) (fun u t => kd_post g (va_A (kd_dc dq ++ [(dr, .inr (2, [.long sd_95]))]) H.size) (kd_dc dq ++ [(dr, .inr (2, [.long u]))]) t) (va_A (kd_dc dq ++ [(dr, .inr (2, [.long sd_95]))]) H.size) (.ref (dq k_108) :: [.ref dr]).toArray) (va_A (kd_dc dq ++ [(dr, .inr (2, [.long sd_95]))]) H.size) := by
                      intro k_108 hk
                      rcases (show k_108 = 0 ∨ k_108 = 1 ∨ k_108 = 2 ∨ k_108 = 3 ∨ k_108 = 4 by omega) with rfl | rfl | rfl | rfl | rfl
                      · exact va_runV (mc := 0) (ms := 0) (rm := { frames := 1, cells := 0, slots := 0, locals := 21 }) (As := [.ref dr]) (rest := []) ⟨hx, hb, hml, hown, hts⟩ (c_fall_0 l g H.size dq dr sd_95 ) (cwV 1 hts gX10_halls_X1_fall rfl rfl rfl (by decide +kernel) ⟨Nat.le_of_ble_eq_true rfl, Nat.le_of_ble_eq_true rfl⟩) (kd_preV (wc := (kd_dc dq ++ [(dr, .inr (2, [.long sd_95]))])) (va_recv hK hP (ci := 1) (q0 := 1) rfl rfl) hP hD hS hA hK hE [1, 2, 3, 4, 5, 6] rfl (by decide)) rfl rfl hl.1 rfl (lv_room (Nat.le_of_ble_eq_true rfl)) dX10_halls_108 ⟨Nat.le_of_ble_eq_true rfl, Nat.le_of_ble_eq_true rfl⟩
                      · exact va_runU (mc := 0) (ms := 0) (rm := { frames := 1, cells := 0, slots := 0, locals := 21 }) (C := RX3) (As := [.ref dr]) (rest := []) ⟨hx, hb, hml, hown, hts⟩ (c_fall_1 l g H.size dq dr sd_95 ) (va_cwU 1 hts gX10_halls_X1_fall_u227X3 rfl rfl rfl rfl (by decide +kernel) ⟨Nat.le_of_ble_eq_true rfl, Nat.le_of_ble_eq_true rfl⟩) (kd_preV (wc := (kd_dc dq ++ [(dr, .inr (2, [.long sd_95]))])) (va_recv hK hP (ci := 3) (q0 := 2) rfl rfl) hP hD hS hA hK hE [1, 2, 3, 4, 5, 6] rfl (by decide)) rfl rfl hl.1 rfl (lv_room (Nat.le_of_ble_eq_true rfl)) dX10_halls_108 ⟨Nat.le_of_ble_eq_true rfl, Nat.le_of_ble_eq_true rfl⟩
                      · exact va_runU (mc := 0) (ms := 0) (rm := { frames := 1, cells := 0, slots := 0, locals := 21 }) (C := RX9) (As := [.ref dr]) (rest := []) ⟨hx, hb, hml, hown, hts⟩ (c_fall_2 l g H.size dq dr sd_95 ) (va_cwO 1 hts gX10_halls_X9_fall_u227X9 rfl rfl rfl (show Cond.code yX1_fall cX1_fall 3 (some .int) ∈ _ by decide +kernel) (by decide +kernel) ⟨Nat.le_of_ble_eq_true rfl, Nat.le_of_ble_eq_true rfl⟩) (kd_preV (wc := (kd_dc dq ++ [(dr, .inr (2, [.long sd_95]))])) (va_recv hK hP (ci := 9) (q0 := 3) rfl rfl) hP hD hS hA hK hE [1, 2, 3, 4, 5, 6] rfl (by decide)) rfl rfl hl.1 rfl (lv_room (Nat.le_of_ble_eq_true rfl)) dX10_halls_108 ⟨Nat.le_of_ble_eq_true rfl, Nat.le_of_ble_eq_true rfl⟩
                      · exact va_runU (mc := 0) (ms := 0) (rm := { frames := 1, cells := 0, slots := 0, locals := 21 }) (C := RX4) (As := [.ref dr]) (rest := []) ⟨hx, hb, hml, hown, hts⟩ (c_fall_3 l g H.size dq dr sd_95 ) (va_cwU 1 hts gX10_halls_X1_fall_u227X4 rfl rfl rfl rfl (by decide +kernel) ⟨Nat.le_of_ble_eq_true rfl, Nat.le_of_ble_eq_true rfl⟩) (kd_preV (wc := (kd_dc dq ++ [(dr, .inr (2, [.long sd_95]))])) (va_recv hK hP (ci := 4) (q0 := 4) rfl rfl) hP hD hS hA hK hE [1, 2, 3, 4, 5, 6] rfl (by decide)) rfl rfl hl.1 rfl (lv_room (Nat.le_of_ble_eq_true rfl)) dX10_halls_108 ⟨Nat.le_of_ble_eq_true rfl, Nat.le_of_ble_eq_true rfl⟩
                      · exact va_runU (mc := 0) (ms := 0) (rm := { frames := 1, cells := 0, slots := 0, locals := 21 }) (C := RX0) (As := [.ref dr]) (rest := []) ⟨hx, hb, hml, hown, hts⟩ (c_fall_4 l g H.size dq dr sd_95 ) (va_cwU 1 hts gX10_halls_X1_fall_u227X0 rfl rfl rfl rfl (by decide +kernel) ⟨Nat.le_of_ble_eq_true rfl, Nat.le_of_ble_eq_true rfl⟩) (kd_preV (wc := (kd_dc dq ++ [(dr, .inr (2, [.long sd_95]))])) (va_recv hK hP (ci := 0) (q0 := 5) rfl rfl) hP hD hS hA hK hE [1, 2, 3, 4, 5, 6] rfl (by decide)) rfl rfl hl.1 rfl (lv_room (Nat.le_of_ble_eq_true rfl)) dX10_halls_108 ⟨Nat.le_of_ble_eq_true rfl, Nat.le_of_ble_eq_true rfl⟩
                    refine kd_callIM (Wf := fun (u : Int64) => (kd_dc dq ++ [(dr, .inr (2, [.long u]))])) (g := g) (wc := (kd_dc dq ++ [(dr, .inr (2, [.long sd_95]))])) (run_108 k1 hk1) hP hD hS hA [1, 2, 3, 4, 5, 6] rfl (by decide) (fun _ => rfl) (fun r_108 u_108 H locs hw_108 hP hD hS => ?_)
                    obtain ⟨sd_108, rfl⟩ : ∃ z, z = u_108 := ⟨_, rfl⟩
                    have hP : va_P g.1 vwCl ([(x, .inr (10, [.ref pg, .ref ka, .ref od, .ref dr, .ref so, .ref so2, .ref (dq k0), .ref (dq k1), .int ik, .int (nI nh)]))] ++ (kd_dc dq ++ ([(dr, .inr (2, [.long sd_108])), (so, .inr (7, [.ref sa, .ref sn, .int (nI T), .int go, .int (nI th), .int (nI sm)])), (sa, .inl (g.2.1 3, 6, .inr (.inr (.inr (.inr (fun j => some (tq j)))))))] ++ (kd_th tq R)))) H := hP
                    have hD : va_D A ([(x, .inr (10, [.ref pg, .ref ka, .ref od, .ref dr, .ref so, .ref so2, .ref (dq k0), .ref (dq k1), .int ik, .int (nI nh)]))] ++ (kd_dc dq ++ ([(dr, .inr (2, [.long sd_108])), (so, .inr (7, [.ref sa, .ref sn, .int (nI T), .int go, .int (nI th), .int (nI sm)])), (sa, .inl (g.2.1 3, 6, .inr (.inr (.inr (.inr (fun j => some (tq j)))))))] ++ (kd_th tq R)))) := hD
                    refine lv_istore (lv' := [(9, .int r_108), (8, .int r_95), (7, .int (sp_J6_lowestOneBit_0f7a4 b)), (0, .ref x), (1, .int p0), (2, .int p1), (3, .int p2), (4, .int b), (5, .int gv), (6, .int (nI i))]) hx hb dX10_halls_111 hl (by decide) rfl (fun ls hl => ?_)
                    refine lv_iload hx hb dX10_halls_113 (lv_at hl 1 rfl) ?_
                    refine lv_iload hx hb dX10_halls_115 (lv_at hl 0 rfl) ?_
                    refine lv_icmp_le (tgt := 137) hx hb dX10_halls_117 (by decide) (fun c_117 => ?_) (fun c_117 => ?_)
                    · refine lv_iload hx hb dX10_halls_137 (lv_at hl 1 rfl) ?_
                      refine lv_iload hx hb dX10_halls_139 (lv_at hl 0 rfl) ?_
                      refine lv_icmp_ge (tgt := 151) hx hb dX10_halls_141 (by decide) (fun c_141 => ?_) (fun c_141 => ?_)
                      · refine lv_iinc (v := nI (i + 1)) (lv' := [(6, .int (nI (i + 1))), (9, .int r_108), (8, .int r_95), (7, .int (sp_J6_lowestOneBit_0f7a4 b)), (0, .ref x), (1, .int p0), (2, .int p1), (3, .int p2), (4, .int b), (5, .int gv)]) hx hb dX10_halls_151 hl (k := 9) rfl (nI_1 _) (by decide) rfl (fun ls hl => ?_)
                        refine lv_goto (tgt := 69) hx hb dX10_halls_154 (by decide) ?_
                        exact ih_69 (i + 1) k b gv sd_108 (by omega) (by rw [hq, kd_hl]; dsimp only; rw [if_neg c_77, ← hw_95]; dsimp only; rw [← hw_108]; dsimp only; rw [if_pos c_117, if_pos c_141]) (by omega) _ _ hP hD hS ls (lv_sub hl [4, 5, 6, 7, 8, 9, 0] rfl)
                      · refine lv_iload hx hb dX10_halls_144 (lv_at hl 7 rfl) ?_
                        refine lv_iload hx hb dX10_halls_146 (lv_at hl 2 rfl) ?_
                        refine lv_isub hx hb dX10_halls_148 ?_
                        refine lv_istore (lv' := [(4, .int (b - (sp_J6_lowestOneBit_0f7a4 b))), (9, .int r_108), (8, .int r_95), (7, .int (sp_J6_lowestOneBit_0f7a4 b)), (0, .ref x), (1, .int p0), (2, .int p1), (3, .int p2), (5, .int gv), (6, .int (nI i))]) hx hb dX10_halls_149 hl (by decide) rfl (fun ls hl => ?_)
                        refine lv_iinc (v := nI (i + 1)) (lv' := [(6, .int (nI (i + 1))), (4, .int (b - (sp_J6_lowestOneBit_0f7a4 b))), (9, .int r_108), (8, .int r_95), (7, .int (sp_J6_lowestOneBit_0f7a4 b)), (0, .ref x), (1, .int p0), (2, .int p1), (3, .int p2), (5, .int gv)]) hx hb dX10_halls_151 hl (k := 9) rfl (nI_1 _) (by decide) rfl (fun ls hl => ?_)
                        refine lv_goto (tgt := 69) hx hb dX10_halls_154 (by decide) ?_
                        exact ih_69 (i + 1) k (b - (sp_J6_lowestOneBit_0f7a4 b)) gv sd_108 (by omega) (by rw [hq, kd_hl]; dsimp only; rw [if_neg c_77, ← hw_95]; dsimp only; rw [← hw_108]; dsimp only; rw [if_pos c_117, if_neg c_141]) (by omega) _ _ hP hD hS ls (lv_sub hl [5, 6, 7, 8, 1, 9, 0] rfl)
                    · refine lv_iload hx hb dX10_halls_120 (lv_at hl 8 rfl) ?_
                      refine lv_aload_n hx hb dX10_halls_122 rfl (lv_at hl 3 rfl) ?_
                      refine va_get (ci := 10) (v := .ref so) (C := RX10) (T := TX10) (N := 10) hx hb hts hiX10 hown hK hP (0) rfl rfl 4 (by decide) (hts (.fieldLink RX10 56 "KingdomAtDice" "now" "LKingdomAtDice$Standing;") (by decide +kernel)) (fun _ h9 => h9) rfl dX10_halls_123 ?_
                      refine lv_iload hx hb dX10_halls_126 (lv_at hl 2 rfl) ?_
                      refine kd_callIK (g := g) (wc := ([(so, .inr (7, [.ref sa, .ref sn, .int (nI T), .int go, .int (nI th), .int (nI sm)])), (sa, .inl (g.2.1 3, 6, .inr (.inr (.inr (.inr (fun j => some (tq j)))))))] ++ (kd_th tq R))) (va_runVN (mc := 0) (ms := 0) (rm := { frames := 0, cells := 0, slots := 0, locals := 0 }) (C := RX7) (host := "KingdomAtDice") (As := [.int (sp_J6_lowestOneBit_0f7a4 b)]) (rest := [.int gv]) ⟨hx, hb, hml, hown, hts⟩ (c_X7_worthOf l g H.size so sa sn T go th sm tq R (sp_J6_lowestOneBit_0f7a4 b) hT) ⟨va_cnB 1 hts gX10_halls_X7_worthOf_n197 rfl rfl rfl (kd_N hE 34 rfl) (hts (.initialized RX7) (by decide +kernel)) (by decide +kernel) ⟨Nat.le_of_ble_eq_true rfl, Nat.le_of_ble_eq_true rfl⟩, (hts (.instanceMethod yX7_worthOf) (by decide +kernel)), (hts (.selects RX7 yX7_worthOf yX7_worthOf) (by decide +kernel))⟩ (kd_preV (wc := ([(so, .inr (7, [.ref sa, .ref sn, .int (nI T), .int go, .int (nI th), .int (nI sm)])), (sa, .inl (g.2.1 3, 6, .inr (.inr (.inr (.inr (fun j => some (tq j)))))))] ++ (kd_th tq R))) (va_recv hK hP (ci := 7) (q0 := 7) rfl rfl) hP hD hS hA hK hE [7, 8, 9, 10, 11, 12, 13, 14] rfl (by decide)) rfl rfl hl.1 rfl (lv_room (Nat.le_of_ble_eq_true rfl)) dX10_halls_128 ⟨Nat.le_of_ble_eq_true rfl, Nat.le_of_ble_eq_true rfl⟩) hP hD hS hA [7, 8, 9, 10, 11, 12, 13, 14] rfl (fun r_128 _ H locs hw hP hS => ?_)
                      subst hw
                      refine lv_iadd hx hb dX10_halls_131 ?_
                      refine lv_istore (lv' := [(5, .int (gv + (kd_wo R (sp_J6_lowestOneBit_0f7a4 b) T))), (9, .int r_108), (8, .int r_95), (7, .int (sp_J6_lowestOneBit_0f7a4 b)), (0, .ref x), (1, .int p0), (2, .int p1), (3, .int p2), (4, .int b), (6, .int (nI i))]) hx hb dX10_halls_132 hl (by decide) rfl (fun ls hl => ?_)
                      refine lv_goto (tgt := 151) hx hb dX10_halls_134 (by decide) ?_
                      refine lv_iinc (v := nI (i + 1)) (lv' := [(6, .int (nI (i + 1))), (5, .int (gv + (kd_wo R (sp_J6_lowestOneBit_0f7a4 b) T))), (9, .int r_108), (8, .int r_95), (7, .int (sp_J6_lowestOneBit_0f7a4 b)), (0, .ref x), (1, .int p0), (2, .int p1), (3, .int p2), (4, .int b)]) hx hb dX10_halls_151 hl (k := 9) rfl (nI_1 _) (by decide) rfl (fun ls hl => ?_)
                      refine lv_goto (tgt := 69) hx hb dX10_halls_154 (by decide) ?_
                      exact ih_69 (i + 1) k b (gv + (kd_wo R (sp_J6_lowestOneBit_0f7a4 b) T)) sd_108 (by omega) (by rw [hq, kd_hl]; dsimp only; rw [if_neg c_77, ← hw_95]; dsimp only; rw [← hw_108]; dsimp only; rw [if_neg c_117]) (by omega) _ _ hP hD hS ls (lv_sub hl [5, 6, 7, 8, 9, 1, 0] rfl)
            exact loop_69 (p0.toNatClampNeg + 1) 0 p0.toNatClampNeg (kd_kb R 0 T) go sd_63 (by omega) (by rw [hw_63]; rfl) (Nat.lt_succ_self _) _ _ hP hD hS ls (lv_sub hl [3, 4, 5, 6, 2, 1, 0] rfl)
          · refine lv_bipush (v := (-103)) hx hb dX10_halls_36 (by decide) ?_
            exact kd_iret hx hb hr hlocks hK hS dX10_halls_38 (sd) (by rw [kd_halls, if_neg c_2, if_neg c_8, if_neg c_12, if_neg c_20, if_pos c_33]) hP hD
        · refine lv_bipush (v := (-102)) hx hb dX10_halls_23 (by decide) ?_
          exact kd_iret hx hb hr hlocks hK hS dX10_halls_25 (sd) (by rw [kd_halls, if_neg c_2, if_neg c_8, if_neg c_12, if_pos c_20]) hP hD
/-- what KingdomAtDice.count answers and leaves, by its instructions -/
def sp_X10_count (nh : Nat) (pn : Nat) (T : Nat) (go : Int32) (th : Nat) (sm : Nat) (R : Nat → Nat → Int32) (p0 : Int32) : Int32 :=
  if p0 = 0 then
    nI T
  else
    if p0 = 1 then
      sp_J6_bitCount_0f7a4 (kd_kb R 0 T)
    else
      if p0 = 2 then
        kd_wo R (kd_kb R 0 T) T
      else
        if p0 = 3 then
          go
        else
          if p0 = 4 then
            nI th
          else
            if p0 = 5 then
              nI (kd_wr R T)
            else
              if p0 = 6 then
                nI sm
              else
                if p0 = 7 then
                  nI pn
                else
                  if p0 = 8 then
                    nI nh
                  else
                    (-102)
set_option maxHeartbeats 4000000 in
set_option maxRecDepth 100000 in
theorem c_X10_count (l : Launch) (g : kd_G) (sz : Nat) (x : Nat) (pg : Nat) (ka : Nat) (od : Nat) (dr : Nat) (so : Nat) (so2 : Nat) (dq : Nat → Nat) (k0 : Nat) (k1 : Nat) (ik : Int32) (nh : Nat) (pc : Nat) (pf : Nat → Int32) (pn : Nat) (sa : Nat) (sn : Nat) (T : Nat) (go : Int32) (th : Nat) (sm : Nat) (tq : Nat → Nat) (R : Nat → Nat → Int32) (p0 : Int32) (hpn : pn ≤ 22) (hT : T ≤ 6) : kd_MI l yX10_count wsX10_count ({ frames := 3, cells := 0, slots := 0, locals := 64 }) [.ref x, .int p0] g ([(x, .inr (10, [.ref pg, .ref ka, .ref od, .ref dr, .ref so, .ref so2, .ref (dq k0), .ref (dq k1), .int ik, .int (nI nh)])), (pg, .inr (6, [.ref pc, .int (nI pn)])), (pc, .inl (g.2.1 0, 22, .inl pf)), (so, .inr (7, [.ref sa, .ref sn, .int (nI T), .int go, .int (nI th), .int (nI sm)])), (sa, .inl (g.2.1 3, 6, .inr (.inr (.inr (.inr (fun j => some (tq j)))))))] ++ (kd_th tq R)) sz (fun r (_ : Unit) => r = sp_X10_count nh pn T go th sm R p0) (fun _ => ([(x, .inr (10, [.ref pg, .ref ka, .ref od, .ref dr, .ref so, .ref so2, .ref (dq k0), .ref (dq k1), .int ik, .int (nI nh)])), (pg, .inr (6, [.ref pc, .int (nI pn)])), (pc, .inl (g.2.1 0, 22, .inl pf)), (so, .inr (7, [.ref sa, .ref sn, .int (nI T), .int go, .int (nI th), .int (nI sm)])), (sa, .inl (g.2.1 3, 6, .inr (.inr (.inr (.inr (fun j => some (tq j)))))))] ++ (kd_th tq R))) 0 0 := by
  refine kd_met (l := l) (y := yX10_count) (ws := wsX10_count) (rm := { frames := 3, cells := 0, slots := 0, locals := 64 }) (av := [.ref x, .int p0]) (g := g) (WS := ([(x, .inr (10, [.ref pg, .ref ka, .ref od, .ref dr, .ref so, .ref so2, .ref (dq k0), .ref (dq k1), .int ik, .int (nI nh)])), (pg, .inr (6, [.ref pc, .int (nI pn)])), (pc, .inl (g.2.1 0, 22, .inl pf)), (so, .inr (7, [.ref sa, .ref sn, .int (nI T), .int go, .int (nI th), .int (nI sm)])), (sa, .inl (g.2.1 3, 6, .inr (.inr (.inr (.inr (fun j => some (tq j)))))))] ++ (kd_th tq R))) (sz := sz) (mc := 0) (ms := 0) (cc := cX10_count) (maxL := 2) (ret := (some .int)) (own := RX10) (fun A => va_Qi (fun r (_ : Unit) => r = sp_X10_count nh pn T go th sm R p0) (fun u t => kd_post g A ([(x, .inr (10, [.ref pg, .ref ka, .ref od, .ref dr, .ref so, .ref so2, .ref (dq k0), .ref (dq k1), .int ik, .int (nI nh)])), (pg, .inr (6, [.ref pc, .int (nI pn)])), (pc, .inl (g.2.1 0, 22, .inl pf)), (so, .inr (7, [.ref sa, .ref sn, .int (nI T), .int go, .int (nI th), .int (nI sm)])), (sa, .inl (g.2.1 3, 6, .inr (.inr (.inr (.inr (fun j => some (tq j)))))))] ++ (kd_th tq R)) t) A) (by decide) rfl rfl (Nat.le_of_ble_eq_true rfl) ?_
  intro p e s m below meth c A ls hx hb hr hml hts hown hlocks hnm hA hP hK hD hS hE hl
  have hl : lv_has ls 2 [(0, .ref x), (1, .int p0)] := hl
  have hiX6 : ∀ w ∈ u_ws RX6 TX6 2, w ∈ wsX10_count := by decide +kernel
  have hiX7 : ∀ w ∈ u_ws RX7 TX7 6, w ∈ wsX10_count := by decide +kernel
  have hiX10 : ∀ w ∈ u_ws RX10 TX10 10, w ∈ wsX10_count := by decide +kernel
  refine lv_iload_n hx hb dX10_count_0 rfl (lv_at hl 1 rfl) ?_
  by_cases c_1_0 : p0 = 0
  · refine lv_tableIn (off := 51) (tgt := 52) hx hb dX10_count_1 (by rw [c_1_0]; decide) (by rw [c_1_0]; decide) (by rw [c_1_0]; rfl) (by decide) ?_
    refine lv_aload_n hx hb dX10_count_52 rfl (lv_at hl 0 rfl) ?_
    refine va_get (ci := 10) (v := .ref so) (C := RX10) (T := TX10) (N := 10) hx hb hts hiX10 hown hK hP (0) rfl rfl 4 (by decide) (hts (.fieldLink RX10 56 "KingdomAtDice" "now" "LKingdomAtDice$Standing;") (by decide +kernel)) (fun _ h9 => h9) rfl dX10_count_53 ?_
    refine va_getN (ci := 7) (v := .int (nI T)) (C := RX7) (T := TX7) (N := 6) hx hb hts hiX7 hown hK hP (3) rfl rfl 2 (by decide) (kd_Nb hE 54 rfl) (fun _ h9 => h9) rfl dX10_count_56 ?_
    exact kd_iret hx hb hr hlocks hK hS dX10_count_59 (()) (by rw [sp_X10_count, if_pos c_1_0]) hP hD
  · by_cases c_1_1 : p0 = 1
    · refine lv_tableIn (off := 59) (tgt := 60) hx hb dX10_count_1 (by rw [c_1_1]; decide) (by rw [c_1_1]; decide) (by rw [c_1_1]; rfl) (by decide) ?_
      refine lv_aload_n hx hb dX10_count_60 rfl (lv_at hl 0 rfl) ?_
      refine va_get (ci := 10) (v := .ref so) (C := RX10) (T := TX10) (N := 10) hx hb hts hiX10 hown hK hP (0) rfl rfl 4 (by decide) (hts (.fieldLink RX10 56 "KingdomAtDice" "now" "LKingdomAtDice$Standing;") (by decide +kernel)) (fun _ h9 => h9) rfl dX10_count_61 ?_
      refine lv_iconst (v := 0) hx hb dX10_count_64 (by decide) ?_
      refine kd_callIK (g := g) (wc := ([(so, .inr (7, [.ref sa, .ref sn, .int (nI T), .int go, .int (nI th), .int (nI sm)])), (sa, .inl (g.2.1 3, 6, .inr (.inr (.inr (.inr (fun j => some (tq j)))))))] ++ (kd_th tq R))) (va_runVN (mc := 0) (ms := 0) (rm := { frames := 2, cells := 0, slots := 0, locals := 41 }) (C := RX7) (host := "KingdomAtDice") (As := [.int 0]) (rest := []) ⟨hx, hb, hml, hown, hts⟩ (c_X7_kingsBy l g s.heap.size so sa sn T go th sm tq R 0 hT) ⟨va_cnB 1 hts gX10_count_X7_kingsBy_n194 rfl rfl rfl (kd_N hE 32 rfl) (hts (.initialized RX7) (by decide +kernel)) (by decide +kernel) ⟨Nat.le_of_ble_eq_true rfl, Nat.le_of_ble_eq_true rfl⟩, (hts (.instanceMethod yX7_kingsBy) (by decide +kernel)), (hts (.selects RX7 yX7_kingsBy yX7_kingsBy) (by decide +kernel))⟩ (kd_preV (wc := ([(so, .inr (7, [.ref sa, .ref sn, .int (nI T), .int go, .int (nI th), .int (nI sm)])), (sa, .inl (g.2.1 3, 6, .inr (.inr (.inr (.inr (fun j => some (tq j)))))))] ++ (kd_th tq R))) (va_recv hK hP (ci := 7) (q0 := 3) rfl rfl) hP hD hS hA hK hE [3, 4, 5, 6, 7, 8, 9, 10] rfl (by decide)) rfl rfl hl.1 rfl (lv_room (Nat.le_of_ble_eq_true rfl)) dX10_count_65 ⟨Nat.le_of_ble_eq_true rfl, Nat.le_of_ble_eq_true rfl⟩) hP hD hS hA [3, 4, 5, 6, 7, 8, 9, 10] rfl (fun r_65 _ H locs hw hP hS => ?_)
      subst hw
      refine kd_callIK (g := g) (wc := []) (va_runS (mc := 0) (ms := 0) (rm := { frames := 0, cells := 0, slots := 0, locals := 0 }) (As := [.int (kd_kb R 0 T)]) (rest := []) ⟨hx, hb, hml, hown, hts⟩ (c_J6_bitCount_0f7a4 l g H.size (kd_kb R 0 T) ) (va_cwS 1 hts gX10_count_J6_bitCount_0f7a4 rfl rfl rfl (by decide +kernel) ⟨Nat.le_of_ble_eq_true rfl, Nat.le_of_ble_eq_true rfl⟩) (kd_preS (wc := []) (av := [.int (kd_kb R 0 T)]) hP hD hS hA hK hE [] rfl (by decide)) rfl rfl hl.1 rfl (lv_room (Nat.le_of_ble_eq_true rfl)) dX10_count_68 ⟨Nat.le_of_ble_eq_true rfl, Nat.le_of_ble_eq_true rfl⟩) hP hD hS hA [] rfl (fun r_68 _ H locs hw hP hS => ?_)
      subst hw
      exact kd_iret hx hb hr hlocks hK hS dX10_count_71 (()) (by rw [sp_X10_count, if_neg c_1_0, if_pos c_1_1]) hP hD
    · by_cases c_1_2 : p0 = 2
      · refine lv_tableIn (off := 71) (tgt := 72) hx hb dX10_count_1 (by rw [c_1_2]; decide) (by rw [c_1_2]; decide) (by rw [c_1_2]; rfl) (by decide) ?_
        refine lv_aload_n hx hb dX10_count_72 rfl (lv_at hl 0 rfl) ?_
        refine va_get (ci := 10) (v := .ref so) (C := RX10) (T := TX10) (N := 10) hx hb hts hiX10 hown hK hP (0) rfl rfl 4 (by decide) (hts (.fieldLink RX10 56 "KingdomAtDice" "now" "LKingdomAtDice$Standing;") (by decide +kernel)) (fun _ h9 => h9) rfl dX10_count_73 ?_
        refine lv_aload_n hx hb dX10_count_76 rfl (lv_at hl 0 rfl) ?_
        refine va_get (ci := 10) (v := .ref so) (C := RX10) (T := TX10) (N := 10) hx hb hts hiX10 hown hK hP (0) rfl rfl 4 (by decide) (hts (.fieldLink RX10 56 "KingdomAtDice" "now" "LKingdomAtDice$Standing;") (by decide +kernel)) (fun _ h9 => h9) rfl dX10_count_77 ?_
        refine lv_iconst (v := 0) hx hb dX10_count_80 (by decide) ?_
        refine kd_callIK (g := g) (wc := ([(so, .inr (7, [.ref sa, .ref sn, .int (nI T), .int go, .int (nI th), .int (nI sm)])), (sa, .inl (g.2.1 3, 6, .inr (.inr (.inr (.inr (fun j => some (tq j)))))))] ++ (kd_th tq R))) (va_runVN (mc := 0) (ms := 0) (rm := { frames := 2, cells := 0, slots := 0, locals := 41 }) (C := RX7) (host := "KingdomAtDice") (As := [.int 0]) (rest := [.ref so]) ⟨hx, hb, hml, hown, hts⟩ (c_X7_kingsBy l g s.heap.size so sa sn T go th sm tq R 0 hT) ⟨va_cnB 1 hts gX10_count_X7_kingsBy_n194 rfl rfl rfl (kd_N hE 32 rfl) (hts (.initialized RX7) (by decide +kernel)) (by decide +kernel) ⟨Nat.le_of_ble_eq_true rfl, Nat.le_of_ble_eq_true rfl⟩, (hts (.instanceMethod yX7_kingsBy) (by decide +kernel)), (hts (.selects RX7 yX7_kingsBy yX7_kingsBy) (by decide +kernel))⟩ (kd_preV (wc := ([(so, .inr (7, [.ref sa, .ref sn, .int (nI T), .int go, .int (nI th), .int (nI sm)])), (sa, .inl (g.2.1 3, 6, .inr (.inr (.inr (.inr (fun j => some (tq j)))))))] ++ (kd_th tq R))) (va_recv hK hP (ci := 7) (q0 := 3) rfl rfl) hP hD hS hA hK hE [3, 4, 5, 6, 7, 8, 9, 10] rfl (by decide)) rfl rfl hl.1 rfl (lv_room (Nat.le_of_ble_eq_true rfl)) dX10_count_81 ⟨Nat.le_of_ble_eq_true rfl, Nat.le_of_ble_eq_true rfl⟩) hP hD hS hA [3, 4, 5, 6, 7, 8, 9, 10] rfl (fun r_81 _ H locs hw hP hS => ?_)
        subst hw
        refine kd_callIK (g := g) (wc := ([(so, .inr (7, [.ref sa, .ref sn, .int (nI T), .int go, .int (nI th), .int (nI sm)])), (sa, .inl (g.2.1 3, 6, .inr (.inr (.inr (.inr (fun j => some (tq j)))))))] ++ (kd_th tq R))) (va_runVN (mc := 0) (ms := 0) (rm := { frames := 0, cells := 0, slots := 0, locals := 0 }) (C := RX7) (host := "KingdomAtDice") (As := [.int (kd_kb R 0 T)]) (rest := []) ⟨hx, hb, hml, hown, hts⟩ (c_X7_worthOf l g H.size so sa sn T go th sm tq R (kd_kb R 0 T) hT) ⟨va_cnB 1 hts gX10_count_X7_worthOf_n197 rfl rfl rfl (kd_N hE 34 rfl) (hts (.initialized RX7) (by decide +kernel)) (by decide +kernel) ⟨Nat.le_of_ble_eq_true rfl, Nat.le_of_ble_eq_true rfl⟩, (hts (.instanceMethod yX7_worthOf) (by decide +kernel)), (hts (.selects RX7 yX7_worthOf yX7_worthOf) (by decide +kernel))⟩ (kd_preV (wc := ([(so, .inr (7, [.ref sa, .ref sn, .int (nI T), .int go, .int (nI th), .int (nI sm)])), (sa, .inl (g.2.1 3, 6, .inr (.inr (.inr (.inr (fun j => some (tq j)))))))] ++ (kd_th tq R))) (va_recv hK hP (ci := 7) (q0 := 3) rfl rfl) hP hD hS hA hK hE [3, 4, 5, 6, 7, 8, 9, 10] rfl (by decide)) rfl rfl hl.1 rfl (lv_room (Nat.le_of_ble_eq_true rfl)) dX10_count_84 ⟨Nat.le_of_ble_eq_true rfl, Nat.le_of_ble_eq_true rfl⟩) hP hD hS hA [3, 4, 5, 6, 7, 8, 9, 10] rfl (fun r_84 _ H locs hw hP hS => ?_)
        subst hw
        exact kd_iret hx hb hr hlocks hK hS dX10_count_87 (()) (by rw [sp_X10_count, if_neg c_1_0, if_neg c_1_1, if_pos c_1_2]) hP hD
      · by_cases c_1_3 : p0 = 3
        · refine lv_tableIn (off := 87) (tgt := 88) hx hb dX10_count_1 (by rw [c_1_3]; decide) (by rw [c_1_3]; decide) (by rw [c_1_3]; rfl) (by decide) ?_
          refine lv_aload_n hx hb dX10_count_88 rfl (lv_at hl 0 rfl) ?_
          refine va_get (ci := 10) (v := .ref so) (C := RX10) (T := TX10) (N := 10) hx hb hts hiX10 hown hK hP (0) rfl rfl 4 (by decide) (hts (.fieldLink RX10 56 "KingdomAtDice" "now" "LKingdomAtDice$Standing;") (by decide +kernel)) (fun _ h9 => h9) rfl dX10_count_89 ?_
          refine va_getN (ci := 7) (v := .int go) (C := RX7) (T := TX7) (N := 6) hx hb hts hiX7 hown hK hP (3) rfl rfl 3 (by decide) (kd_Nb hE 55 rfl) (fun _ h9 => h9) rfl dX10_count_92 ?_
          exact kd_iret hx hb hr hlocks hK hS dX10_count_95 (()) (by rw [sp_X10_count, if_neg c_1_0, if_neg c_1_1, if_neg c_1_2, if_pos c_1_3]) hP hD
        · by_cases c_1_4 : p0 = 4
          · refine lv_tableIn (off := 95) (tgt := 96) hx hb dX10_count_1 (by rw [c_1_4]; decide) (by rw [c_1_4]; decide) (by rw [c_1_4]; rfl) (by decide) ?_
            refine lv_aload_n hx hb dX10_count_96 rfl (lv_at hl 0 rfl) ?_
            refine va_get (ci := 10) (v := .ref so) (C := RX10) (T := TX10) (N := 10) hx hb hts hiX10 hown hK hP (0) rfl rfl 4 (by decide) (hts (.fieldLink RX10 56 "KingdomAtDice" "now" "LKingdomAtDice$Standing;") (by decide +kernel)) (fun _ h9 => h9) rfl dX10_count_97 ?_
            refine va_getN (ci := 7) (v := .int (nI th)) (C := RX7) (T := TX7) (N := 6) hx hb hts hiX7 hown hK hP (3) rfl rfl 4 (by decide) (kd_Nb hE 56 rfl) (fun _ h9 => h9) rfl dX10_count_100 ?_
            exact kd_iret hx hb hr hlocks hK hS dX10_count_103 (()) (by rw [sp_X10_count, if_neg c_1_0, if_neg c_1_1, if_neg c_1_2, if_neg c_1_3, if_pos c_1_4]) hP hD
          · by_cases c_1_5 : p0 = 5
            · refine lv_tableIn (off := 103) (tgt := 104) hx hb dX10_count_1 (by rw [c_1_5]; decide) (by rw [c_1_5]; decide) (by rw [c_1_5]; rfl) (by decide) ?_
              refine lv_aload_n hx hb dX10_count_104 rfl (lv_at hl 0 rfl) ?_
              refine va_get (ci := 10) (v := .ref so) (C := RX10) (T := TX10) (N := 10) hx hb hts hiX10 hown hK hP (0) rfl rfl 4 (by decide) (hts (.fieldLink RX10 56 "KingdomAtDice" "now" "LKingdomAtDice$Standing;") (by decide +kernel)) (fun _ h9 => h9) rfl dX10_count_105 ?_
              refine kd_callIK (g := g) (wc := ([(so, .inr (7, [.ref sa, .ref sn, .int (nI T), .int go, .int (nI th), .int (nI sm)])), (sa, .inl (g.2.1 3, 6, .inr (.inr (.inr (.inr (fun j => some (tq j)))))))] ++ (kd_th tq R))) (va_runVN (mc := 0) (ms := 0) (rm := { frames := 1, cells := 0, slots := 0, locals := 20 }) (C := RX7) (host := "KingdomAtDice") (As := []) (rest := []) ⟨hx, hb, hml, hown, hts⟩ (c_X7_wrongMany l g s.heap.size so sa sn T go th sm tq R hT) ⟨va_cnB 0 hts gX10_count_X7_wrongMany_n241 rfl rfl rfl (kd_N hE 44 rfl) (hts (.initialized RX7) (by decide +kernel)) (by decide +kernel) ⟨Nat.le_of_ble_eq_true rfl, Nat.le_of_ble_eq_true rfl⟩, (hts (.instanceMethod yX7_wrongMany) (by decide +kernel)), (hts (.selects RX7 yX7_wrongMany yX7_wrongMany) (by decide +kernel))⟩ (kd_preV (wc := ([(so, .inr (7, [.ref sa, .ref sn, .int (nI T), .int go, .int (nI th), .int (nI sm)])), (sa, .inl (g.2.1 3, 6, .inr (.inr (.inr (.inr (fun j => some (tq j)))))))] ++ (kd_th tq R))) (va_recv hK hP (ci := 7) (q0 := 3) rfl rfl) hP hD hS hA hK hE [3, 4, 5, 6, 7, 8, 9, 10] rfl (by decide)) rfl rfl hl.1 rfl (lv_room (Nat.le_of_ble_eq_true rfl)) dX10_count_108 ⟨Nat.le_of_ble_eq_true rfl, Nat.le_of_ble_eq_true rfl⟩) hP hD hS hA [3, 4, 5, 6, 7, 8, 9, 10] rfl (fun r_108 _ H locs hw hP hS => ?_)
              obtain rfl : r_108 = nI (kd_wr R T) := hw
              exact kd_iret hx hb hr hlocks hK hS dX10_count_111 (()) (by rw [sp_X10_count, if_neg c_1_0, if_neg c_1_1, if_neg c_1_2, if_neg c_1_3, if_neg c_1_4, if_pos c_1_5]) hP hD
            · by_cases c_1_6 : p0 = 6
              · refine lv_tableIn (off := 111) (tgt := 112) hx hb dX10_count_1 (by rw [c_1_6]; decide) (by rw [c_1_6]; decide) (by rw [c_1_6]; rfl) (by decide) ?_
                refine lv_aload_n hx hb dX10_count_112 rfl (lv_at hl 0 rfl) ?_
                refine va_get (ci := 10) (v := .ref so) (C := RX10) (T := TX10) (N := 10) hx hb hts hiX10 hown hK hP (0) rfl rfl 4 (by decide) (hts (.fieldLink RX10 56 "KingdomAtDice" "now" "LKingdomAtDice$Standing;") (by decide +kernel)) (fun _ h9 => h9) rfl dX10_count_113 ?_
                refine va_getN (ci := 7) (v := .int (nI sm)) (C := RX7) (T := TX7) (N := 6) hx hb hts hiX7 hown hK hP (3) rfl rfl 5 (by decide) (kd_Nb hE 57 rfl) (fun _ h9 => h9) rfl dX10_count_116 ?_
                exact kd_iret hx hb hr hlocks hK hS dX10_count_119 (()) (by rw [sp_X10_count, if_neg c_1_0, if_neg c_1_1, if_neg c_1_2, if_neg c_1_3, if_neg c_1_4, if_neg c_1_5, if_pos c_1_6]) hP hD
              · by_cases c_1_7 : p0 = 7
                · refine lv_tableIn (off := 119) (tgt := 120) hx hb dX10_count_1 (by rw [c_1_7]; decide) (by rw [c_1_7]; decide) (by rw [c_1_7]; rfl) (by decide) ?_
                  refine lv_aload_n hx hb dX10_count_120 rfl (lv_at hl 0 rfl) ?_
                  refine va_get (ci := 10) (v := .ref pg) (C := RX10) (T := TX10) (N := 10) hx hb hts hiX10 hown hK hP (0) rfl rfl 0 (by decide) (hts (.fieldLink RX10 10 "KingdomAtDice" "page" "LKingdomAtDice$Page;") (by decide +kernel)) (fun _ h9 => h9) rfl dX10_count_121 ?_
                  refine va_getN (ci := 6) (v := .int (nI pn)) (C := RX6) (T := TX6) (N := 2) hx hb hts hiX6 hown hK hP (1) rfl rfl 1 (by decide) (kd_Nb hE 47 rfl) (fun _ h9 => h9) rfl dX10_count_124 ?_
                  exact kd_iret hx hb hr hlocks hK hS dX10_count_127 (()) (by rw [sp_X10_count, if_neg c_1_0, if_neg c_1_1, if_neg c_1_2, if_neg c_1_3, if_neg c_1_4, if_neg c_1_5, if_neg c_1_6, if_pos c_1_7]) hP hD
                · by_cases c_1_8 : p0 = 8
                  · refine lv_tableIn (off := 127) (tgt := 128) hx hb dX10_count_1 (by rw [c_1_8]; decide) (by rw [c_1_8]; decide) (by rw [c_1_8]; rfl) (by decide) ?_
                    refine lv_aload_n hx hb dX10_count_128 rfl (lv_at hl 0 rfl) ?_
                    refine va_get (ci := 10) (v := .int (nI nh)) (C := RX10) (T := TX10) (N := 10) hx hb hts hiX10 hown hK hP (0) rfl rfl 9 (by decide) (hts (.fieldLink RX10 74 "KingdomAtDice" "hallsRead" "I") (by decide +kernel)) (fun _ h9 => h9) rfl dX10_count_129 ?_
                    exact kd_iret hx hb hr hlocks hK hS dX10_count_132 (()) (by rw [sp_X10_count, if_neg c_1_0, if_neg c_1_1, if_neg c_1_2, if_neg c_1_3, if_neg c_1_4, if_neg c_1_5, if_neg c_1_6, if_neg c_1_7, if_pos c_1_8]) hP hD
                  · refine lv_tableOut (tgt := 133) hx hb dX10_count_1 (by have z0 := kd_ne2 c_1_0 (k := 0) (by decide); have z1 := kd_ne2 c_1_1 (k := 1) (by decide); have z2 := kd_ne2 c_1_2 (k := 2) (by decide); have z3 := kd_ne2 c_1_3 (k := 3) (by decide); have z4 := kd_ne2 c_1_4 (k := 4) (by decide); have z5 := kd_ne2 c_1_5 (k := 5) (by decide); have z6 := kd_ne2 c_1_6 (k := 6) (by decide); have z7 := kd_ne2 c_1_7 (k := 7) (by decide); have z8 := kd_ne2 c_1_8 (k := 8) (by decide); omega) (by decide) ?_
                    refine lv_bipush (v := (-102)) hx hb dX10_count_133 (by decide) ?_
                    exact kd_iret hx hb hr hlocks hK hS dX10_count_135 (()) (by rw [sp_X10_count, if_neg c_1_0, if_neg c_1_1, if_neg c_1_2, if_neg c_1_3, if_neg c_1_4, if_neg c_1_5, if_neg c_1_6, if_neg c_1_7, if_neg c_1_8]) hP hD

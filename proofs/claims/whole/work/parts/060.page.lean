/-- what KingdomAtDice$Page.fitsThings answers and leaves, by its instructions -/
def sp_X6_fitsThings (p0 : Int32) (p1 : Int32) (p2 : Int32) : Int32 :=
  if (p0 - p0 / 3 * 3) = 0 then
    if (sp_J0_indexOf_0f7a4_0 (((p1 : Int32).toUInt32 % 65536).toInt32)) < 0 then
      0
    else
      if p1 = 115 then
        if p2 = 0 then
          1
        else
          0
      else
        1
  else
    if (p0 - p0 / 3 * 3) = 1 then
      if p1 < 49 then
        0
      else
        if 57 < p1 then
          0
        else
          1
    else
      if p1 = 44 then
        if ((p0 / 3) + 1) < 6 then
          1
        else
          if p1 = 59 then
            if ((p0 / 3) + 1) < 2 then
              0
            else
              1
          else
            0
      else
        if p1 = 59 then
          if ((p0 / 3) + 1) < 2 then
            0
          else
            1
        else
          0
theorem zb_X6_fitsThings (p0 : Int32) (p1 : Int32) (p2 : Int32) : sp_X6_fitsThings p0 p1 p2 = 0 ∨ sp_X6_fitsThings p0 p1 p2 = 1 := by
  unfold sp_X6_fitsThings
  repeat' split
  all_goals first | exact Or.inl rfl | exact Or.inr rfl | simp
set_option maxHeartbeats 4000000 in
set_option maxRecDepth 100000 in
theorem c_X6_fitsThings (l : Launch) (g : kd_G) (sz : Nat) (p0 : Int32) (p1 : Int32) (p2 : Int32)  : kd_MI l yX6_fitsThings wsX6_fitsThings ({ frames := 4, cells := 0, slots := 0, locals := 91 }) [.int p0, .int p1, .int p2] g [] sz (fun r (_ : Unit) => r = sp_X6_fitsThings p0 p1 p2) (fun _ => []) 0 0 := by
  refine kd_met (l := l) (y := yX6_fitsThings) (ws := wsX6_fitsThings) (rm := { frames := 4, cells := 0, slots := 0, locals := 91 }) (av := [.int p0, .int p1, .int p2]) (g := g) (WS := []) (sz := sz) (mc := 0) (ms := 0) (cc := cX6_fitsThings) (maxL := 4) (ret := (some .boolean)) (own := RX6) (fun A => va_Qi (fun r (_ : Unit) => r = sp_X6_fitsThings p0 p1 p2) (fun u t => kd_post g A [] t) A) (by decide) rfl rfl (Nat.le_of_ble_eq_true rfl) ?_
  intro p e s m below meth c A ls hx hb hr hml hts hown hlocks hnm hA hP hK hD hS hE hl
  have hl : lv_has ls 4 [(0, .int p0), (1, .int p1), (2, .int p2)] := hl
  refine lv_iload_n hx hb dX6_fitsThings_0 rfl (lv_at hl 0 rfl) ?_
  refine lv_iconst (v := 3) hx hb dX6_fitsThings_1 (by decide) ?_
  refine lv_idiv hx hb dX6_fitsThings_2 (by decide) ?_
  refine lv_iconst (v := 1) hx hb dX6_fitsThings_3 (by decide) ?_
  refine lv_iadd hx hb dX6_fitsThings_4 ?_
  refine lv_istore_n (lv' := [(3, .int ((p0 / 3) + 1)), (0, .int p0), (1, .int p1), (2, .int p2)]) hx hb dX6_fitsThings_5 rfl hl (by decide) rfl (fun ls hl => ?_)
  refine lv_iload_n hx hb dX6_fitsThings_6 rfl (lv_at hl 1 rfl) ?_
  refine lv_iconst (v := 3) hx hb dX6_fitsThings_7 (by decide) ?_
  refine lv_irem hx hb dX6_fitsThings_8 (by decide) ?_
  by_cases c_9_0 : (p0 - p0 / 3 * 3) = 0
  · refine lv_lookup (off := 27) (tgt := 36) hx hb dX6_fitsThings_9 (by decide) (by rw [c_9_0]; rfl) (by decide) ?_
    refine va_ldcS hx hb hown hE.2.2.2.2.2.1 dX6_fitsThings_36 ?_
    refine lv_iload_n hx hb dX6_fitsThings_38 rfl (lv_at hl 2 rfl) ?_
    refine lv_i2c hx hb dX6_fitsThings_39 rfl ?_
    refine kd_callIK (g := g) (wc := []) (va_runV (mc := 0) (ms := 0) (rm := { frames := 3, cells := 0, slots := 0, locals := 70 }) (As := [.int (((p1 : Int32).toUInt32 % 65536).toInt32)]) (rest := []) ⟨hx, hb, hml, hown, hts⟩ (c_J0_indexOf_0f7a4_0 l g s.heap.size (((p1 : Int32).toUInt32 % 65536).toInt32) ) (cwV 1 hts gX6_fitsThings_J0_indexOf_0f7a4 rfl rfl rfl (by decide +kernel) ⟨Nat.le_of_ble_eq_true rfl, Nat.le_of_ble_eq_true rfl⟩) (kd_preV (wc := []) (vk_recv hE.2.2.2.1 (i := 0) (by decide) hS) hP hD hS hA hK hE [] rfl (by decide)) rfl rfl hl.1 rfl (lv_room (Nat.le_of_ble_eq_true rfl)) dX6_fitsThings_40 ⟨Nat.le_of_ble_eq_true rfl, Nat.le_of_ble_eq_true rfl⟩) hP hD hS hA [] rfl (fun r_40 _ H locs hw hP hS => ?_)
    subst hw
    refine lv_if_lt (tgt := 60) hx hb dX6_fitsThings_43 (by decide) (fun c_43 => ?_) (fun c_43 => ?_)
    · refine lv_iconst (v := 0) hx hb dX6_fitsThings_60 (by decide) ?_
      exact kd_zret hx hb hr hlocks hK hS dX6_fitsThings_61 (Or.inl rfl) (()) (by rw [sp_X6_fitsThings, if_pos c_9_0, if_pos c_43]) hP hD
    · refine lv_iload_n hx hb dX6_fitsThings_46 rfl (lv_at hl 2 rfl) ?_
      refine lv_bipush (v := 115) hx hb dX6_fitsThings_47 (by decide) ?_
      refine lv_icmp_ne (tgt := 56) hx hb dX6_fitsThings_49 (by decide) (fun c_49 => ?_) (fun c_49 => ?_)
      · refine lv_iconst (v := 1) hx hb dX6_fitsThings_56 (by decide) ?_
        refine lv_goto (tgt := 61) hx hb dX6_fitsThings_57 (by decide) ?_
        exact kd_zret hx hb hr hlocks hK hS dX6_fitsThings_61 (Or.inr rfl) (()) (by rw [sp_X6_fitsThings, if_pos c_9_0, if_neg c_43, if_neg c_49]) hP hD
      · refine lv_iload_n hx hb dX6_fitsThings_52 rfl (lv_at hl 3 rfl) ?_
        refine lv_if_ne (tgt := 60) hx hb dX6_fitsThings_53 (by decide) (fun c_53 => ?_) (fun c_53 => ?_)
        · refine lv_iconst (v := 0) hx hb dX6_fitsThings_60 (by decide) ?_
          exact kd_zret hx hb hr hlocks hK hS dX6_fitsThings_61 (Or.inl rfl) (()) (by rw [sp_X6_fitsThings, if_pos c_9_0, if_neg c_43, if_pos c_49, if_neg c_53]) hP hD
        · refine lv_iconst (v := 1) hx hb dX6_fitsThings_56 (by decide) ?_
          refine lv_goto (tgt := 61) hx hb dX6_fitsThings_57 (by decide) ?_
          exact kd_zret hx hb hr hlocks hK hS dX6_fitsThings_61 (Or.inr rfl) (()) (by rw [sp_X6_fitsThings, if_pos c_9_0, if_neg c_43, if_pos c_49, if_pos c_53]) hP hD
  · by_cases c_9_1 : (p0 - p0 / 3 * 3) = 1
    · refine lv_lookup (off := 53) (tgt := 62) hx hb dX6_fitsThings_9 (by decide) (by rw [c_9_1]; rfl) (by decide) ?_
      refine lv_iload_n hx hb dX6_fitsThings_62 rfl (lv_at hl 2 rfl) ?_
      refine lv_bipush (v := 49) hx hb dX6_fitsThings_63 (by decide) ?_
      refine lv_icmp_lt (tgt := 78) hx hb dX6_fitsThings_65 (by decide) (fun c_65 => ?_) (fun c_65 => ?_)
      · refine lv_iconst (v := 0) hx hb dX6_fitsThings_78 (by decide) ?_
        exact kd_zret hx hb hr hlocks hK hS dX6_fitsThings_79 (Or.inl rfl) (()) (by rw [sp_X6_fitsThings, if_neg c_9_0, if_pos c_9_1, if_pos c_65]) hP hD
      · refine lv_iload_n hx hb dX6_fitsThings_68 rfl (lv_at hl 2 rfl) ?_
        refine lv_bipush (v := 57) hx hb dX6_fitsThings_69 (by decide) ?_
        refine lv_icmp_gt (tgt := 78) hx hb dX6_fitsThings_71 (by decide) (fun c_71 => ?_) (fun c_71 => ?_)
        · refine lv_iconst (v := 0) hx hb dX6_fitsThings_78 (by decide) ?_
          exact kd_zret hx hb hr hlocks hK hS dX6_fitsThings_79 (Or.inl rfl) (()) (by rw [sp_X6_fitsThings, if_neg c_9_0, if_pos c_9_1, if_neg c_65, if_pos c_71]) hP hD
        · refine lv_iconst (v := 1) hx hb dX6_fitsThings_74 (by decide) ?_
          refine lv_goto (tgt := 79) hx hb dX6_fitsThings_75 (by decide) ?_
          exact kd_zret hx hb hr hlocks hK hS dX6_fitsThings_79 (Or.inr rfl) (()) (by rw [sp_X6_fitsThings, if_neg c_9_0, if_pos c_9_1, if_neg c_65, if_neg c_71]) hP hD
    · refine lv_lookup (off := 71) (tgt := 80) hx hb dX6_fitsThings_9 (by decide) (by have z0 := kd_ne2 c_9_0 (k := 0) (by decide); have z1 := kd_ne2 c_9_1 (k := 1) (by decide); generalize ((p0 - p0 / 3 * 3) : Int32).toInt = zz at z0 z1 ⊢; simp [Op.lookupswitch.offset, z0, Ne.symm z0, z1, Ne.symm z1]) (by decide) ?_
      refine lv_iload_n hx hb dX6_fitsThings_80 rfl (lv_at hl 2 rfl) ?_
      refine lv_bipush (v := 44) hx hb dX6_fitsThings_81 (by decide) ?_
      refine lv_icmp_ne (tgt := 92) hx hb dX6_fitsThings_83 (by decide) (fun c_83 => ?_) (fun c_83 => ?_)
      · refine lv_iload_n hx hb dX6_fitsThings_92 rfl (lv_at hl 2 rfl) ?_
        refine lv_bipush (v := 59) hx hb dX6_fitsThings_93 (by decide) ?_
        refine lv_icmp_ne (tgt := 107) hx hb dX6_fitsThings_95 (by decide) (fun c_95 => ?_) (fun c_95 => ?_)
        · refine lv_iconst (v := 0) hx hb dX6_fitsThings_107 (by decide) ?_
          exact kd_zret hx hb hr hlocks hK hS dX6_fitsThings_108 (Or.inl rfl) (()) (by rw [sp_X6_fitsThings, if_neg c_9_0, if_neg c_9_1, if_neg c_83, if_neg c_95]) hP hD
        · refine lv_iload_n hx hb dX6_fitsThings_98 rfl (lv_at hl 0 rfl) ?_
          refine lv_iconst (v := 2) hx hb dX6_fitsThings_99 (by decide) ?_
          refine lv_icmp_lt (tgt := 107) hx hb dX6_fitsThings_100 (by decide) (fun c_100 => ?_) (fun c_100 => ?_)
          · refine lv_iconst (v := 0) hx hb dX6_fitsThings_107 (by decide) ?_
            exact kd_zret hx hb hr hlocks hK hS dX6_fitsThings_108 (Or.inl rfl) (()) (by rw [sp_X6_fitsThings, if_neg c_9_0, if_neg c_9_1, if_neg c_83, if_pos c_95, if_pos c_100]) hP hD
          · refine lv_iconst (v := 1) hx hb dX6_fitsThings_103 (by decide) ?_
            refine lv_goto (tgt := 108) hx hb dX6_fitsThings_104 (by decide) ?_
            exact kd_zret hx hb hr hlocks hK hS dX6_fitsThings_108 (Or.inr rfl) (()) (by rw [sp_X6_fitsThings, if_neg c_9_0, if_neg c_9_1, if_neg c_83, if_pos c_95, if_neg c_100]) hP hD
      · refine lv_iload_n hx hb dX6_fitsThings_86 rfl (lv_at hl 0 rfl) ?_
        refine lv_bipush (v := 6) hx hb dX6_fitsThings_87 (by decide) ?_
        refine lv_icmp_lt (tgt := 103) hx hb dX6_fitsThings_89 (by decide) (fun c_89 => ?_) (fun c_89 => ?_)
        · refine lv_iconst (v := 1) hx hb dX6_fitsThings_103 (by decide) ?_
          refine lv_goto (tgt := 108) hx hb dX6_fitsThings_104 (by decide) ?_
          exact kd_zret hx hb hr hlocks hK hS dX6_fitsThings_108 (Or.inr rfl) (()) (by rw [sp_X6_fitsThings, if_neg c_9_0, if_neg c_9_1, if_pos c_83, if_pos c_89]) hP hD
        · refine lv_iload_n hx hb dX6_fitsThings_92 rfl (lv_at hl 2 rfl) ?_
          refine lv_bipush (v := 59) hx hb dX6_fitsThings_93 (by decide) ?_
          refine lv_icmp_ne (tgt := 107) hx hb dX6_fitsThings_95 (by decide) (fun c_95 => ?_) (fun c_95 => ?_)
          · refine lv_iconst (v := 0) hx hb dX6_fitsThings_107 (by decide) ?_
            exact kd_zret hx hb hr hlocks hK hS dX6_fitsThings_108 (Or.inl rfl) (()) (by rw [sp_X6_fitsThings, if_neg c_9_0, if_neg c_9_1, if_pos c_83, if_neg c_89, if_neg c_95]) hP hD
          · refine lv_iload_n hx hb dX6_fitsThings_98 rfl (lv_at hl 0 rfl) ?_
            refine lv_iconst (v := 2) hx hb dX6_fitsThings_99 (by decide) ?_
            refine lv_icmp_lt (tgt := 107) hx hb dX6_fitsThings_100 (by decide) (fun c_100 => ?_) (fun c_100 => ?_)
            · refine lv_iconst (v := 0) hx hb dX6_fitsThings_107 (by decide) ?_
              exact kd_zret hx hb hr hlocks hK hS dX6_fitsThings_108 (Or.inl rfl) (()) (by rw [sp_X6_fitsThings, if_neg c_9_0, if_neg c_9_1, if_pos c_83, if_neg c_89, if_pos c_95, if_pos c_100]) hP hD
            · refine lv_iconst (v := 1) hx hb dX6_fitsThings_103 (by decide) ?_
              refine lv_goto (tgt := 108) hx hb dX6_fitsThings_104 (by decide) ?_
              exact kd_zret hx hb hr hlocks hK hS dX6_fitsThings_108 (Or.inr rfl) (()) (by rw [sp_X6_fitsThings, if_neg c_9_0, if_neg c_9_1, if_pos c_83, if_neg c_89, if_pos c_95, if_neg c_100]) hP hD
/-- what KingdomAtDice$Page.fitsBehind answers and leaves, by its instructions -/
def sp_X6_fitsBehind (p0 : Int32) (p1 : Int32) : Int32 :=
  if 2 < p0 then
    0
  else
    if (sp_J0_indexOf_0f7a4_1 (((p1 : Int32).toUInt32 % 65536).toInt32)) < 0 then
      0
    else
      1
theorem zb_X6_fitsBehind (p0 : Int32) (p1 : Int32) : sp_X6_fitsBehind p0 p1 = 0 ∨ sp_X6_fitsBehind p0 p1 = 1 := by
  unfold sp_X6_fitsBehind
  repeat' split
  all_goals first | exact Or.inl rfl | exact Or.inr rfl | simp
set_option maxHeartbeats 4000000 in
set_option maxRecDepth 100000 in
theorem c_X6_fitsBehind (l : Launch) (g : kd_G) (sz : Nat) (p0 : Int32) (p1 : Int32)  : kd_MI l yX6_fitsBehind wsX6_fitsBehind ({ frames := 4, cells := 0, slots := 0, locals := 91 }) [.int p0, .int p1] g [] sz (fun r (_ : Unit) => r = sp_X6_fitsBehind p0 p1) (fun _ => []) 0 0 := by
  refine kd_met (l := l) (y := yX6_fitsBehind) (ws := wsX6_fitsBehind) (rm := { frames := 4, cells := 0, slots := 0, locals := 91 }) (av := [.int p0, .int p1]) (g := g) (WS := []) (sz := sz) (mc := 0) (ms := 0) (cc := cX6_fitsBehind) (maxL := 2) (ret := (some .boolean)) (own := RX6) (fun A => va_Qi (fun r (_ : Unit) => r = sp_X6_fitsBehind p0 p1) (fun u t => kd_post g A [] t) A) (by decide) rfl rfl (Nat.le_of_ble_eq_true rfl) ?_
  intro p e s m below meth c A ls hx hb hr hml hts hown hlocks hnm hA hP hK hD hS hE hl
  have hl : lv_has ls 2 [(0, .int p0), (1, .int p1)] := hl
  refine lv_iload_n hx hb dX6_fitsBehind_0 rfl (lv_at hl 0 rfl) ?_
  refine lv_iconst (v := 2) hx hb dX6_fitsBehind_1 (by decide) ?_
  refine lv_icmp_gt (tgt := 19) hx hb dX6_fitsBehind_2 (by decide) (fun c_2 => ?_) (fun c_2 => ?_)
  · refine lv_iconst (v := 0) hx hb dX6_fitsBehind_19 (by decide) ?_
    exact kd_zret hx hb hr hlocks hK hS dX6_fitsBehind_20 (Or.inl rfl) (()) (by rw [sp_X6_fitsBehind, if_pos c_2]) hP hD
  · refine va_ldcS hx hb hown hE.2.2.2.2.2.2.1 dX6_fitsBehind_5 ?_
    refine lv_iload_n hx hb dX6_fitsBehind_7 rfl (lv_at hl 1 rfl) ?_
    refine lv_i2c hx hb dX6_fitsBehind_8 rfl ?_
    refine kd_callIK (g := g) (wc := []) (va_runV (mc := 0) (ms := 0) (rm := { frames := 3, cells := 0, slots := 0, locals := 70 }) (As := [.int (((p1 : Int32).toUInt32 % 65536).toInt32)]) (rest := []) ⟨hx, hb, hml, hown, hts⟩ (c_J0_indexOf_0f7a4_1 l g s.heap.size (((p1 : Int32).toUInt32 % 65536).toInt32) ) (cwV 1 hts gX6_fitsBehind_J0_indexOf_0f7a4 rfl rfl rfl (by decide +kernel) ⟨Nat.le_of_ble_eq_true rfl, Nat.le_of_ble_eq_true rfl⟩) (kd_preV (wc := []) (vk_recv hE.2.2.2.1 (i := 1) (by decide) hS) hP hD hS hA hK hE [] rfl (by decide)) rfl rfl hl.1 rfl (lv_room (Nat.le_of_ble_eq_true rfl)) dX6_fitsBehind_9 ⟨Nat.le_of_ble_eq_true rfl, Nat.le_of_ble_eq_true rfl⟩) hP hD hS hA [] rfl (fun r_9 _ H locs hw hP hS => ?_)
    subst hw
    refine lv_if_lt (tgt := 19) hx hb dX6_fitsBehind_12 (by decide) (fun c_12 => ?_) (fun c_12 => ?_)
    · refine lv_iconst (v := 0) hx hb dX6_fitsBehind_19 (by decide) ?_
      exact kd_zret hx hb hr hlocks hK hS dX6_fitsBehind_20 (Or.inl rfl) (()) (by rw [sp_X6_fitsBehind, if_neg c_2, if_pos c_12]) hP hD
    · refine lv_iconst (v := 1) hx hb dX6_fitsBehind_15 (by decide) ?_
      refine lv_goto (tgt := 20) hx hb dX6_fitsBehind_16 (by decide) ?_
      exact kd_zret hx hb hr hlocks hK hS dX6_fitsBehind_20 (Or.inr rfl) (()) (by rw [sp_X6_fitsBehind, if_neg c_2, if_neg c_12]) hP hD
/-- the first place that no hall has: k letters are left from i on, whether SELF stood, where the ';' stood -/
def kd_fp (pf : Nat → Int32) (n : Nat) : Nat → Nat → Int32 → Int32 → Nat
  | 0, _, _, _ => n
  | k + 1, i, hs, en =>
    if (if en = (-1) then sp_X6_fitsThings (nI i) (sp_X6_codeAt pf n (nI i)) hs else sp_X6_fitsBehind (nI i - en) (sp_X6_codeAt pf n (nI i))) = 0 then i
    else kd_fp pf n k (i + 1) (if sp_X6_codeAt pf n (nI i) = 115 then 1 else hs) (if sp_X6_codeAt pf n (nI i) = 59 then nI i else en)
set_option maxHeartbeats 4000000 in
set_option maxRecDepth 100000 in
theorem c_X6_faultPlace (l : Launch) (g : kd_G) (sz : Nat) (pg : Nat) (pc : Nat) (pf : Nat → Int32) (pn : Nat) (hpn : pn ≤ 22) : kd_MI l yX6_faultPlace wsX6_faultPlace ({ frames := 5, cells := 0, slots := 0, locals := 114 }) [.ref pg] g [(pg, .inr (6, [.ref pc, .int (nI pn)])), (pc, .inl (g.2.1 0, 22, .inl pf))] sz (fun r (_ : Unit) => r = nI (kd_fp pf pn pn 0 0 (-1))) (fun _ => [(pg, .inr (6, [.ref pc, .int (nI pn)])), (pc, .inl (g.2.1 0, 22, .inl pf))]) 0 0 := by
  refine kd_met (l := l) (y := yX6_faultPlace) (ws := wsX6_faultPlace) (rm := { frames := 5, cells := 0, slots := 0, locals := 114 }) (av := [.ref pg]) (g := g) (WS := [(pg, .inr (6, [.ref pc, .int (nI pn)])), (pc, .inl (g.2.1 0, 22, .inl pf))]) (sz := sz) (mc := 0) (ms := 0) (cc := cX6_faultPlace) (maxL := 5) (ret := (some .int)) (own := RX6) (fun A => va_Qi (fun r (_ : Unit) => r = nI (kd_fp pf pn pn 0 0 (-1))) (fun u t => kd_post g A [(pg, .inr (6, [.ref pc, .int (nI pn)])), (pc, .inl (g.2.1 0, 22, .inl pf))] t) A) (by decide) rfl rfl (Nat.le_of_ble_eq_true rfl) ?_
  intro p e s m below meth c A ls hx hb hr hml hts hown hlocks hnm hA hP hK hD hS hE hl
  have hl : lv_has ls 5 [(0, .ref pg)] := hl
  have hiX6 : ∀ w ∈ u_ws RX6 TX6 2, w ∈ wsX6_faultPlace := by decide +kernel
  refine lv_iconst (v := 0) hx hb dX6_faultPlace_0 (by decide) ?_
  refine lv_istore_n (lv' := [(1, .int 0), (0, .ref pg)]) hx hb dX6_faultPlace_1 rfl hl (by decide) rfl (fun ls hl => ?_)
  refine lv_iconst (v := (-1)) hx hb dX6_faultPlace_2 (by decide) ?_
  refine lv_istore_n (lv' := [(2, .int (-1)), (1, .int 0), (0, .ref pg)]) hx hb dX6_faultPlace_3 rfl hl (by decide) rfl (fun ls hl => ?_)
  refine lv_iconst (v := 0) hx hb dX6_faultPlace_4 (by decide) ?_
  refine lv_istore_n (lv' := [(3, .int 0), (2, .int (-1)), (1, .int 0), (0, .ref pg)]) hx hb dX6_faultPlace_5 rfl hl (by decide) rfl (fun ls hl => ?_)
  have loop_6 : ∀ (n_6 : Nat) (i : Nat) (k : Nat) (hs : Int32) (en : Int32), (i + k = pn) → (kd_fp pf pn pn 0 0 (-1) = kd_fp pf pn k i hs en) → (k) < n_6 → ∀ (H : Heap) (locs : List Loc), va_P g.1 vwCl [(pg, .inr (6, [.ref pc, .int (nI pn)])), (pc, .inl (g.2.1 0, 22, .inl pf))] H → va_D A [(pg, .inr (6, [.ref pc, .int (nI pn)])), (pc, .inl (g.2.1 0, 22, .inl pf))] → va_S A s.heap H locs → ∀ (ls : Array Slot), lv_has ls 5 [(0, .ref pg), (1, .int hs), (2, .int en), (3, .int (nI i))] → W p l e ({ frames := 5, cells := 0, slots := 0, locals := 114 } : Room) s m ([.ref pg] : List Value).toArray below meth c H locs 0 0 (MQ below (va_Qi (fun r (_ : Unit) => r = nI (kd_fp pf pn pn 0 0 (-1))) (fun u t => kd_post g A [(pg, .inr (6, [.ref pc, .int (nI pn)])), (pc, .inl (g.2.1 0, 22, .inl pf))] t) A) ([.ref pg] : List Value).toArray s 0 0 A) (F0 m 6 ls []) := by
    intro n_6
    induction n_6 with
    | zero => intro i k hs en _ _ hm_6; exact absurd hm_6 (Nat.not_lt_zero _)
    | succ n_6 ih_6 =>
      intro i k hs en hik hq hm_6 H locs hP hD hS ls hl
      refine lv_iload_n hx hb dX6_faultPlace_6 rfl (lv_at hl 3 rfl) ?_
      refine lv_aload_n hx hb dX6_faultPlace_7 rfl (lv_at hl 0 rfl) ?_
      refine va_get (ci := 6) (v := .int (nI pn)) (C := RX6) (T := TX6) (N := 2) hx hb hts hiX6 hown hK hP (0) rfl rfl 1 (by decide) (hts (.fieldLink RX6 15 "KingdomAtDice$Page" "length" "I") (by decide +kernel)) (fun _ h9 => h9) rfl dX6_faultPlace_8 ?_
      refine lv_icmp_ge (tgt := 76) hx hb dX6_faultPlace_11 (by decide) (fun c_11 => ?_) (fun c_11 => ?_)
      · have n_11 : pn ≤ i := kd_ce (a := pn) (b := i) (by omega) (by omega) c_11
        obtain rfl : k = 0 := by omega
        refine lv_aload_n hx hb dX6_faultPlace_76 rfl (lv_at hl 0 rfl) ?_
        refine va_get (ci := 6) (v := .int (nI pn)) (C := RX6) (T := TX6) (N := 2) hx hb hts hiX6 hown hK hP (0) rfl rfl 1 (by decide) (hts (.fieldLink RX6 15 "KingdomAtDice$Page" "length" "I") (by decide +kernel)) (fun _ h9 => h9) rfl dX6_faultPlace_77 ?_
        exact kd_iret hx hb hr hlocks hK hS dX6_faultPlace_80 (()) (by rw [hq]; rfl) hP hD
      · have n_11 : i < pn := kd_cne (a := pn) (b := i) (by omega) (by omega) c_11
        obtain ⟨k, rfl⟩ : ∃ z, k = z + 1 := ⟨k - 1, by omega⟩
        refine lv_aload_n hx hb dX6_faultPlace_14 rfl (lv_at hl 0 rfl) ?_
        refine lv_iload_n hx hb dX6_faultPlace_15 rfl (lv_at hl 3 rfl) ?_
        refine kd_callIK (g := g) (wc := [(pg, .inr (6, [.ref pc, .int (nI pn)])), (pc, .inl (g.2.1 0, 22, .inl pf))]) (va_runV (mc := 0) (ms := 0) (rm := { frames := 1, cells := 0, slots := 0, locals := 21 }) (As := [.int (nI i)]) (rest := []) ⟨hx, hb, hml, hown, hts⟩ (c_X6_codeAt l g H.size pg pc pf pn (nI i) hpn) (cwV 1 hts gX6_faultPlace_X6_codeAt rfl rfl rfl (by decide +kernel) ⟨Nat.le_of_ble_eq_true rfl, Nat.le_of_ble_eq_true rfl⟩) (kd_preV (wc := [(pg, .inr (6, [.ref pc, .int (nI pn)])), (pc, .inl (g.2.1 0, 22, .inl pf))]) (va_recv hK hP (ci := 6) (q0 := 0) rfl rfl) hP hD hS hA hK hE [0, 1] rfl (by decide)) rfl rfl hl.1 rfl (lv_room (Nat.le_of_ble_eq_true rfl)) dX6_faultPlace_16 ⟨Nat.le_of_ble_eq_true rfl, Nat.le_of_ble_eq_true rfl⟩) hP hD hS hA [0, 1] rfl (fun r_16 _ H locs hw hP hS => ?_)
        subst hw
        refine lv_istore (lv' := [(4, .int (sp_X6_codeAt pf pn (nI i))), (0, .ref pg), (1, .int hs), (2, .int en), (3, .int (nI i))]) hx hb dX6_faultPlace_19 hl (by decide) rfl (fun ls hl => ?_)
        refine lv_iload_n hx hb dX6_faultPlace_21 rfl (lv_at hl 3 rfl) ?_
        refine lv_iconst (v := (-1)) hx hb dX6_faultPlace_22 (by decide) ?_
        refine lv_icmp_eq (tgt := 40) hx hb dX6_faultPlace_23 (by decide) (fun c_23 => ?_) (fun c_23 => ?_)
        · refine lv_iload_n hx hb dX6_faultPlace_40 rfl (lv_at hl 4 rfl) ?_
          refine lv_iload hx hb dX6_faultPlace_41 (lv_at hl 0 rfl) ?_
          refine lv_iload_n hx hb dX6_faultPlace_43 rfl (lv_at hl 2 rfl) ?_
          refine kd_callIK (g := g) (wc := []) (va_runS (mc := 0) (ms := 0) (rm := { frames := 4, cells := 0, slots := 0, locals := 91 }) (As := [.int (nI i), .int (sp_X6_codeAt pf pn (nI i)), .int hs]) (rest := []) ⟨hx, hb, hml, hown, hts⟩ (c_X6_fitsThings l g H.size (nI i) (sp_X6_codeAt pf pn (nI i)) hs ) (va_cwS 3 hts gX6_faultPlace_X6_fitsThings rfl rfl rfl (by decide +kernel) ⟨Nat.le_of_ble_eq_true rfl, Nat.le_of_ble_eq_true rfl⟩) (kd_preS (wc := []) (av := [.int (nI i), .int (sp_X6_codeAt pf pn (nI i)), .int hs]) hP hD hS hA hK hE [] rfl (by decide)) rfl rfl hl.1 rfl (lv_room (Nat.le_of_ble_eq_true rfl)) dX6_faultPlace_44 ⟨Nat.le_of_ble_eq_true rfl, Nat.le_of_ble_eq_true rfl⟩) hP hD hS hA [] rfl (fun r_44 _ H locs hw hP hS => ?_)
          subst hw
          refine lv_if_ne (tgt := 52) hx hb dX6_faultPlace_47 (by decide) (fun c_47 => ?_) (fun c_47 => ?_)
          · refine lv_iload hx hb dX6_faultPlace_52 (lv_at hl 0 rfl) ?_
            refine lv_bipush (v := 115) hx hb dX6_faultPlace_54 (by decide) ?_
            refine lv_icmp_ne (tgt := 61) hx hb dX6_faultPlace_56 (by decide) (fun c_56 => ?_) (fun c_56 => ?_)
            · refine lv_iload hx hb dX6_faultPlace_61 (lv_at hl 0 rfl) ?_
              refine lv_bipush (v := 59) hx hb dX6_faultPlace_63 (by decide) ?_
              refine lv_icmp_ne (tgt := 70) hx hb dX6_faultPlace_65 (by decide) (fun c_65 => ?_) (fun c_65 => ?_)
              · refine lv_iinc (v := nI (i + 1)) (lv' := [(3, .int (nI (i + 1))), (4, .int (sp_X6_codeAt pf pn (nI i))), (0, .ref pg), (1, .int hs), (2, .int en)]) hx hb dX6_faultPlace_70 hl (k := 4) rfl (nI_1 _) (by decide) rfl (fun ls hl => ?_)
                refine lv_goto (tgt := 6) hx hb dX6_faultPlace_73 (by decide) ?_
                exact ih_6 (i + 1) k hs en (by omega) (by rw [hq, kd_fp, if_pos c_23, if_neg c_47, if_neg c_56, if_neg c_65]) (by omega) _ _ hP hD hS ls (lv_sub hl [2, 3, 4, 0] rfl)
              · refine lv_iload_n hx hb dX6_faultPlace_68 rfl (lv_at hl 4 rfl) ?_
                refine lv_istore_n (lv' := [(2, .int (nI i)), (4, .int (sp_X6_codeAt pf pn (nI i))), (0, .ref pg), (1, .int hs), (3, .int (nI i))]) hx hb dX6_faultPlace_69 rfl hl (by decide) rfl (fun ls hl => ?_)
                refine lv_iinc (v := nI (i + 1)) (lv' := [(3, .int (nI (i + 1))), (2, .int (nI i)), (4, .int (sp_X6_codeAt pf pn (nI i))), (0, .ref pg), (1, .int hs)]) hx hb dX6_faultPlace_70 hl (k := 4) rfl (nI_1 _) (by decide) rfl (fun ls hl => ?_)
                refine lv_goto (tgt := 6) hx hb dX6_faultPlace_73 (by decide) ?_
                exact ih_6 (i + 1) k hs (nI i) (by omega) (by rw [hq, kd_fp, if_pos c_23, if_neg c_47, if_neg c_56, if_pos c_65]) (by omega) _ _ hP hD hS ls (lv_sub hl [3, 4, 1, 0] rfl)
            · refine lv_iconst (v := 1) hx hb dX6_faultPlace_59 (by decide) ?_
              refine lv_istore_n (lv' := [(1, .int 1), (4, .int (sp_X6_codeAt pf pn (nI i))), (0, .ref pg), (2, .int en), (3, .int (nI i))]) hx hb dX6_faultPlace_60 rfl hl (by decide) rfl (fun ls hl => ?_)
              refine lv_iload hx hb dX6_faultPlace_61 (lv_at hl 1 rfl) ?_
              refine lv_bipush (v := 59) hx hb dX6_faultPlace_63 (by decide) ?_
              refine lv_icmp_ne (tgt := 70) hx hb dX6_faultPlace_65 (by decide) (fun c_65 => ?_) (fun c_65 => ?_)
              · refine lv_iinc (v := nI (i + 1)) (lv' := [(3, .int (nI (i + 1))), (1, .int 1), (4, .int (sp_X6_codeAt pf pn (nI i))), (0, .ref pg), (2, .int en)]) hx hb dX6_faultPlace_70 hl (k := 4) rfl (nI_1 _) (by decide) rfl (fun ls hl => ?_)
                refine lv_goto (tgt := 6) hx hb dX6_faultPlace_73 (by decide) ?_
                exact ih_6 (i + 1) k 1 en (by omega) (by rw [hq, kd_fp, if_pos c_23, if_neg c_47, if_pos c_56, if_neg c_65]) (by omega) _ _ hP hD hS ls (lv_sub hl [3, 1, 4, 0] rfl)
              · refine lv_iload_n hx hb dX6_faultPlace_68 rfl (lv_at hl 4 rfl) ?_
                refine lv_istore_n (lv' := [(2, .int (nI i)), (1, .int 1), (4, .int (sp_X6_codeAt pf pn (nI i))), (0, .ref pg), (3, .int (nI i))]) hx hb dX6_faultPlace_69 rfl hl (by decide) rfl (fun ls hl => ?_)
                refine lv_iinc (v := nI (i + 1)) (lv' := [(3, .int (nI (i + 1))), (2, .int (nI i)), (1, .int 1), (4, .int (sp_X6_codeAt pf pn (nI i))), (0, .ref pg)]) hx hb dX6_faultPlace_70 hl (k := 4) rfl (nI_1 _) (by decide) rfl (fun ls hl => ?_)
                refine lv_goto (tgt := 6) hx hb dX6_faultPlace_73 (by decide) ?_
                exact ih_6 (i + 1) k 1 (nI i) (by omega) (by rw [hq, kd_fp, if_pos c_23, if_neg c_47, if_pos c_56, if_pos c_65]) (by omega) _ _ hP hD hS ls (lv_sub hl [4, 2, 1, 0] rfl)
          · refine lv_iload_n hx hb dX6_faultPlace_50 rfl (lv_at hl 4 rfl) ?_
            exact kd_iret hx hb hr hlocks hK hS dX6_faultPlace_51 (()) (by rw [hq, kd_fp, if_pos c_23, if_pos c_47]) hP hD
        · refine lv_iload_n hx hb dX6_faultPlace_26 rfl (lv_at hl 4 rfl) ?_
          refine lv_iload_n hx hb dX6_faultPlace_27 rfl (lv_at hl 3 rfl) ?_
          refine lv_isub hx hb dX6_faultPlace_28 ?_
          refine lv_iload hx hb dX6_faultPlace_29 (lv_at hl 0 rfl) ?_
          refine kd_callIK (g := g) (wc := []) (va_runS (mc := 0) (ms := 0) (rm := { frames := 4, cells := 0, slots := 0, locals := 91 }) (As := [.int ((nI i) - en), .int (sp_X6_codeAt pf pn (nI i))]) (rest := []) ⟨hx, hb, hml, hown, hts⟩ (c_X6_fitsBehind l g H.size ((nI i) - en) (sp_X6_codeAt pf pn (nI i)) ) (va_cwS 2 hts gX6_faultPlace_X6_fitsBehind rfl rfl rfl (by decide +kernel) ⟨Nat.le_of_ble_eq_true rfl, Nat.le_of_ble_eq_true rfl⟩) (kd_preS (wc := []) (av := [.int ((nI i) - en), .int (sp_X6_codeAt pf pn (nI i))]) hP hD hS hA hK hE [] rfl (by decide)) rfl rfl hl.1 rfl (lv_room (Nat.le_of_ble_eq_true rfl)) dX6_faultPlace_31 ⟨Nat.le_of_ble_eq_true rfl, Nat.le_of_ble_eq_true rfl⟩) hP hD hS hA [] rfl (fun r_31 _ H locs hw hP hS => ?_)
          subst hw
          refine lv_if_ne (tgt := 52) hx hb dX6_faultPlace_34 (by decide) (fun c_34 => ?_) (fun c_34 => ?_)
          · refine lv_iload hx hb dX6_faultPlace_52 (lv_at hl 0 rfl) ?_
            refine lv_bipush (v := 115) hx hb dX6_faultPlace_54 (by decide) ?_
            refine lv_icmp_ne (tgt := 61) hx hb dX6_faultPlace_56 (by decide) (fun c_56 => ?_) (fun c_56 => ?_)
            · refine lv_iload hx hb dX6_faultPlace_61 (lv_at hl 0 rfl) ?_
              refine lv_bipush (v := 59) hx hb dX6_faultPlace_63 (by decide) ?_
              refine lv_icmp_ne (tgt := 70) hx hb dX6_faultPlace_65 (by decide) (fun c_65 => ?_) (fun c_65 => ?_)
              · refine lv_iinc (v := nI (i + 1)) (lv' := [(3, .int (nI (i + 1))), (4, .int (sp_X6_codeAt pf pn (nI i))), (0, .ref pg), (1, .int hs), (2, .int en)]) hx hb dX6_faultPlace_70 hl (k := 4) rfl (nI_1 _) (by decide) rfl (fun ls hl => ?_)
                refine lv_goto (tgt := 6) hx hb dX6_faultPlace_73 (by decide) ?_
                exact ih_6 (i + 1) k hs en (by omega) (by rw [hq, kd_fp, if_neg c_23, if_neg c_34, if_neg c_56, if_neg c_65]) (by omega) _ _ hP hD hS ls (lv_sub hl [2, 3, 4, 0] rfl)
              · refine lv_iload_n hx hb dX6_faultPlace_68 rfl (lv_at hl 4 rfl) ?_
                refine lv_istore_n (lv' := [(2, .int (nI i)), (4, .int (sp_X6_codeAt pf pn (nI i))), (0, .ref pg), (1, .int hs), (3, .int (nI i))]) hx hb dX6_faultPlace_69 rfl hl (by decide) rfl (fun ls hl => ?_)
                refine lv_iinc (v := nI (i + 1)) (lv' := [(3, .int (nI (i + 1))), (2, .int (nI i)), (4, .int (sp_X6_codeAt pf pn (nI i))), (0, .ref pg), (1, .int hs)]) hx hb dX6_faultPlace_70 hl (k := 4) rfl (nI_1 _) (by decide) rfl (fun ls hl => ?_)
                refine lv_goto (tgt := 6) hx hb dX6_faultPlace_73 (by decide) ?_
                exact ih_6 (i + 1) k hs (nI i) (by omega) (by rw [hq, kd_fp, if_neg c_23, if_neg c_34, if_neg c_56, if_pos c_65]) (by omega) _ _ hP hD hS ls (lv_sub hl [3, 4, 1, 0] rfl)
            · refine lv_iconst (v := 1) hx hb dX6_faultPlace_59 (by decide) ?_
              refine lv_istore_n (lv' := [(1, .int 1), (4, .int (sp_X6_codeAt pf pn (nI i))), (0, .ref pg), (2, .int en), (3, .int (nI i))]) hx hb dX6_faultPlace_60 rfl hl (by decide) rfl (fun ls hl => ?_)
              refine lv_iload hx hb dX6_faultPlace_61 (lv_at hl 1 rfl) ?_
              refine lv_bipush (v := 59) hx hb dX6_faultPlace_63 (by decide) ?_
              refine lv_icmp_ne (tgt := 70) hx hb dX6_faultPlace_65 (by decide) (fun c_65 => ?_) (fun c_65 => ?_)
              · refine lv_iinc (v := nI (i + 1)) (lv' := [(3, .int (nI (i + 1))), (1, .int 1), (4, .int (sp_X6_codeAt pf pn (nI i))), (0, .ref pg), (2, .int en)]) hx hb dX6_faultPlace_70 hl (k := 4) rfl (nI_1 _) (by decide) rfl (fun ls hl => ?_)
                refine lv_goto (tgt := 6) hx hb dX6_faultPlace_73 (by decide) ?_
                exact ih_6 (i + 1) k 1 en (by omega) (by rw [hq, kd_fp, if_neg c_23, if_neg c_34, if_pos c_56, if_neg c_65]) (by omega) _ _ hP hD hS ls (lv_sub hl [3, 1, 4, 0] rfl)
              · refine lv_iload_n hx hb dX6_faultPlace_68 rfl (lv_at hl 4 rfl) ?_
                refine lv_istore_n (lv' := [(2, .int (nI i)), (1, .int 1), (4, .int (sp_X6_codeAt pf pn (nI i))), (0, .ref pg), (3, .int (nI i))]) hx hb dX6_faultPlace_69 rfl hl (by decide) rfl (fun ls hl => ?_)
                refine lv_iinc (v := nI (i + 1)) (lv' := [(3, .int (nI (i + 1))), (2, .int (nI i)), (1, .int 1), (4, .int (sp_X6_codeAt pf pn (nI i))), (0, .ref pg)]) hx hb dX6_faultPlace_70 hl (k := 4) rfl (nI_1 _) (by decide) rfl (fun ls hl => ?_)
                refine lv_goto (tgt := 6) hx hb dX6_faultPlace_73 (by decide) ?_
                exact ih_6 (i + 1) k 1 (nI i) (by omega) (by rw [hq, kd_fp, if_neg c_23, if_neg c_34, if_pos c_56, if_pos c_65]) (by omega) _ _ hP hD hS ls (lv_sub hl [4, 2, 1, 0] rfl)
          · refine lv_goto (tgt := 50) hx hb dX6_faultPlace_37 (by decide) ?_
            refine lv_iload_n hx hb dX6_faultPlace_50 rfl (lv_at hl 4 rfl) ?_
            exact kd_iret hx hb hr hlocks hK hS dX6_faultPlace_51 (()) (by rw [hq, kd_fp, if_neg c_23, if_pos c_34]) hP hD
  exact loop_6 (pn + 1) 0 pn 0 (-1) (by omega) rfl (Nat.lt_succ_self _) _ _ hP hD hS ls (lv_sub hl [3, 2, 1, 0] rfl)
/-- what KingdomAtDice$Page.isHall answers and leaves, by its instructions -/
def sp_X6_isHall (pf : Nat → Int32) (pn : Nat) : Int32 :=
  if (sp_X6_codeAt pf pn ((nI pn) - 3)) = 59 then
    if (nI (kd_fp pf pn pn 0 0 (-1))) = (nI pn) then
      1
    else
      0
  else
    0
theorem zb_X6_isHall (pf : Nat → Int32) (pn : Nat) : sp_X6_isHall pf pn = 0 ∨ sp_X6_isHall pf pn = 1 := by
  unfold sp_X6_isHall
  repeat' split
  all_goals first | exact Or.inl rfl | exact Or.inr rfl | simp
set_option maxHeartbeats 4000000 in
set_option maxRecDepth 100000 in
theorem c_X6_isHall (l : Launch) (g : kd_G) (sz : Nat) (pg : Nat) (pc : Nat) (pf : Nat → Int32) (pn : Nat) (hpn : pn ≤ 22) : kd_MI l yX6_isHall wsX6_isHall ({ frames := 6, cells := 0, slots := 0, locals := 138 }) [.ref pg] g [(pg, .inr (6, [.ref pc, .int (nI pn)])), (pc, .inl (g.2.1 0, 22, .inl pf))] sz (fun r (_ : Unit) => r = sp_X6_isHall pf pn) (fun _ => [(pg, .inr (6, [.ref pc, .int (nI pn)])), (pc, .inl (g.2.1 0, 22, .inl pf))]) 0 0 := by
  refine kd_met (l := l) (y := yX6_isHall) (ws := wsX6_isHall) (rm := { frames := 6, cells := 0, slots := 0, locals := 138 }) (av := [.ref pg]) (g := g) (WS := [(pg, .inr (6, [.ref pc, .int (nI pn)])), (pc, .inl (g.2.1 0, 22, .inl pf))]) (sz := sz) (mc := 0) (ms := 0) (cc := cX6_isHall) (maxL := 1) (ret := (some .boolean)) (own := RX6) (fun A => va_Qi (fun r (_ : Unit) => r = sp_X6_isHall pf pn) (fun u t => kd_post g A [(pg, .inr (6, [.ref pc, .int (nI pn)])), (pc, .inl (g.2.1 0, 22, .inl pf))] t) A) (by decide) rfl rfl (Nat.le_of_ble_eq_true rfl) ?_
  intro p e s m below meth c A ls hx hb hr hml hts hown hlocks hnm hA hP hK hD hS hE hl
  have hl : lv_has ls 1 [(0, .ref pg)] := hl
  have hiX6 : ∀ w ∈ u_ws RX6 TX6 2, w ∈ wsX6_isHall := by decide +kernel
  refine lv_aload_n hx hb dX6_isHall_0 rfl (lv_at hl 0 rfl) ?_
  refine lv_aload_n hx hb dX6_isHall_1 rfl (lv_at hl 0 rfl) ?_
  refine va_get (ci := 6) (v := .int (nI pn)) (C := RX6) (T := TX6) (N := 2) hx hb hts hiX6 hown hK hP (0) rfl rfl 1 (by decide) (hts (.fieldLink RX6 15 "KingdomAtDice$Page" "length" "I") (by decide +kernel)) (fun _ h9 => h9) rfl dX6_isHall_2 ?_
  refine lv_iconst (v := 3) hx hb dX6_isHall_5 (by decide) ?_
  refine lv_isub hx hb dX6_isHall_6 ?_
  refine kd_callIK (g := g) (wc := [(pg, .inr (6, [.ref pc, .int (nI pn)])), (pc, .inl (g.2.1 0, 22, .inl pf))]) (va_runV (mc := 0) (ms := 0) (rm := { frames := 1, cells := 0, slots := 0, locals := 21 }) (As := [.int ((nI pn) - 3)]) (rest := []) ⟨hx, hb, hml, hown, hts⟩ (c_X6_codeAt l g s.heap.size pg pc pf pn ((nI pn) - 3) hpn) (cwV 1 hts gX6_isHall_X6_codeAt rfl rfl rfl (by decide +kernel) ⟨Nat.le_of_ble_eq_true rfl, Nat.le_of_ble_eq_true rfl⟩) (kd_preV (wc := [(pg, .inr (6, [.ref pc, .int (nI pn)])), (pc, .inl (g.2.1 0, 22, .inl pf))]) (va_recv hK hP (ci := 6) (q0 := 0) rfl rfl) hP hD hS hA hK hE [0, 1] rfl (by decide)) rfl rfl hl.1 rfl (lv_room (Nat.le_of_ble_eq_true rfl)) dX6_isHall_7 ⟨Nat.le_of_ble_eq_true rfl, Nat.le_of_ble_eq_true rfl⟩) hP hD hS hA [0, 1] rfl (fun r_7 _ H locs hw hP hS => ?_)
  subst hw
  refine lv_bipush (v := 59) hx hb dX6_isHall_10 (by decide) ?_
  refine lv_icmp_ne (tgt := 30) hx hb dX6_isHall_12 (by decide) (fun c_12 => ?_) (fun c_12 => ?_)
  · refine lv_iconst (v := 0) hx hb dX6_isHall_30 (by decide) ?_
    exact kd_zret hx hb hr hlocks hK hS dX6_isHall_31 (Or.inl rfl) (()) (by rw [sp_X6_isHall, if_neg c_12]) hP hD
  · refine lv_aload_n hx hb dX6_isHall_15 rfl (lv_at hl 0 rfl) ?_
    refine kd_callIK (g := g) (wc := [(pg, .inr (6, [.ref pc, .int (nI pn)])), (pc, .inl (g.2.1 0, 22, .inl pf))]) (va_runV (mc := 0) (ms := 0) (rm := { frames := 5, cells := 0, slots := 0, locals := 114 }) (As := []) (rest := []) ⟨hx, hb, hml, hown, hts⟩ (c_X6_faultPlace l g H.size pg pc pf pn hpn) (cwV 0 hts gX6_isHall_X6_faultPlace rfl rfl rfl (by decide +kernel) ⟨Nat.le_of_ble_eq_true rfl, Nat.le_of_ble_eq_true rfl⟩) (kd_preV (wc := [(pg, .inr (6, [.ref pc, .int (nI pn)])), (pc, .inl (g.2.1 0, 22, .inl pf))]) (va_recv hK hP (ci := 6) (q0 := 0) rfl rfl) hP hD hS hA hK hE [0, 1] rfl (by decide)) rfl rfl hl.1 rfl (lv_room (Nat.le_of_ble_eq_true rfl)) dX6_isHall_16 ⟨Nat.le_of_ble_eq_true rfl, Nat.le_of_ble_eq_true rfl⟩) hP hD hS hA [0, 1] rfl (fun r_16 _ H locs hw hP hS => ?_)
    obtain rfl : r_16 = nI (kd_fp pf pn pn 0 0 (-1)) := hw
    refine lv_aload_n hx hb dX6_isHall_19 rfl (lv_at hl 0 rfl) ?_
    refine va_get (ci := 6) (v := .int (nI pn)) (C := RX6) (T := TX6) (N := 2) hx hb hts hiX6 hown hK hP (0) rfl rfl 1 (by decide) (hts (.fieldLink RX6 15 "KingdomAtDice$Page" "length" "I") (by decide +kernel)) (fun _ h9 => h9) rfl dX6_isHall_20 ?_
    refine lv_icmp_ne (tgt := 30) hx hb dX6_isHall_23 (by decide) (fun c_23 => ?_) (fun c_23 => ?_)
    · refine lv_iconst (v := 0) hx hb dX6_isHall_30 (by decide) ?_
      exact kd_zret hx hb hr hlocks hK hS dX6_isHall_31 (Or.inl rfl) (()) (by rw [sp_X6_isHall, if_pos c_12, if_neg c_23]) hP hD
    · refine lv_iconst (v := 1) hx hb dX6_isHall_26 (by decide) ?_
      refine lv_goto (tgt := 31) hx hb dX6_isHall_27 (by decide) ?_
      exact kd_zret hx hb hr hlocks hK hS dX6_isHall_31 (Or.inr rfl) (()) (by rw [sp_X6_isHall, if_pos c_12, if_pos c_23]) hP hD
/-- what KingdomAtDice$Page.hallThings answers and leaves, by its instructions -/
def sp_X6_hallThings (pn : Nat) : Int32 :=
  ((nI pn) - 2) / 3
set_option maxHeartbeats 4000000 in
set_option maxRecDepth 100000 in
theorem c_X6_hallThings (l : Launch) (g : kd_G) (sz : Nat) (pg : Nat) (pc : Nat) (pf : Nat → Int32) (pn : Nat) (hpn : pn ≤ 22) : kd_MI l yX6_hallThings wsX6_hallThings ({ frames := 0, cells := 0, slots := 0, locals := 0 }) [.ref pg] g [(pg, .inr (6, [.ref pc, .int (nI pn)])), (pc, .inl (g.2.1 0, 22, .inl pf))] sz (fun r (_ : Unit) => r = sp_X6_hallThings pn) (fun _ => [(pg, .inr (6, [.ref pc, .int (nI pn)])), (pc, .inl (g.2.1 0, 22, .inl pf))]) 0 0 := by
  refine kd_met (l := l) (y := yX6_hallThings) (ws := wsX6_hallThings) (rm := { frames := 0, cells := 0, slots := 0, locals := 0 }) (av := [.ref pg]) (g := g) (WS := [(pg, .inr (6, [.ref pc, .int (nI pn)])), (pc, .inl (g.2.1 0, 22, .inl pf))]) (sz := sz) (mc := 0) (ms := 0) (cc := cX6_hallThings) (maxL := 1) (ret := (some .int)) (own := RX6) (fun A => va_Qi (fun r (_ : Unit) => r = sp_X6_hallThings pn) (fun u t => kd_post g A [(pg, .inr (6, [.ref pc, .int (nI pn)])), (pc, .inl (g.2.1 0, 22, .inl pf))] t) A) (by decide) rfl rfl (Nat.le_of_ble_eq_true rfl) ?_
  intro p e s m below meth c A ls hx hb hr hml hts hown hlocks hnm hA hP hK hD hS hE hl
  have hl : lv_has ls 1 [(0, .ref pg)] := hl
  have hiX6 : ∀ w ∈ u_ws RX6 TX6 2, w ∈ wsX6_hallThings := by decide +kernel
  refine lv_aload_n hx hb dX6_hallThings_0 rfl (lv_at hl 0 rfl) ?_
  refine va_get (ci := 6) (v := .int (nI pn)) (C := RX6) (T := TX6) (N := 2) hx hb hts hiX6 hown hK hP (0) rfl rfl 1 (by decide) (hts (.fieldLink RX6 15 "KingdomAtDice$Page" "length" "I") (by decide +kernel)) (fun _ h9 => h9) rfl dX6_hallThings_1 ?_
  refine lv_iconst (v := 2) hx hb dX6_hallThings_4 (by decide) ?_
  refine lv_isub hx hb dX6_hallThings_5 ?_
  refine lv_iconst (v := 3) hx hb dX6_hallThings_6 (by decide) ?_
  refine lv_idiv hx hb dX6_hallThings_7 (by decide) ?_
  exact kd_iret hx hb hr hlocks hK hS dX6_hallThings_8 (()) (rfl) hP hD
/-- what KingdomAtDice$Page.hallSort answers and leaves, by its instructions -/
def sp_X6_hallSort (pf : Nat → Int32) (pn : Nat) (p0 : Int32) : Int32 :=
  sp_J0_indexOf_0f7a4_0 (((sp_X6_codeAt pf pn (3 * p0) : Int32).toUInt32 % 65536).toInt32)
set_option maxHeartbeats 4000000 in
set_option maxRecDepth 100000 in
theorem c_X6_hallSort (l : Launch) (g : kd_G) (sz : Nat) (pg : Nat) (pc : Nat) (pf : Nat → Int32) (pn : Nat) (p0 : Int32) (hpn : pn ≤ 22) : kd_MI l yX6_hallSort wsX6_hallSort ({ frames := 4, cells := 0, slots := 0, locals := 91 }) [.ref pg, .int p0] g [(pg, .inr (6, [.ref pc, .int (nI pn)])), (pc, .inl (g.2.1 0, 22, .inl pf))] sz (fun r (_ : Unit) => r = sp_X6_hallSort pf pn p0) (fun _ => [(pg, .inr (6, [.ref pc, .int (nI pn)])), (pc, .inl (g.2.1 0, 22, .inl pf))]) 0 0 := by
  refine kd_met (l := l) (y := yX6_hallSort) (ws := wsX6_hallSort) (rm := { frames := 4, cells := 0, slots := 0, locals := 91 }) (av := [.ref pg, .int p0]) (g := g) (WS := [(pg, .inr (6, [.ref pc, .int (nI pn)])), (pc, .inl (g.2.1 0, 22, .inl pf))]) (sz := sz) (mc := 0) (ms := 0) (cc := cX6_hallSort) (maxL := 2) (ret := (some .int)) (own := RX6) (fun A => va_Qi (fun r (_ : Unit) => r = sp_X6_hallSort pf pn p0) (fun u t => kd_post g A [(pg, .inr (6, [.ref pc, .int (nI pn)])), (pc, .inl (g.2.1 0, 22, .inl pf))] t) A) (by decide) rfl rfl (Nat.le_of_ble_eq_true rfl) ?_
  intro p e s m below meth c A ls hx hb hr hml hts hown hlocks hnm hA hP hK hD hS hE hl
  have hl : lv_has ls 2 [(0, .ref pg), (1, .int p0)] := hl
  refine va_ldcS hx hb hown hE.2.2.2.2.2.1 dX6_hallSort_0 ?_
  refine lv_aload_n hx hb dX6_hallSort_2 rfl (lv_at hl 0 rfl) ?_
  refine lv_iconst (v := 3) hx hb dX6_hallSort_3 (by decide) ?_
  refine lv_iload_n hx hb dX6_hallSort_4 rfl (lv_at hl 1 rfl) ?_
  refine lv_imul hx hb dX6_hallSort_5 ?_
  refine kd_callIK (g := g) (wc := [(pg, .inr (6, [.ref pc, .int (nI pn)])), (pc, .inl (g.2.1 0, 22, .inl pf))]) (va_runV (mc := 0) (ms := 0) (rm := { frames := 1, cells := 0, slots := 0, locals := 21 }) (As := [.int (3 * p0)]) (rest := [.ref (g.2.2.1 0)]) ⟨hx, hb, hml, hown, hts⟩ (c_X6_codeAt l g s.heap.size pg pc pf pn (3 * p0) hpn) (cwV 1 hts gX6_hallSort_X6_codeAt rfl rfl rfl (by decide +kernel) ⟨Nat.le_of_ble_eq_true rfl, Nat.le_of_ble_eq_true rfl⟩) (kd_preV (wc := [(pg, .inr (6, [.ref pc, .int (nI pn)])), (pc, .inl (g.2.1 0, 22, .inl pf))]) (va_recv hK hP (ci := 6) (q0 := 0) rfl rfl) hP hD hS hA hK hE [0, 1] rfl (by decide)) rfl rfl hl.1 rfl (lv_room (Nat.le_of_ble_eq_true rfl)) dX6_hallSort_6 ⟨Nat.le_of_ble_eq_true rfl, Nat.le_of_ble_eq_true rfl⟩) hP hD hS hA [0, 1] rfl (fun r_6 _ H locs hw hP hS => ?_)
  subst hw
  refine lv_i2c hx hb dX6_hallSort_9 rfl ?_
  refine kd_callIK (g := g) (wc := []) (va_runV (mc := 0) (ms := 0) (rm := { frames := 3, cells := 0, slots := 0, locals := 70 }) (As := [.int (((sp_X6_codeAt pf pn (3 * p0) : Int32).toUInt32 % 65536).toInt32)]) (rest := []) ⟨hx, hb, hml, hown, hts⟩ (c_J0_indexOf_0f7a4_0 l g H.size (((sp_X6_codeAt pf pn (3 * p0) : Int32).toUInt32 % 65536).toInt32) ) (cwV 1 hts gX6_hallSort_J0_indexOf_0f7a4 rfl rfl rfl (by decide +kernel) ⟨Nat.le_of_ble_eq_true rfl, Nat.le_of_ble_eq_true rfl⟩) (kd_preV (wc := []) (vk_recv hE.2.2.2.1 (i := 0) (by decide) hS) hP hD hS hA hK hE [] rfl (by decide)) rfl rfl hl.1 rfl (lv_room (Nat.le_of_ble_eq_true rfl)) dX6_hallSort_10 ⟨Nat.le_of_ble_eq_true rfl, Nat.le_of_ble_eq_true rfl⟩) hP hD hS hA [] rfl (fun r_10 _ H locs hw hP hS => ?_)
  subst hw
  exact kd_iret hx hb hr hlocks hK hS dX6_hallSort_13 (()) (rfl) hP hD
/-- what KingdomAtDice$Page.hallWorth answers and leaves, by its instructions -/
def sp_X6_hallWorth (pf : Nat → Int32) (pn : Nat) (p0 : Int32) : Int32 :=
  (sp_X6_codeAt pf pn ((3 * p0) + 1)) - 48
set_option maxHeartbeats 4000000 in
set_option maxRecDepth 100000 in
theorem c_X6_hallWorth (l : Launch) (g : kd_G) (sz : Nat) (pg : Nat) (pc : Nat) (pf : Nat → Int32) (pn : Nat) (p0 : Int32) (hpn : pn ≤ 22) : kd_MI l yX6_hallWorth wsX6_hallWorth ({ frames := 2, cells := 0, slots := 0, locals := 42 }) [.ref pg, .int p0] g [(pg, .inr (6, [.ref pc, .int (nI pn)])), (pc, .inl (g.2.1 0, 22, .inl pf))] sz (fun r (_ : Unit) => r = sp_X6_hallWorth pf pn p0) (fun _ => [(pg, .inr (6, [.ref pc, .int (nI pn)])), (pc, .inl (g.2.1 0, 22, .inl pf))]) 0 0 := by
  refine kd_met (l := l) (y := yX6_hallWorth) (ws := wsX6_hallWorth) (rm := { frames := 2, cells := 0, slots := 0, locals := 42 }) (av := [.ref pg, .int p0]) (g := g) (WS := [(pg, .inr (6, [.ref pc, .int (nI pn)])), (pc, .inl (g.2.1 0, 22, .inl pf))]) (sz := sz) (mc := 0) (ms := 0) (cc := cX6_hallWorth) (maxL := 2) (ret := (some .int)) (own := RX6) (fun A => va_Qi (fun r (_ : Unit) => r = sp_X6_hallWorth pf pn p0) (fun u t => kd_post g A [(pg, .inr (6, [.ref pc, .int (nI pn)])), (pc, .inl (g.2.1 0, 22, .inl pf))] t) A) (by decide) rfl rfl (Nat.le_of_ble_eq_true rfl) ?_
  intro p e s m below meth c A ls hx hb hr hml hts hown hlocks hnm hA hP hK hD hS hE hl
  have hl : lv_has ls 2 [(0, .ref pg), (1, .int p0)] := hl
  refine lv_aload_n hx hb dX6_hallWorth_0 rfl (lv_at hl 0 rfl) ?_
  refine lv_iconst (v := 3) hx hb dX6_hallWorth_1 (by decide) ?_
  refine lv_iload_n hx hb dX6_hallWorth_2 rfl (lv_at hl 1 rfl) ?_
  refine lv_imul hx hb dX6_hallWorth_3 ?_
  refine lv_iconst (v := 1) hx hb dX6_hallWorth_4 (by decide) ?_
  refine lv_iadd hx hb dX6_hallWorth_5 ?_
  refine kd_callIK (g := g) (wc := [(pg, .inr (6, [.ref pc, .int (nI pn)])), (pc, .inl (g.2.1 0, 22, .inl pf))]) (va_runV (mc := 0) (ms := 0) (rm := { frames := 1, cells := 0, slots := 0, locals := 21 }) (As := [.int ((3 * p0) + 1)]) (rest := []) ⟨hx, hb, hml, hown, hts⟩ (c_X6_codeAt l g s.heap.size pg pc pf pn ((3 * p0) + 1) hpn) (cwV 1 hts gX6_hallWorth_X6_codeAt rfl rfl rfl (by decide +kernel) ⟨Nat.le_of_ble_eq_true rfl, Nat.le_of_ble_eq_true rfl⟩) (kd_preV (wc := [(pg, .inr (6, [.ref pc, .int (nI pn)])), (pc, .inl (g.2.1 0, 22, .inl pf))]) (va_recv hK hP (ci := 6) (q0 := 0) rfl rfl) hP hD hS hA hK hE [0, 1] rfl (by decide)) rfl rfl hl.1 rfl (lv_room (Nat.le_of_ble_eq_true rfl)) dX6_hallWorth_6 ⟨Nat.le_of_ble_eq_true rfl, Nat.le_of_ble_eq_true rfl⟩) hP hD hS hA [0, 1] rfl (fun r_6 _ H locs hw hP hS => ?_)
  subst hw
  refine lv_bipush (v := 48) hx hb dX6_hallWorth_9 (by decide) ?_
  refine lv_isub hx hb dX6_hallWorth_11 ?_
  exact kd_iret hx hb hr hlocks hK hS dX6_hallWorth_12 (()) (rfl) hP hD
/-- what KingdomAtDice$Page.kingKindCode answers and leaves, by its instructions -/
def sp_X6_kingKindCode (pf : Nat → Int32) (pn : Nat) : Int32 :=
  sp_X6_codeAt pf pn ((nI pn) - 2)
set_option maxHeartbeats 4000000 in
set_option maxRecDepth 100000 in
theorem c_X6_kingKindCode (l : Launch) (g : kd_G) (sz : Nat) (pg : Nat) (pc : Nat) (pf : Nat → Int32) (pn : Nat) (hpn : pn ≤ 22) : kd_MI l yX6_kingKindCode wsX6_kingKindCode ({ frames := 2, cells := 0, slots := 0, locals := 42 }) [.ref pg] g [(pg, .inr (6, [.ref pc, .int (nI pn)])), (pc, .inl (g.2.1 0, 22, .inl pf))] sz (fun r (_ : Unit) => r = sp_X6_kingKindCode pf pn) (fun _ => [(pg, .inr (6, [.ref pc, .int (nI pn)])), (pc, .inl (g.2.1 0, 22, .inl pf))]) 0 0 := by
  refine kd_met (l := l) (y := yX6_kingKindCode) (ws := wsX6_kingKindCode) (rm := { frames := 2, cells := 0, slots := 0, locals := 42 }) (av := [.ref pg]) (g := g) (WS := [(pg, .inr (6, [.ref pc, .int (nI pn)])), (pc, .inl (g.2.1 0, 22, .inl pf))]) (sz := sz) (mc := 0) (ms := 0) (cc := cX6_kingKindCode) (maxL := 1) (ret := (some .int)) (own := RX6) (fun A => va_Qi (fun r (_ : Unit) => r = sp_X6_kingKindCode pf pn) (fun u t => kd_post g A [(pg, .inr (6, [.ref pc, .int (nI pn)])), (pc, .inl (g.2.1 0, 22, .inl pf))] t) A) (by decide) rfl rfl (Nat.le_of_ble_eq_true rfl) ?_
  intro p e s m below meth c A ls hx hb hr hml hts hown hlocks hnm hA hP hK hD hS hE hl
  have hl : lv_has ls 1 [(0, .ref pg)] := hl
  have hiX6 : ∀ w ∈ u_ws RX6 TX6 2, w ∈ wsX6_kingKindCode := by decide +kernel
  refine lv_aload_n hx hb dX6_kingKindCode_0 rfl (lv_at hl 0 rfl) ?_
  refine lv_aload_n hx hb dX6_kingKindCode_1 rfl (lv_at hl 0 rfl) ?_
  refine va_get (ci := 6) (v := .int (nI pn)) (C := RX6) (T := TX6) (N := 2) hx hb hts hiX6 hown hK hP (0) rfl rfl 1 (by decide) (hts (.fieldLink RX6 15 "KingdomAtDice$Page" "length" "I") (by decide +kernel)) (fun _ h9 => h9) rfl dX6_kingKindCode_2 ?_
  refine lv_iconst (v := 2) hx hb dX6_kingKindCode_5 (by decide) ?_
  refine lv_isub hx hb dX6_kingKindCode_6 ?_
  refine kd_callIK (g := g) (wc := [(pg, .inr (6, [.ref pc, .int (nI pn)])), (pc, .inl (g.2.1 0, 22, .inl pf))]) (va_runV (mc := 0) (ms := 0) (rm := { frames := 1, cells := 0, slots := 0, locals := 21 }) (As := [.int ((nI pn) - 2)]) (rest := []) ⟨hx, hb, hml, hown, hts⟩ (c_X6_codeAt l g s.heap.size pg pc pf pn ((nI pn) - 2) hpn) (cwV 1 hts gX6_kingKindCode_X6_codeAt rfl rfl rfl (by decide +kernel) ⟨Nat.le_of_ble_eq_true rfl, Nat.le_of_ble_eq_true rfl⟩) (kd_preV (wc := [(pg, .inr (6, [.ref pc, .int (nI pn)])), (pc, .inl (g.2.1 0, 22, .inl pf))]) (va_recv hK hP (ci := 6) (q0 := 0) rfl rfl) hP hD hS hA hK hE [0, 1] rfl (by decide)) rfl rfl hl.1 rfl (lv_room (Nat.le_of_ble_eq_true rfl)) dX6_kingKindCode_7 ⟨Nat.le_of_ble_eq_true rfl, Nat.le_of_ble_eq_true rfl⟩) hP hD hS hA [0, 1] rfl (fun r_7 _ H locs hw hP hS => ?_)
  subst hw
  exact kd_iret hx hb hr hlocks hK hS dX6_kingKindCode_10 (()) (rfl) hP hD
/-- what KingdomAtDice$Page.cousinKindCode answers and leaves, by its instructions -/
def sp_X6_cousinKindCode (pf : Nat → Int32) (pn : Nat) : Int32 :=
  sp_X6_codeAt pf pn ((nI pn) - 1)
set_option maxHeartbeats 4000000 in
set_option maxRecDepth 100000 in
theorem c_X6_cousinKindCode (l : Launch) (g : kd_G) (sz : Nat) (pg : Nat) (pc : Nat) (pf : Nat → Int32) (pn : Nat) (hpn : pn ≤ 22) : kd_MI l yX6_cousinKindCode wsX6_cousinKindCode ({ frames := 2, cells := 0, slots := 0, locals := 42 }) [.ref pg] g [(pg, .inr (6, [.ref pc, .int (nI pn)])), (pc, .inl (g.2.1 0, 22, .inl pf))] sz (fun r (_ : Unit) => r = sp_X6_cousinKindCode pf pn) (fun _ => [(pg, .inr (6, [.ref pc, .int (nI pn)])), (pc, .inl (g.2.1 0, 22, .inl pf))]) 0 0 := by
  refine kd_met (l := l) (y := yX6_cousinKindCode) (ws := wsX6_cousinKindCode) (rm := { frames := 2, cells := 0, slots := 0, locals := 42 }) (av := [.ref pg]) (g := g) (WS := [(pg, .inr (6, [.ref pc, .int (nI pn)])), (pc, .inl (g.2.1 0, 22, .inl pf))]) (sz := sz) (mc := 0) (ms := 0) (cc := cX6_cousinKindCode) (maxL := 1) (ret := (some .int)) (own := RX6) (fun A => va_Qi (fun r (_ : Unit) => r = sp_X6_cousinKindCode pf pn) (fun u t => kd_post g A [(pg, .inr (6, [.ref pc, .int (nI pn)])), (pc, .inl (g.2.1 0, 22, .inl pf))] t) A) (by decide) rfl rfl (Nat.le_of_ble_eq_true rfl) ?_
  intro p e s m below meth c A ls hx hb hr hml hts hown hlocks hnm hA hP hK hD hS hE hl
  have hl : lv_has ls 1 [(0, .ref pg)] := hl
  have hiX6 : ∀ w ∈ u_ws RX6 TX6 2, w ∈ wsX6_cousinKindCode := by decide +kernel
  refine lv_aload_n hx hb dX6_cousinKindCode_0 rfl (lv_at hl 0 rfl) ?_
  refine lv_aload_n hx hb dX6_cousinKindCode_1 rfl (lv_at hl 0 rfl) ?_
  refine va_get (ci := 6) (v := .int (nI pn)) (C := RX6) (T := TX6) (N := 2) hx hb hts hiX6 hown hK hP (0) rfl rfl 1 (by decide) (hts (.fieldLink RX6 15 "KingdomAtDice$Page" "length" "I") (by decide +kernel)) (fun _ h9 => h9) rfl dX6_cousinKindCode_2 ?_
  refine lv_iconst (v := 1) hx hb dX6_cousinKindCode_5 (by decide) ?_
  refine lv_isub hx hb dX6_cousinKindCode_6 ?_
  refine kd_callIK (g := g) (wc := [(pg, .inr (6, [.ref pc, .int (nI pn)])), (pc, .inl (g.2.1 0, 22, .inl pf))]) (va_runV (mc := 0) (ms := 0) (rm := { frames := 1, cells := 0, slots := 0, locals := 21 }) (As := [.int ((nI pn) - 1)]) (rest := []) ⟨hx, hb, hml, hown, hts⟩ (c_X6_codeAt l g s.heap.size pg pc pf pn ((nI pn) - 1) hpn) (cwV 1 hts gX6_cousinKindCode_X6_codeAt rfl rfl rfl (by decide +kernel) ⟨Nat.le_of_ble_eq_true rfl, Nat.le_of_ble_eq_true rfl⟩) (kd_preV (wc := [(pg, .inr (6, [.ref pc, .int (nI pn)])), (pc, .inl (g.2.1 0, 22, .inl pf))]) (va_recv hK hP (ci := 6) (q0 := 0) rfl rfl) hP hD hS hA hK hE [0, 1] rfl (by decide)) rfl rfl hl.1 rfl (lv_room (Nat.le_of_ble_eq_true rfl)) dX6_cousinKindCode_7 ⟨Nat.le_of_ble_eq_true rfl, Nat.le_of_ble_eq_true rfl⟩) hP hD hS hA [0, 1] rfl (fun r_7 _ H locs hw hP hS => ?_)
  subst hw
  exact kd_iret hx hb hr hlocks hK hS dX6_cousinKindCode_10 (()) (rfl) hP hD

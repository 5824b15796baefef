/-! THE CLAIM OUT OF ONE WALK OF THE LAW'S BODY. Your part is whole_start (and what it stands on); all else here is the same for every law, but numbers. -/
def R_law : String := "KingdomAtDiceLaw"
def lw_P (b : Addr) (xs : List Int32) (args : Array Value) (s : State) : Prop := args = #[.ref b] ∧ s.IntsAt b xs ∧ xs.length ≤ 320 ∧ (Jvm.Cond.and given_1 narrow_1).before args s = true
def lw_Q (_ : Array Value) (s : State) (o : Outcome) (t : State) : Prop := o = .returned (some (.int 1)) ∧ Framed s o t [] 600000 7302250
def lw_Z (below : List Frame) (a : Array Value) (s : State) : State → Prop := fun t => ∃ o, t.status = .running ∧ Ended t below o ∧ lw_Q a s o t
/-- the law's own end, with 1 on the stack, nothing written that was there before, its room as the claim has it -/
theorem lw_ret {p : Program} {l : Launch} {e : Env} {s : State} {m : MethodId} {below : List Frame} {meth : Method} {c : Code} {b : Nat} (hx : p.tables.exec = Jvm.exec) (hb : c.code = code) (hr : meth.sig.returnType = ret) (hlocks : meth.locks = false) {pc : Nat} {H : Heap} {ls : Array Slot} (hdg : decode code pc = .ok (.ireturn, 1)) : W p l e room_1 s m #[Value.ref b] below meth c H [] 600000 7302250 (lw_Z below #[Value.ref b] s) (F0 m pc ls [.int 1]) := by
  intro T hT X
  obtain ⟨fs, hret, hrun, hended, hW, hframe⟩ := X.leave (v := some (.int 1)) (hlocks := hlocks) (fun h => by rw [hr] at h; cases h)
  have hmeth' : T.vm.method? m = some meth := X.method'
  refine ⟨T.setFrames fs, ?_, .returned (some (.int 1)), hrun, hended, rfl, ⟨_, rfl⟩, hW, hframe⟩
  jvm_step X.here [X.here.top, hx, hb, hdg, hmeth', hr, ret, narrow_b1]
  (try refine ⟨rfl, ?_⟩); (try refine ⟨rfl, ?_⟩)
  first | (intro acts; rw [hret _ acts rfl rfl rfl]) | rw [hret _ _ rfl rfl rfl]
  exact Steps.refl _
/-- what holds at the law's entry: the machine, the code, the tables' words (any of lw_tbl by 'hts w (by decide +kernel)'), the script of L ints xs at the cell b, what the Statement gives of the start (any of its parts by flat_of_before) -/
def lw_At (p : Program) (s : State) (m : MethodId) (meth : Method) (c : Code) (b L : Nat) (xs : Nat → Int32) : Prop :=
  p.tables.exec = Jvm.exec ∧ c.code = code ∧ meth.sig.returnType = ret ∧ c.maxLocals = 4 ∧ s.vm.findClass R_law = some m.cls ∧ (∀ w ∈ lw_tbl, w.before #[Value.ref b] s = true) ∧ va_X b L xs s s.heap ∧ b < s.heap.size ∧ meth.locks = false ∧ (Jvm.Cond.and given_1 narrow_1).before #[Value.ref b] s = true
/-! what the start gives -/
theorem kd_nc_in : ∀ q ∈ kd_nc, Cond.not (.castable q.1 q.2) ∈ flatC (Jvm.Cond.and given_1 narrow_1) := by decide +kernel
theorem kd_in_tbl {w : Cond} (h : w ∈ tables_1) : w ∈ lw_tbl := List.mem_append_right _ h
def kd_tm (i : Nat) : Term := match i with
  | 0 => .string "KingdomAtDice$Page" 38
  | _ => .string "KingdomAtDice$Page" 45
theorem kd_start {p : Program} {s : State} {m : MethodId} {meth : Method} {c : Code} {b L : Nat} {xs : Nat → Int32} (C0 : lw_At p s m meth c b L xs) : ∃ g : kd_G, va_K g.1 vwCl (kd_ty g) s ∧ kd_E g (fun q : Nat => s.heap.size ≤ q) s := by
  obtain ⟨hx, hb, hr, hml, hown, hts, hX, hbl, hlocks, hgv⟩ := id C0
  have hfl := flat_of_before _ hgv
  have hA : ∀ a : Nat, a < s.heap.size → ¬ (fun q : Nat => s.heap.size ≤ q) a := fun a h => Nat.not_le.mpr h
  have htt : ∀ w ∈ tables_1, w.before #[Value.ref b] s = true := fun w hw => hts w (kd_in_tbl hw)
  obtain ⟨c0, i0, hn0⟩ := u_known (C := RX0) (T := TX0) (N := 3) (n := 3) hts inX0 (htt (.instantiable RX0 3) (by decide +kernel))
  obtain ⟨c1, i1, hn1⟩ := u_known (C := RX1) (T := TX1) (N := 3) (n := 3) hts inX1 (htt (.instantiable RX1 3) (by decide +kernel))
  obtain ⟨c2, i2, hn2⟩ := u_known (C := RX2) (T := TX2) (N := 1) (n := 1) hts inX2 (htt (.instantiable RX2 1) (by decide +kernel))
  obtain ⟨c3, i3, hn3⟩ := u_known (C := RX3) (T := TX3) (N := 3) (n := 3) hts inX3 (htt (.instantiable RX3 3) (by decide +kernel))
  obtain ⟨c4, i4, hn4⟩ := u_known (C := RX4) (T := TX4) (N := 3) (n := 3) hts inX4 (htt (.instantiable RX4 3) (by decide +kernel))
  obtain ⟨c5, i5, hn5⟩ := u_known (C := RX5) (T := TX5) (N := 2) (n := 2) hts inX5 (htt (.instantiable RX5 2) (by decide +kernel))
  obtain ⟨c6, i6, hn6⟩ := u_known (C := RX6) (T := TX6) (N := 2) (n := 2) hts inX6 (htt (.instantiable RX6 2) (by decide +kernel))
  obtain ⟨c7, i7, hn7⟩ := u_known (C := RX7) (T := TX7) (N := 6) (n := 6) hts inX7 (htt (.instantiable RX7 6) (by decide +kernel))
  obtain ⟨c8, i8, hn8⟩ := u_known (C := RX8) (T := TX8) (N := 6) (n := 6) hts inX8 (htt (.instantiable RX8 6) (by decide +kernel))
  obtain ⟨c9, i9, hn9⟩ := u_known (C := RX9) (T := TX9) (N := 3) (n := 3) hts inX9 (htt (.instantiable RX9 3) (by decide +kernel))
  obtain ⟨c10, i10, hn10⟩ := u_known (C := RX10) (T := TX10) (N := 10) (n := 10) hts inX10 (htt (.instantiable RX10 10) (by decide +kernel))
  obtain ⟨c11, i11, hn11⟩ := u_known (C := RX11) (T := TX11) (N := 28) (n := 28) hts inX11 (htt (.instantiable RX11 28) (by decide +kernel))
  obtain ⟨dC, dI, hKc⟩ : ∃ (dC : Nat → ClassId) (dI : Nat → Nat → Nat), ∀ (k : Nat) (q : vw_C), vwCl[k]? = some q → u_Kn s q.1 q.2.1 q.2.2 (dC k) (dI k) := by
    refine ⟨fun k => match k with | 0 => c0 | 1 => c1 | 2 => c2 | 3 => c3 | 4 => c4 | 5 => c5 | 6 => c6 | 7 => c7 | 8 => c8 | 9 => c9 | 10 => c10 | _ => c11, fun k => match k with | 0 => i0 | 1 => i1 | 2 => i2 | 3 => i3 | 4 => i4 | 5 => i5 | 6 => i6 | 7 => i7 | 8 => i8 | 9 => i9 | 10 => i10 | _ => i11, ?_⟩
    intro k q hq
    match k, hq with
    | 0, hq => cases hq; exact hn0
    | 1, hq => cases hq; exact hn1
    | 2, hq => cases hq; exact hn2
    | 3, hq => cases hq; exact hn3
    | 4, hq => cases hq; exact hn4
    | 5, hq => cases hq; exact hn5
    | 6, hq => cases hq; exact hn6
    | 7, hq => cases hq; exact hn7
    | 8, hq => cases hq; exact hn8
    | 9, hq => cases hq; exact hn9
    | 10, hq => cases hq; exact hn10
    | 11, hq => cases hq; exact hn11
    | k + 12, hq => simp [vwCl] at hq
  obtain ⟨a0, kA0, comp0, f0, g0, e0⟩ := Cond.arrayClass_spec (htt (.arrayClass .int) (by decide +kernel))
  obtain ⟨a1, kA1, comp1, f1, g1, e1⟩ := Cond.arrayClass_spec (htt (.arrayClass .long) (by decide +kernel))
  have o2 := htt (.arrayOver (.object "KingdomAtDice$Dice")) (by decide +kernel)
  have o3 := htt (.arrayOver (.object "KingdomAtDice$Thing")) (by decide +kernel)
  obtain ⟨comp2, a2, kA2, n2, -, g2, e2, f2⟩ := Cond.arrayOver_spec o2
  obtain ⟨comp3, a3, kA3, n3, -, g3, e3, f3⟩ := Cond.arrayOver_spec o3
  obtain ⟨adK, adV, hS, hev⟩ := vk_Sof (args := #[Value.ref b]) (s := s) (N := 2) (tm := kd_tm) (len := kd_len) (byt := kd_byt) (A := fun q : Nat => s.heap.size ≤ q)
    (fun i hi => by rcases (show i = 0 ∨ i = 1 by omega) with rfl | rfl <;> decide)
    (fun i hi => by
      rcases (show i = 0 ∨ i = 1 by omega) with rfl | rfl
      · exact hfl (.exactly (.string "KingdomAtDice$Page" 38) "java/lang/String") (by decide +kernel)
      · exact hfl (.exactly (.string "KingdomAtDice$Page" 45) "java/lang/String") (by decide +kernel))
    (fun i hi => by
      rcases (show i = 0 ∨ i = 1 by omega) with rfl | rfl
      · exact hfl (.eq (.field (.string "KingdomAtDice$Page" 38) "java/lang/String" "coder" "B") (.int 0)) (by decide +kernel)
      · exact hfl (.eq (.field (.string "KingdomAtDice$Page" 45) "java/lang/String" "coder" "B") (.int 0)) (by decide +kernel))
    (fun i hi => by
      rcases (show i = 0 ∨ i = 1 by omega) with rfl | rfl
      · exact hfl (.arrayOf (.field (.string "KingdomAtDice$Page" 38) "java/lang/String" "value" "[B") .byte) (by decide +kernel)
      · exact hfl (.arrayOf (.field (.string "KingdomAtDice$Page" 45) "java/lang/String" "value" "[B") .byte) (by decide +kernel))
    (fun i hi => by
      rcases (show i = 0 ∨ i = 1 by omega) with rfl | rfl
      · exact hfl (.eq (.length (.field (.string "KingdomAtDice$Page" 38) "java/lang/String" "value" "[B")) (.int 3)) (by decide +kernel)
      · exact hfl (.eq (.length (.field (.string "KingdomAtDice$Page" 45) "java/lang/String" "value" "[B")) (.int 5)) (by decide +kernel))
    (fun i hi j hj => by
      rcases (show i = 0 ∨ i = 1 by omega) with rfl | rfl
      · have hj : j < 3 := hj
        rcases (show j = 0 ∨ j = 1 ∨ j = 2 by omega) with rfl | rfl | rfl
        · exact hfl (.eq (.elem (.field (.string "KingdomAtDice$Page" 38) "java/lang/String" "value" "[B") (.int 0)) (.int 106)) (by decide +kernel)
        · exact hfl (.eq (.elem (.field (.string "KingdomAtDice$Page" 38) "java/lang/String" "value" "[B") (.int 1)) (.int 98)) (by decide +kernel)
        · exact hfl (.eq (.elem (.field (.string "KingdomAtDice$Page" 38) "java/lang/String" "value" "[B") (.int 2)) (.int 115)) (by decide +kernel)
      · have hj : j < 5 := hj
        rcases (show j = 0 ∨ j = 1 ∨ j = 2 ∨ j = 3 ∨ j = 4 by omega) with rfl | rfl | rfl | rfl | rfl
        · exact hfl (.eq (.elem (.field (.string "KingdomAtDice$Page" 45) "java/lang/String" "value" "[B") (.int 0)) (.int 100)) (by decide +kernel)
        · exact hfl (.eq (.elem (.field (.string "KingdomAtDice$Page" 45) "java/lang/String" "value" "[B") (.int 1)) (.int 104)) (by decide +kernel)
        · exact hfl (.eq (.elem (.field (.string "KingdomAtDice$Page" 45) "java/lang/String" "value" "[B") (.int 2)) (.int 116)) (by decide +kernel)
        · exact hfl (.eq (.elem (.field (.string "KingdomAtDice$Page" 45) "java/lang/String" "value" "[B") (.int 3)) (.int 108)) (by decide +kernel)
        · exact hfl (.eq (.elem (.field (.string "KingdomAtDice$Page" 45) "java/lang/String" "value" "[B") (.int 4)) (.int 98)) (by decide +kernel))
    (fun i j hi hj hij => by
      rcases (show i = 0 ∨ i = 1 by omega) with rfl | rfl
      · obtain rfl : j = 1 := by omega
        exact Or.inr (hfl (.not (.eq (.string "KingdomAtDice$Page" 45) (.string "KingdomAtDice$Page" 38))) (by decide +kernel))
      · obtain rfl : j = 0 := by omega
        exact Or.inl (hfl (.not (.eq (.string "KingdomAtDice$Page" 45) (.string "KingdomAtDice$Page" 38))) (by decide +kernel)))
    hA
  have v0 := hev 0 (by decide)
  have v1 := hev 1 (by decide)
  have v2 := va_eqR (hfl (.eq (.string "KingdomAtDice$Page" 45) (.string "KingdomAtDice" 290)) (by decide +kernel)) v1
  refine ⟨((dC, dI), (fun k => match k with | 0 => a0 | 1 => a1 | 2 => a2 | _ => a3), adK, adV), ⟨hKc, ?_⟩, ?_, ⟨va_AO.of o2, va_AO.of o3⟩, ?_, hS, ?_, ?_, ?_, ?_⟩
  · intro k q hq
    match k, hq with
    | 0, hq => cases hq; exact ⟨fun n z => ⟨fun k h => (by cases h), kA0, g0, comp0, e0⟩, f0⟩
    | 1, hq => cases hq; exact ⟨fun n z => ⟨fun k h => (by cases h), kA1, g1, comp1, e1⟩, f1⟩
    | 2, hq => cases hq; exact ⟨fun n z => ⟨fun k h => (by cases h), kA2, g2, comp2, e2⟩, kA2, comp2, g2, e2, n2, f2⟩
    | 3, hq => cases hq; exact ⟨fun n z => ⟨fun k h => (by cases h), kA3, g3, comp3, e3⟩, kA3, comp3, g3, e3, n3, f3⟩
    | k + 4, hq => simp [kd_ty] at hq
  · intro w hw
    exact va_Nw.of (kd_isN_tab (List.all_eq_true.mp kd_nw_ok w hw)) (htt w (kd_nw_in w hw))
  · intro q hq
    exact va_Nc.of (hfl _ (kd_nc_in q hq))
  · exact va_Zof (htt (.laysStatic "java/lang/String" "COMPACT_STRINGS" "Z") (by decide +kernel)) (htt (.initialized "java/lang/String") (by decide +kernel)) (va_eqi (hfl (.eq (.static "java/lang/String" "COMPACT_STRINGS" "Z") (.int 1)) (by decide +kernel))) hA
  · exact vk_R.of (htt (.stringRef "KingdomAtDice$Page" 38 "jbs") (by decide +kernel)) v0
  · exact vk_R.of (htt (.stringRef "KingdomAtDice$Page" 45 "dhtlb") (by decide +kernel)) v1
  · exact vk_R.of (htt (.stringRef "KingdomAtDice" 290 "dhtlb") (by decide +kernel)) v2

/-! what a launch gives: classes and slots, the array classes (int, long, Dice, Thing), the places of the String constants and of their bytes -/
abbrev kd_G : Type := va_G × (Nat → ClassId) × (Nat → Nat) × (Nat → Nat)
abbrev kd_ty (g : kd_G) : List (ClassId × FieldType) := [(g.2.1 0, .int), (g.2.1 1, .long), (g.2.1 2, .object "KingdomAtDice$Dice"), (g.2.1 3, .object "KingdomAtDice$Thing")]
def kd_isN (w : Cond) : Bool := match w with
  | .fieldLinkNest _ _ _ _ _ _ => true
  | .methodLinkNest _ _ _ _ => true
  | .castable _ _ => true
  | _ => false
theorem kd_isN_warm {w : Cond} (hw : kd_isN w = true) {s U : State} (hW : s.WarmedH U.vm) (h : va_Nw w s) : va_Nw w U := by
  cases w <;> first | exact va_Nw.warmF hW h | exact va_Nw.warmM hW h | exact va_Nw.warmC hW h | (simp [kd_isN] at hw)
theorem kd_isN_tab {w : Cond} (hw : kd_isN w = true) : w.onTables = true := by
  cases w <;> first | rfl | (simp [kd_isN] at hw)
def kd_nw : List Cond := [.methodLinkNest "KingdomAtDice" 9 ⟨"KingdomAtDice$Page", "<init>", "()V"⟩ "KingdomAtDice", .methodLinkNest "KingdomAtDice" 41 ⟨"KingdomAtDice$Odds", "<init>", "()V"⟩ "KingdomAtDice", .methodLinkNest "KingdomAtDice" 48 ⟨"KingdomAtDice$Draws", "<init>", "()V"⟩ "KingdomAtDice", .methodLinkNest "KingdomAtDice" 55 ⟨"KingdomAtDice$Standing", "<init>", "()V"⟩ "KingdomAtDice", .methodLinkNest "KingdomAtDice$Standing" 17 ⟨"KingdomAtDice$Thing", "<init>", "()V"⟩ "KingdomAtDice", .methodLinkNest "KingdomAtDice" 78 ⟨"KingdomAtDice$Page", "isFull", "()Z"⟩ "KingdomAtDice", .methodLinkNest "KingdomAtDice" 82 ⟨"KingdomAtDice$Page", "push", "(I)I"⟩ "KingdomAtDice", .methodLinkNest "KingdomAtDice" 86 ⟨"KingdomAtDice$Page", "clear", "()I"⟩ "KingdomAtDice", .methodLinkNest "KingdomAtDice" 90 ⟨"KingdomAtDice$Page", "faultPlace", "()I"⟩ "KingdomAtDice", .methodLinkNest "KingdomAtDice$Page" 23 ⟨"KingdomAtDice", "isBelow", "(II)Z"⟩ "KingdomAtDice", .methodLinkNest "KingdomAtDice" 93 ⟨"KingdomAtDice$Page", "isHall", "()Z"⟩ "KingdomAtDice", .methodLinkNest "KingdomAtDice" 96 ⟨"KingdomAtDice$Standing", "begin", "(LKingdomAtDice$Page;)V"⟩ "KingdomAtDice", .methodLinkNest "KingdomAtDice$Standing" 35 ⟨"KingdomAtDice$Page", "hallThings", "()I"⟩ "KingdomAtDice", .methodLinkNest "KingdomAtDice$Standing" 47 ⟨"KingdomAtDice$Page", "hallSort", "(I)I"⟩ "KingdomAtDice", .methodLinkNest "KingdomAtDice$Standing" 51 ⟨"KingdomAtDice$Page", "hallWorth", "(I)I"⟩ "KingdomAtDice", .methodLinkNest "KingdomAtDice$Standing" 54 ⟨"KingdomAtDice$Thing", "begin", "(II)V"⟩ "KingdomAtDice", .methodLinkNest "KingdomAtDice" 100 ⟨"KingdomAtDice$Page", "kingKindCode", "()I"⟩ "KingdomAtDice", .methodLinkNest "KingdomAtDice" 107 ⟨"KingdomAtDice$Page", "cousinKindCode", "()I"⟩ "KingdomAtDice", .methodLinkNest "KingdomAtDice" 110 ⟨"KingdomAtDice$Odds", "reckon", "(LKingdomAtDice$Dice;LKingdomAtDice$Dice;)V"⟩ "KingdomAtDice", .methodLinkNest "KingdomAtDice$Twins" 15 ⟨"KingdomAtDice", "isSum", "(I)Z"⟩ "KingdomAtDice", .methodLinkNest "KingdomAtDice$Dice" 26 ⟨"KingdomAtDice", "isSum", "(I)Z"⟩ "KingdomAtDice", .methodLinkNest "KingdomAtDice" 117 ⟨"KingdomAtDice$Standing", "has", "(I)Z"⟩ "KingdomAtDice", .methodLinkNest "KingdomAtDice$Standing" 62 ⟨"KingdomAtDice", "isBelow", "(II)Z"⟩ "KingdomAtDice", .methodLinkNest "KingdomAtDice" 129 ⟨"KingdomAtDice$Thing", "tell", "(I)I"⟩ "KingdomAtDice", .methodLinkNest "KingdomAtDice" 161 ⟨"KingdomAtDice$Standing", "hasHall", "()Z"⟩ "KingdomAtDice", .methodLinkNest "KingdomAtDice" 151 ⟨"KingdomAtDice$Standing", "mayStake", "(II)Z"⟩ "KingdomAtDice", .methodLinkNest "KingdomAtDice" 157 ⟨"KingdomAtDice$Standing", "settle", "(IIII)I"⟩ "KingdomAtDice", .methodLinkNest "KingdomAtDice$Standing" 84 ⟨"KingdomAtDice$Thing", "lose", "(IZ)V"⟩ "KingdomAtDice", .methodLinkNest "KingdomAtDice$Standing" 88 ⟨"KingdomAtDice$Thing", "comeBack", "()V"⟩ "KingdomAtDice", .methodLinkNest "KingdomAtDice" 164 ⟨"KingdomAtDice$Odds", "waysTo", "(I)I"⟩ "KingdomAtDice", .methodLinkNest "KingdomAtDice$Odds" 33 ⟨"KingdomAtDice", "isBelow", "(II)Z"⟩ "KingdomAtDice", .methodLinkNest "KingdomAtDice" 183 ⟨"KingdomAtDice$Standing", "stakesFor", "(I)I"⟩ "KingdomAtDice", .methodLinkNest "KingdomAtDice" 194 ⟨"KingdomAtDice$Standing", "kingsBy", "(I)I"⟩ "KingdomAtDice", .methodLinkNest "KingdomAtDice$Standing" 94 ⟨"KingdomAtDice$Thing", "isKingsBy", "(I)Z"⟩ "KingdomAtDice", .methodLinkNest "KingdomAtDice" 197 ⟨"KingdomAtDice$Standing", "worthOf", "(I)I"⟩ "KingdomAtDice", .methodLinkNest "KingdomAtDice" 203 ⟨"KingdomAtDice$Standing", "addSeen", "(I)I"⟩ "KingdomAtDice", .methodLinkNest "KingdomAtDice" 206 ⟨"KingdomAtDice$Standing", "clearSeen", "()I"⟩ "KingdomAtDice", .methodLinkNest "KingdomAtDice" 209 ⟨"KingdomAtDice$Standing", "waysSeenBy", "(LKingdomAtDice$Dice;)J"⟩ "KingdomAtDice", .methodLinkNest "KingdomAtDice" 219 ⟨"KingdomAtDice$Draws", "begin", "(I)V"⟩ "KingdomAtDice", .methodLinkNest "KingdomAtDice$Twins" 23 ⟨"KingdomAtDice$Draws", "next", "(I)I"⟩ "KingdomAtDice", .methodLinkNest "KingdomAtDice$Dice" 32 ⟨"KingdomAtDice$Draws", "next", "(I)I"⟩ "KingdomAtDice", .methodLinkNest "KingdomAtDice" 234 ⟨"KingdomAtDice$Draws", "seedNow", "()I"⟩ "KingdomAtDice", .methodLinkNest "KingdomAtDice" 237 ⟨"KingdomAtDice$Standing", "copy", "(LKingdomAtDice$Standing;)V"⟩ "KingdomAtDice", .methodLinkNest "KingdomAtDice$Standing" 58 ⟨"KingdomAtDice$Thing", "copy", "(LKingdomAtDice$Thing;)V"⟩ "KingdomAtDice", .methodLinkNest "KingdomAtDice" 241 ⟨"KingdomAtDice$Standing", "wrongMany", "()I"⟩ "KingdomAtDice", .methodLinkNest "KingdomAtDice$Standing" 97 ⟨"KingdomAtDice$Thing", "isWronglyLost", "()Z"⟩ "KingdomAtDice", .methodLinkNest "KingdomAtDice" 266 ⟨"KingdomAtDice$Page", "codeAt", "(I)I"⟩ "KingdomAtDice", .fieldLinkNest "KingdomAtDice" 244 "KingdomAtDice$Page" "length" "I" "KingdomAtDice", .fieldLinkNest "KingdomAtDice" 167 "KingdomAtDice$Odds" "total" "I" "KingdomAtDice", .fieldLinkNest "KingdomAtDice$Standing" 91 "KingdomAtDice$Thing" "sort" "I" "KingdomAtDice", .fieldLinkNest "KingdomAtDice$Standing" 74 "KingdomAtDice$Thing" "worth" "I" "KingdomAtDice", .fieldLinkNest "KingdomAtDice$Standing" 70 "KingdomAtDice$Thing" "isKings" "Z" "KingdomAtDice", .fieldLinkNest "KingdomAtDice" 178 "KingdomAtDice$Thing" "isKings" "Z" "KingdomAtDice", .fieldLinkNest "KingdomAtDice" 125 "KingdomAtDice$Standing" "things" "[LKingdomAtDice$Thing;" "KingdomAtDice", .fieldLinkNest "KingdomAtDice" 114 "KingdomAtDice$Standing" "thingMany" "I" "KingdomAtDice", .fieldLinkNest "KingdomAtDice" 216 "KingdomAtDice$Standing" "gold" "I" "KingdomAtDice", .fieldLinkNest "KingdomAtDice" 154 "KingdomAtDice$Standing" "throwMany" "I" "KingdomAtDice", .fieldLinkNest "KingdomAtDice" 200 "KingdomAtDice$Standing" "seenMany" "I" "KingdomAtDice", .castable "KingdomAtDice$Bone" "KingdomAtDice$Heavy", .castable "KingdomAtDice$Heavy" "KingdomAtDice$Dice", .castable "KingdomAtDice$Twins" "KingdomAtDice$Dice", .castable "KingdomAtDice$Light" "KingdomAtDice$Dice", .castable "KingdomAtDice$Bone" "KingdomAtDice$Dice"]
def kd_nc : List (String × String) := [("KingdomAtDice$Dice", "KingdomAtDice$Heavy"), ("KingdomAtDice$Dice", "KingdomAtDice$Twins"), ("KingdomAtDice$Dice", "KingdomAtDice$Light"), ("KingdomAtDice$Dice", "KingdomAtDice$Bone"), ("KingdomAtDice$Heavy", "KingdomAtDice$Twins"), ("KingdomAtDice$Heavy", "KingdomAtDice$Light"), ("KingdomAtDice$Heavy", "KingdomAtDice$Bone"), ("KingdomAtDice$Twins", "KingdomAtDice$Heavy"), ("KingdomAtDice$Twins", "KingdomAtDice$Light"), ("KingdomAtDice$Twins", "KingdomAtDice$Bone"), ("KingdomAtDice$Light", "KingdomAtDice$Heavy"), ("KingdomAtDice$Light", "KingdomAtDice$Twins"), ("KingdomAtDice$Light", "KingdomAtDice$Bone"), ("KingdomAtDice$Bone", "KingdomAtDice$Twins"), ("KingdomAtDice$Bone", "KingdomAtDice$Light")]
theorem kd_nw_ok : kd_nw.all kd_isN = true := by decide +kernel
theorem kd_nw_in : ∀ w ∈ kd_nw, w ∈ tables_1 := by decide +kernel
def kd_len : List Nat := [3, 5]
def kd_byt : List (List Int32) := [[106, 98, 115], [100, 104, 116, 108, 98]]
/-- what holds of the launch and of the String constants, outside of A -/
def kd_E (g : kd_G) (A : Nat → Prop) (U : State) : Prop :=
  (∀ w ∈ kd_nw, va_Nw w U) ∧ (va_AO "KingdomAtDice$Dice" U ∧ va_AO "KingdomAtDice$Thing" U) ∧ (∀ q ∈ kd_nc, va_Nc q.1 q.2 U) ∧
  vk_S 2 kd_len kd_byt g.2.2.1 g.2.2.2 A U U.heap ∧ va_Z "java/lang/String" "COMPACT_STRINGS" "Z" (.int 1) A U U.heap ∧
  (vk_R "KingdomAtDice$Page" 38 "jbs" (g.2.2.1 0) U ∧ vk_R "KingdomAtDice$Page" 45 "dhtlb" (g.2.2.1 1) U ∧ vk_R "KingdomAtDice" 290 "dhtlb" (g.2.2.1 1) U)
theorem kd_N {g : kd_G} {A : Nat → Prop} {U : State} (h : kd_E g A U) (i : Nat) {w : Cond} (hi : kd_nw[i]? = some w) : va_Nw w U := h.1 w (List.mem_of_getElem? hi)
theorem kd_Nb {g : kd_G} {A : Nat → Prop} {U : State} (h : kd_E g A U) (i : Nat) {w : Cond} (hi : kd_nw[i]? = some w) {args : Array Value} : w.before args U = true :=
  va_Nw.use (kd_isN_tab (List.all_eq_true.mp kd_nw_ok w (List.mem_of_getElem? hi))) (kd_N h i hi)
theorem kd_NC {g : kd_G} {A : Nat → Prop} {U : State} (h : kd_E g A U) (i : Nat) {q : String × String} (hi : kd_nc[i]? = some q) : va_Nc q.1 q.2 U := h.2.2.1 q (List.mem_of_getElem? hi)
theorem kd_E.call {g : kd_G} {A : Nat → Prop} {s U : State} {H : Heap} {locs : List Loc} {wc : va_W} (h : kd_E g A s) (hS : va_S A s.heap H locs) (hF : ∀ q, va_A wc H.size q → A q) (hU : U.heap = H) (hW : s.WarmedH U.vm) : kd_E g (va_A wc H.size) U := by
  refine ⟨fun w hw => kd_isN_warm (List.all_eq_true.mp kd_nw_ok w hw) hW (h.1 w hw), ⟨h.2.1.1.moved hW.alike, h.2.1.2.moved hW.alike⟩, fun q hq => (h.2.2.1 q hq).moved hW.alike, ?_, ?_, vk_R.warm hW h.2.2.2.2.2.1, vk_R.warm hW h.2.2.2.2.2.2.1, vk_R.warm hW h.2.2.2.2.2.2.2⟩
  · rw [hU]; exact ((h.2.2.2.1.kept hS.2.1).narrow hF).moved hW.alike
  · rw [hU]; exact ((h.2.2.2.2.1.kept hS.2.1).narrow hF).moved hW.alike
theorem kd_E.same {g : kd_G} {A : Nat → Prop} {s U : State} (h : kd_E g A s) (hh : U.heap = s.heap) (hv : U.vm = s.vm) : kd_E g A U := by
  have hal : s.vm.Alike U.vm := by rw [hv]; exact Vm.Alike.refl _
  refine ⟨fun w hw => va_Nw.same (kd_isN_tab (List.all_eq_true.mp kd_nw_ok w hw)) hv.symm (h.1 w hw), ⟨h.2.1.1.moved hal, h.2.1.2.moved hal⟩, fun q hq => (h.2.2.1 q hq).moved hal, ?_, ?_, vk_R.same hv h.2.2.2.2.2.1, vk_R.same hv h.2.2.2.2.2.2.1, vk_R.same hv h.2.2.2.2.2.2.2⟩
  · rw [hh]; exact h.2.2.2.1.moved hal
  · rw [hh]; exact h.2.2.2.2.1.moved hal
/-- a method's start and end -/
def kd_pre (g : kd_G) (WS : va_W) (sz : Nat) (U : State) : Prop := U.heap.size = sz ∧ va_P g.1 vwCl WS U.heap ∧ va_K g.1 vwCl (kd_ty g) U ∧ va_D (fun _ => True) WS ∧ kd_E g (va_A WS sz) U
def kd_post (g : kd_G) (A : Nat → Prop) (WS : va_W) (t : State) : Prop := va_P g.1 vwCl WS t.heap ∧ va_K g.1 vwCl (kd_ty g) t ∧ va_D A WS
theorem kd_blind {g : kd_G} {WS : va_W} {sz : Nat} {av : List Value} : FrameBlind (va_Pc av (kd_pre g WS sz)) := fun a U gf mk q => by
  obtain ⟨q0, q1, qP, qK, qD, qE⟩ := q
  exact ⟨q0, q1, qP, va_K.moved (u := U) (U := U.calling gf mk a) (Vm.Alike.refl U.vm) qK, qD, qE.same rfl rfl⟩
abbrev kd_MI (l : Launch) (y : MethodName) (ws : List Cond) (rm : Room) (av : List Value) (g : kd_G) (WS : va_W) (sz : Nat) {S : Type} (post : Int32 → S → Prop) (Wf : S → va_W) (mc ms : Nat) : Prop := Met l y ws rm (va_Pc av (kd_pre g WS sz)) (va_Qi post (fun u t => kd_post g (va_A WS sz) (Wf u) t) (va_A WS sz)) mc ms (va_A WS sz)
abbrev kd_ML (l : Launch) (y : MethodName) (ws : List Cond) (rm : Room) (av : List Value) (g : kd_G) (WS : va_W) (sz : Nat) {S : Type} (post : Int64 → S → Prop) (Wf : S → va_W) (mc ms : Nat) : Prop := Met l y ws rm (va_Pc av (kd_pre g WS sz)) (va_Ql post (fun u t => kd_post g (va_A WS sz) (Wf u) t) (va_A WS sz)) mc ms (va_A WS sz)
abbrev kd_MV (l : Launch) (y : MethodName) (ws : List Cond) (rm : Room) (av : List Value) (g : kd_G) (WS : va_W) (sz : Nat) {S : Type} (post : S → Prop) (Wf : S → va_W) (mc ms : Nat) : Prop := Met l y ws rm (va_Pc av (kd_pre g WS sz)) (va_Qv post (fun u t => kd_post g (va_A WS sz) (Wf u) t) (va_A WS sz)) mc ms (va_A WS sz)
abbrev kd_MR (l : Launch) (y : MethodName) (ws : List Cond) (rm : Room) (av : List Value) (g : kd_G) (WS : va_W) (sz : Nat) {S : Type} (post : S → Prop) (ad : S → Nat) (Wf : S → va_W) (mc ms : Nat) : Prop := Met l y ws rm (va_Pc av (kd_pre g WS sz)) (va_Qr post (fun u a t => a = ad u ∧ kd_post g (va_A WS sz) (Wf u) t) (va_A WS sz)) mc ms (va_A WS sz)
theorem kd_met {l : Launch} {y : MethodName} {ws ws' : List Cond} {rm : Room} {av : List Value} {g : kd_G} {WS : va_W} {sz mc ms maxL : Nat} {cc : ByteArray} {ret : Option FieldType} {own : String} (Qf : (Nat → Prop) → Array Value → State → Outcome → State → Prop)
    (hy : plainName y.cls = true) (hw : ws = Cond.code y cc maxL ret :: ws') (ho : y.cls = own) (hn : (lg_sl av).length ≤ maxL)
    (K : ∀ (p : Program) (e : Env) (s : State) (m : MethodId) (below : List Frame) (meth : Method) (c : Code) (A : Nat → Prop) (ls : Array Slot), p.tables.exec = Jvm.exec → c.code = cc → meth.sig.returnType = ret → c.maxLocals = maxL → (∀ w ∈ ws, w.before av.toArray s = true) → s.vm.findClass own = some m.cls → meth.locks = false → meth.name = y.name → (∀ q : Nat, s.heap.size ≤ q → A q) → va_P g.1 vwCl WS s.heap → va_K g.1 vwCl (kd_ty g) s → va_D A WS → va_S A s.heap s.heap [] → kd_E g A s → lv_has ls maxL (lv_args 0 av) →
      W p l e rm s m av.toArray below meth c s.heap [] 0 0 (MQ below (Qf A) av.toArray s mc ms A) (F0 m 0 ls [])) :
    Met l y ws rm (va_Pc av (kd_pre g WS sz)) (Qf (va_A WS sz)) mc ms (va_A WS sz) := by
  refine Met.ofW (cc := cc) (maxL := maxL) (ret := ret) hy hw ?_
  intro p e s m args below meth c s₁ B hml hv
  obtain ⟨rfl, hsz, hP, hK, hD0, hE⟩ := hv
  subst hsz
  have hl := lv_entry av (n := maxL) hn
  rw [lg_entry_eq]
  exact K p e s m below meth c (va_A WS s.heap.size) _ B.exec B.bytes B.returns hml (atoms_spec (ws := ws) B.pre) (by rw [← ho]; exact findClass_of_methodNamed B.named) B.notSynchronized (name_of_methodNamed B.named B.method).1 (fun q h => Or.inr h) hP hK hD0.self va_S.rf hE hl
section KDB
variable {p : Program} {l : Launch} {e : Env} {R : Room} {s : State} {m : MethodId} {args : Array Value} {below : List Frame} {meth : Method} {c : Code} {H : Heap} {locs : List Loc} {cells slots : Nat} {Q : State → Prop} {cc : ByteArray} {pc : Nat} {ls : Array Slot} {rest st0 : List Value} {A : Nat → Prop} {g : kd_G} {ws wc : va_W} {S : Type} {Wf : S → va_W} {mc ms : Nat}
theorem kd_iret {post : Int32 → S → Prop} {v : Int32} (hx : p.tables.exec = Jvm.exec) (hb : c.code = cc) (hr : meth.sig.returnType = some .int) (hlocks : meth.locks = false) (hK : va_K g.1 vwCl (kd_ty g) s) (hS : va_S A s.heap H locs) (hd : decode cc pc = .ok (.ireturn, 1)) (u : S) (hw : post v u) (hP : va_P g.1 vwCl (Wf u) H) (hD : va_D A (Wf u)) : W p l e R s m args below meth c H locs cells slots (MQ below (va_Qi post (fun u t => kd_post g A (Wf u) t) A) args s cells slots A) (F0 m pc ls [.int v]) :=
  W.iret (v := v) hx hb hr (fun t ht hW => ⟨⟨v, u, rfl, hw, by rw [ht]; exact hP, va_K.moved hW.alike hK, hD⟩, hS.F ht⟩) hS.2.2 hd hlocks
theorem kd_zret {post : Int32 → S → Prop} {v : Int32} (hx : p.tables.exec = Jvm.exec) (hb : c.code = cc) (hr : meth.sig.returnType = some .boolean) (hlocks : meth.locks = false) (hK : va_K g.1 vwCl (kd_ty g) s) (hS : va_S A s.heap H locs) (hd : decode cc pc = .ok (.ireturn, 1)) (hv : v = 0 ∨ v = 1) (u : S) (hw : post v u) (hP : va_P g.1 vwCl (Wf u) H) (hD : va_D A (Wf u)) : W p l e R s m args below meth c H locs cells slots (MQ below (va_Qi post (fun u t => kd_post g A (Wf u) t) A) args s cells slots A) (F0 m pc ls [.int v]) :=
  W.zret (v := v) hx hb hr (by rcases hv with rfl | rfl <;> rfl) (fun t ht hW => ⟨⟨v, u, rfl, hw, by rw [ht]; exact hP, va_K.moved hW.alike hK, hD⟩, hS.F ht⟩) hS.2.2 hd hlocks
theorem kd_lret {post : Int64 → S → Prop} {v : Int64} (hx : p.tables.exec = Jvm.exec) (hb : c.code = cc) (hr : meth.sig.returnType = some .long) (hlocks : meth.locks = false) (hK : va_K g.1 vwCl (kd_ty g) s) (hS : va_S A s.heap H locs) (hd : decode cc pc = .ok (.lreturn, 1)) (u : S) (hw : post v u) (hP : va_P g.1 vwCl (Wf u) H) (hD : va_D A (Wf u)) : W p l e R s m args below meth c H locs cells slots (MQ below (va_Ql post (fun u t => kd_post g A (Wf u) t) A) args s cells slots A) (F0 m pc ls [.long v]) :=
  W.lret (v := v) hx hb hr (fun t ht hW => ⟨⟨v, u, rfl, hw, by rw [ht]; exact hP, va_K.moved hW.alike hK, hD⟩, hS.F ht⟩) hS.2.2 hd hlocks
theorem kd_vret {post : S → Prop} (hx : p.tables.exec = Jvm.exec) (hb : c.code = cc) (hr : meth.sig.returnType = none) (hlocks : meth.locks = false) (hK : va_K g.1 vwCl (kd_ty g) s) (hS : va_S A s.heap H locs) (hd : decode cc pc = .ok (.return_, 1)) (u : S) (hw : post u) (hP : va_P g.1 vwCl (Wf u) H) (hD : va_D A (Wf u)) : W p l e R s m args below meth c H locs cells slots (MQ below (va_Qv post (fun u t => kd_post g A (Wf u) t) A) args s cells slots A) (F0 m pc ls []) :=
  W.vret hx hb hr (fun t ht hW => ⟨⟨u, rfl, hw, by rw [ht]; exact hP, va_K.moved hW.alike hK, hD⟩, hS.F ht⟩) hS.2.2 hd hlocks
theorem kd_aret {post : S → Prop} {ad : S → Nat} {n : String} (hx : p.tables.exec = Jvm.exec) (hb : c.code = cc) (hr : meth.sig.returnType = some (.object n)) (hlocks : meth.locks = false) (hK : va_K g.1 vwCl (kd_ty g) s) (hS : va_S A s.heap H locs) (hd : decode cc pc = .ok (.areturn, 1)) (u : S) {a : Nat} (ha : a = ad u) (hw : post u) (hP : va_P g.1 vwCl (Wf u) H) (hD : va_D A (Wf u)) : W p l e R s m args below meth c H locs cells slots (MQ below (va_Qr post (fun u a t => a = ad u ∧ kd_post g A (Wf u) t) A) args s cells slots A) (F0 m pc ls [.ref a]) :=
  W.aret (v := .ref a) hx hb hr (Or.inl ⟨n, rfl⟩) (Or.inr ⟨a, rfl⟩) (fun t ht hW => ⟨⟨u, a, rfl, hw, ha, by rw [ht]; exact hP, va_K.moved hW.alike hK, hD⟩, hS.F ht⟩) hS.2.2 hd hlocks
/-- a callee's cells out of the caller's -/
theorem kd_fm {isC : List Nat} (hC : isC.map (fun i => ws[i]?) = wc.map some) : isC.filterMap (fun i => ws[i]?) = wc := by
  have h : ∀ (l : List Nat) (w : va_W), l.map (fun i => ws[i]?) = w.map some → l.filterMap (fun i => ws[i]?) = w := by
    intro l
    induction l with
    | nil => intro w h; cases w with
      | nil => rfl
      | cons a w => simp at h
    | cons i l ih => intro w h; cases w with
      | nil => simp at h
      | cons a w =>
        simp only [List.map_cons, List.cons.injEq] at h
        rw [List.filterMap_cons, h.1, ih w h.2]
  exact h isC wc hC
theorem kd_preS {av : List Value} (hP : va_P g.1 vwCl ws H) (hD : va_D A ws) (hS : va_S A s.heap H locs) (hA : ∀ q : Nat, s.heap.size ≤ q → A q) (hK : va_K g.1 vwCl (kd_ty g) s) (hE : kd_E g A s) (isC : List Nat) (hC : isC.map (fun i => ws[i]?) = wc.map some) (hn : va_nd isC = true) : PreS s H (va_Pc av (kd_pre g wc H.size)) av :=
  ⟨kd_blind, fun U hU hW => ⟨rfl, by rw [hU], by rw [hU]; exact hP.sub isC (kd_fm hC), va_K.moved hW.alike hK, (hD.sub isC hn hC).weaken (fun _ _ _ _ => trivial), hE.call hS (va_free hD hS hA isC hC) hU hW⟩⟩
theorem kd_preV {As : List Value} {b : Nat} {C : String} (hrec : ∃ cell : Cell, H[b]? = some cell ∧ cell.vm.isStatics = false ∧ s.vm.findClass C = some cell.cls) (hP : va_P g.1 vwCl ws H) (hD : va_D A ws) (hS : va_S A s.heap H locs) (hA : ∀ q : Nat, s.heap.size ≤ q → A q) (hK : va_K g.1 vwCl (kd_ty g) s) (hE : kd_E g A s) (isC : List Nat) (hC : isC.map (fun i => ws[i]?) = wc.map some) (hn : va_nd isC = true) : PreV s H C b (va_Pc (.ref b :: As) (kd_pre g wc H.size)) As :=
  ⟨kd_blind, hrec, (kd_preS (av := .ref b :: As) hP hD hS hA hK hE isC hC hn).2⟩
/-- cells put into their places -/
def kd_repl : va_W → List Nat → va_W → va_W
  | ws, i :: is, c :: cs => kd_repl (ws.set i c) is cs
  | ws, _, _ => ws
theorem kd_repl_at : ∀ (is : List Nat) (cs ws : va_W) (k : Nat) (q : Nat × va_E), va_nd is = true → is.length = cs.length → (kd_repl ws is cs)[k]? = some q → (∃ j : Nat, is[j]? = some k ∧ cs[j]? = some q) ∨ (k ∉ is ∧ ws[k]? = some q)
  | [], [], ws, k, q, _, _, h => Or.inr ⟨List.not_mem_nil, by simpa [kd_repl] using h⟩
  | [], c :: cs, ws, k, q, _, hl, _ => by simp at hl
  | i :: is, [], ws, k, q, _, hl, _ => by simp at hl
  | i :: is, c :: cs, ws, k, q, hn, hl, h => by
    simp only [va_nd, Bool.and_eq_true, decide_eq_true_eq] at hn
    rcases kd_repl_at is cs (ws.set i c) k q hn.2 (by simpa using hl) h with ⟨j, h1, h2⟩ | ⟨h1, h2⟩
    · exact Or.inl ⟨j + 1, by simpa using h1, by simpa using h2⟩
    · by_cases hk : k = i
      · subst hk
        rw [List.getElem?_set] at h2
        simp only [if_true] at h2
        split at h2
        · exact Or.inl ⟨0, rfl, by simpa using h2⟩
        · cases h2
      · refine Or.inr ⟨by simp [hk, h1], ?_⟩
        rw [List.getElem?_set] at h2
        simpa [Ne.symm hk] using h2
theorem kd_repl_ad : ∀ (is : List Nat) (cs ws : va_W), is.map (fun i => (ws[i]?).map (·.1)) = cs.map (fun c => some c.1) → va_nd is = true → (kd_repl ws is cs).map (·.1) = ws.map (·.1)
  | [], _, ws, _, _ => by simp [kd_repl]
  | i :: is, [], ws, _, _ => by simp [kd_repl]
  | i :: is, c :: cs, ws, h, hn => by
    simp only [va_nd, Bool.and_eq_true, decide_eq_true_eq] at hn
    simp only [List.map_cons, List.cons.injEq] at h
    have hs : (ws.set i c).map (·.1) = ws.map (·.1) := by
      rw [List.map_set]
      apply List.ext_getElem?
      intro n
      rw [List.getElem?_set]
      by_cases hi : i = n
      · subst hi
        simp only [if_true, List.length_map, List.getElem?_map]
        split
        · rw [h.1]
        · rename_i hx; rw [List.getElem?_eq_none (by omega)]; rfl
      · simp [hi]
    rw [kd_repl, kd_repl_ad is cs (ws.set i c) ?_ hn.2, hs]
    rw [← h.2]
    apply List.map_congr_left
    intro j hj
    rw [List.getElem?_set]
    have hij : i ≠ j := fun e => hn.1 (e ▸ hj)
    simp [hij]
theorem kd_D_ad {ws' : va_W} (hD : va_D A ws) (h : ws'.map (·.1) = ws.map (·.1)) : va_D A ws' := by
  have hg : ∀ (k : Nat) (q : Nat × va_E), ws'[k]? = some q → ∃ q', ws[k]? = some q' ∧ q'.1 = q.1 := by
    intro k q hk
    have h1 : (ws'.map (·.1))[k]? = some q.1 := by rw [List.getElem?_map, hk]; rfl
    rw [h, List.getElem?_map] at h1
    cases hq : ws[k]? with
    | none => rw [hq] at h1; cases h1
    | some q' => rw [hq] at h1; exact ⟨q', rfl, by simpa using h1⟩
  refine ⟨fun i j p q hi hj e => ?_, fun k q hk => ?_⟩
  · obtain ⟨p', h1, e1⟩ := hg i p hi
    obtain ⟨q', h2, e2⟩ := hg j q hj
    exact hD.1 i j p' q' h1 h2 (by rw [e1, e2, e])
  · obtain ⟨q', h1, e1⟩ := hg k q hk
    rw [← e1]
    exact hD.2 k q' h1
/-- behind a call: the callee's cells in their old places -/
theorem kd_back {H1 : Heap} {isC : List Nat} {w1 : va_W} (hP : va_P g.1 vwCl ws H) (hD : va_D A ws) (hC : isC.map (fun i => ws[i]?) = wc.map some) (hn : va_nd isC = true) (had : w1.map (·.1) = wc.map (·.1)) (hk : ∀ q : Nat, q < H.size → ¬ va_A wc H.size q → H1[q]? = H[q]?) (hP1 : va_P g.1 vwCl w1 H1) : va_P g.1 vwCl (kd_repl ws isC w1) H1 ∧ va_D A (kd_repl ws isC w1) := by
  have hlen : isC.length = w1.length := by
    have h1 := congrArg List.length hC
    have h2 := congrArg List.length had
    simp only [List.length_map] at h1 h2
    omega
  constructor
  · intro k q hq
    rcases kd_repl_at isC w1 ws k q hn hlen hq with ⟨j, h1, h2⟩ | ⟨h1, h2⟩
    · exact hP1 j q h2
    · refine (hP k q h2).kept (hk q.1 (hP k q h2).lt ?_)
      rintro (⟨j, ee, hj⟩ | hge)
      · obtain ⟨i, hi1, hi2⟩ := va_in_of isC hC hj
        have := hD.1 k i q (q.1, ee) h2 hi2 rfl
        subst this
        exact h1 (List.mem_of_getElem? hi1)
      · exact absurd (hP k q h2).lt (by omega)
  · refine kd_D_ad hD (kd_repl_ad isC w1 ws ?_ hn)
    have h1 : isC.map (fun i => (ws[i]?).map (·.1)) = (isC.map (fun i => ws[i]?)).map (Option.map (·.1)) := by simp
    have h2 : w1.map (fun c => some c.1) = (w1.map (·.1)).map some := by simp
    rw [h1, hC, h2, had]
    simp
theorem kd_keep {H1 : Heap} {isC : List Nat} (hP : va_P g.1 vwCl ws H) (hD : va_D A ws) (hC : isC.map (fun i => ws[i]?) = wc.map some) (hk : ∀ q : Nat, q < H.size → ¬ va_A wc H.size q → H1[q]? = H[q]?) (hP1 : va_P g.1 vwCl wc H1) : va_P g.1 vwCl ws H1 := by
  rintro k ⟨qa, qe⟩ hq
  by_cases h : ∃ (j : Nat) (ee : va_E), wc[j]? = some (qa, ee)
  · obtain ⟨j, ee, hj⟩ := h
    obtain ⟨i, hi1, hi2⟩ := va_in_of isC hC hj
    have hki := hD.1 k i (qa, qe) (qa, ee) hq hi2 rfl
    subst hki
    rw [hq] at hi2
    cases hi2
    exact hP1 j _ hj
  · have hlt : qa < H.size := (hP k (qa, qe) hq).lt
    refine (hP k (qa, qe) hq).kept (hk qa hlt ?_)
    rintro (hx | hge)
    · exact h hx
    · exact absurd hlt (by omega)
/-! calls: K the callee writes nothing; M it writes its cells -/
theorem kd_callIK {post : Int32 → S → Prop} {a : Array Value} (hr : va_Run p l e R s m args below meth c H locs cells slots mc ms (F0 m pc ls st0) rest (va_Qi post (fun _ t => kd_post g (va_A wc H.size) wc t) (va_A wc H.size) a) (va_A wc H.size)) (hP : va_P g.1 vwCl ws H) (hD : va_D A ws) (hS : va_S A s.heap H locs) (hA : ∀ q : Nat, s.heap.size ≤ q → A q) (isC : List Nat) (hC : isC.map (fun i => ws[i]?) = wc.map some)
    (kk : ∀ (r : Int32) (u : S) (H1 : Heap) (locs1 : List Loc), post r u → va_P g.1 vwCl ws H1 → va_S A s.heap H1 locs1 → W p l e R s m args below meth c H1 locs1 (cells + mc) (slots + ms) Q (F0 m (pc + 3) ls (.int r :: rest))) : W p l e R s m args below meth c H locs cells slots Q (F0 m pc ls st0) := by
  have hF := va_free (wc := wc) hD hS hA isC hC
  refine va_calli hr hS (fun q _ h => hF q h) hF (fun r u t H1 locs1 ht hvm hw hB hz1 hk1 hS1 => ?_)
  exact kk r u H1 locs1 hw (kd_keep hP hD hC hk1 (by rw [← ht]; exact hB.1)) hS1
theorem kd_callLK {post : Int64 → S → Prop} {a : Array Value} (hr : va_Run p l e R s m args below meth c H locs cells slots mc ms (F0 m pc ls st0) rest (va_Ql post (fun _ t => kd_post g (va_A wc H.size) wc t) (va_A wc H.size) a) (va_A wc H.size)) (hP : va_P g.1 vwCl ws H) (hD : va_D A ws) (hS : va_S A s.heap H locs) (hA : ∀ q : Nat, s.heap.size ≤ q → A q) (isC : List Nat) (hC : isC.map (fun i => ws[i]?) = wc.map some)
    (kk : ∀ (r : Int64) (u : S) (H1 : Heap) (locs1 : List Loc), post r u → va_P g.1 vwCl ws H1 → va_S A s.heap H1 locs1 → W p l e R s m args below meth c H1 locs1 (cells + mc) (slots + ms) Q (F0 m (pc + 3) ls (.long r :: rest))) : W p l e R s m args below meth c H locs cells slots Q (F0 m pc ls st0) := by
  have hF := va_free (wc := wc) hD hS hA isC hC
  refine va_calll hr hS (fun q _ h => hF q h) hF (fun r u t H1 locs1 ht hvm hw hB hz1 hk1 hS1 => ?_)
  exact kk r u H1 locs1 hw (kd_keep hP hD hC hk1 (by rw [← ht]; exact hB.1)) hS1
theorem kd_callRK {post : S → Prop} {ad : S → Nat} {a : Array Value} (hr : va_Run p l e R s m args below meth c H locs cells slots mc ms (F0 m pc ls st0) rest (va_Qr post (fun u a t => a = ad u ∧ kd_post g (va_A wc H.size) wc t) (va_A wc H.size) a) (va_A wc H.size)) (hP : va_P g.1 vwCl ws H) (hD : va_D A ws) (hS : va_S A s.heap H locs) (hA : ∀ q : Nat, s.heap.size ≤ q → A q) (isC : List Nat) (hC : isC.map (fun i => ws[i]?) = wc.map some)
    (kk : ∀ (u : S) (H1 : Heap) (locs1 : List Loc), post u → va_P g.1 vwCl ws H1 → va_S A s.heap H1 locs1 → W p l e R s m args below meth c H1 locs1 (cells + mc) (slots + ms) Q (F0 m (pc + 3) ls (.ref (ad u) :: rest))) : W p l e R s m args below meth c H locs cells slots Q (F0 m pc ls st0) := by
  have hF := va_free (wc := wc) hD hS hA isC hC
  refine va_callr hr hS (fun q _ h => hF q h) hF (fun u ra t H1 locs1 ht hvm hw hB hz1 hk1 hS1 => ?_)
  rw [hB.1]
  exact kk u H1 locs1 hw (kd_keep hP hD hC hk1 (by rw [← ht]; exact hB.2.1)) hS1
theorem kd_callIM {post : Int32 → S → Prop} {a : Array Value} (hr : va_Run p l e R s m args below meth c H locs cells slots mc ms (F0 m pc ls st0) rest (va_Qi post (fun u t => kd_post g (va_A wc H.size) (Wf u) t) (va_A wc H.size) a) (va_A wc H.size)) (hP : va_P g.1 vwCl ws H) (hD : va_D A ws) (hS : va_S A s.heap H locs) (hA : ∀ q : Nat, s.heap.size ≤ q → A q) (isC : List Nat) (hC : isC.map (fun i => ws[i]?) = wc.map some) (hn : va_nd isC = true) (had : ∀ u, (Wf u).map (·.1) = wc.map (·.1))
    (kk : ∀ (r : Int32) (u : S) (H1 : Heap) (locs1 : List Loc), post r u → va_P g.1 vwCl (kd_repl ws isC (Wf u)) H1 → va_D A (kd_repl ws isC (Wf u)) → va_S A s.heap H1 locs1 → W p l e R s m args below meth c H1 locs1 (cells + mc) (slots + ms) Q (F0 m (pc + 3) ls (.int r :: rest))) : W p l e R s m args below meth c H locs cells slots Q (F0 m pc ls st0) := by
  have hF := va_free (wc := wc) hD hS hA isC hC
  refine va_calli hr hS (fun q _ h => hF q h) hF (fun r u t H1 locs1 ht hvm hw hB hz1 hk1 hS1 => ?_)
  obtain ⟨h1, h2⟩ := kd_back hP hD hC hn (had u) hk1 (by rw [← ht]; exact hB.1)
  exact kk r u H1 locs1 hw h1 h2 hS1
theorem kd_callLM {post : Int64 → S → Prop} {a : Array Value} (hr : va_Run p l e R s m args below meth c H locs cells slots mc ms (F0 m pc ls st0) rest (va_Ql post (fun u t => kd_post g (va_A wc H.size) (Wf u) t) (va_A wc H.size) a) (va_A wc H.size)) (hP : va_P g.1 vwCl ws H) (hD : va_D A ws) (hS : va_S A s.heap H locs) (hA : ∀ q : Nat, s.heap.size ≤ q → A q) (isC : List Nat) (hC : isC.map (fun i => ws[i]?) = wc.map some) (hn : va_nd isC = true) (had : ∀ u, (Wf u).map (·.1) = wc.map (·.1))
    (kk : ∀ (r : Int64) (u : S) (H1 : Heap) (locs1 : List Loc), post r u → va_P g.1 vwCl (kd_repl ws isC (Wf u)) H1 → va_D A (kd_repl ws isC (Wf u)) → va_S A s.heap H1 locs1 → W p l e R s m args below meth c H1 locs1 (cells + mc) (slots + ms) Q (F0 m (pc + 3) ls (.long r :: rest))) : W p l e R s m args below meth c H locs cells slots Q (F0 m pc ls st0) := by
  have hF := va_free (wc := wc) hD hS hA isC hC
  refine va_calll hr hS (fun q _ h => hF q h) hF (fun r u t H1 locs1 ht hvm hw hB hz1 hk1 hS1 => ?_)
  obtain ⟨h1, h2⟩ := kd_back hP hD hC hn (had u) hk1 (by rw [← ht]; exact hB.1)
  exact kk r u H1 locs1 hw h1 h2 hS1
theorem kd_callVM {post : S → Prop} {a : Array Value} (hr : va_Run p l e R s m args below meth c H locs cells slots mc ms (F0 m pc ls st0) rest (va_Qv post (fun u t => kd_post g (va_A wc H.size) (Wf u) t) (va_A wc H.size) a) (va_A wc H.size)) (hP : va_P g.1 vwCl ws H) (hD : va_D A ws) (hS : va_S A s.heap H locs) (hA : ∀ q : Nat, s.heap.size ≤ q → A q) (isC : List Nat) (hC : isC.map (fun i => ws[i]?) = wc.map some) (hn : va_nd isC = true) (had : ∀ u, (Wf u).map (·.1) = wc.map (·.1))
    (kk : ∀ (u : S) (H1 : Heap) (locs1 : List Loc), post u → va_P g.1 vwCl (kd_repl ws isC (Wf u)) H1 → va_D A (kd_repl ws isC (Wf u)) → va_S A s.heap H1 locs1 → W p l e R s m args below meth c H1 locs1 (cells + mc) (slots + ms) Q (F0 m (pc + 3) ls rest)) : W p l e R s m args below meth c H locs cells slots Q (F0 m pc ls st0) := by
  have hF := va_free (wc := wc) hD hS hA isC hC
  refine va_callv hr hS (fun q _ h => hF q h) hF (fun u t H1 locs1 ht hvm hw hB hz1 hk1 hS1 => ?_)
  obtain ⟨h1, h2⟩ := kd_back hP hD hC hn (had u) hk1 (by rw [← ht]; exact hB.1)
  exact kk u H1 locs1 hw h1 h2 hS1
/-- a constructor's call: its cells come behind the others -/
theorem kd_callVJ {post : S → Prop} {a : Array Value} {wr : va_W} (hr : va_Run p l e R s m args below meth c H locs cells slots mc ms (F0 m pc ls st0) rest (va_Qv post (fun u t => kd_post g (va_A wc H.size) (Wf u) t) (va_A wc H.size) a) (va_A wc H.size)) (hP : va_P g.1 vwCl ws H) (hD : va_D A ws) (hS : va_S A s.heap H locs) (hA : ∀ q : Nat, s.heap.size ≤ q → A q) (isC isR : List Nat) (hC : isC.map (fun i => ws[i]?) = wc.map some) (hR : isR.map (fun i => ws[i]?) = wr.map some) (hn : va_nd isR = true) (hdis : ∀ i ∈ isR, i ∉ isC)
    (kk : ∀ (u : S) (H1 : Heap) (locs1 : List Loc), post u → va_P g.1 vwCl (wr ++ Wf u) H1 → va_D A (wr ++ Wf u) → va_S A s.heap H1 locs1 → W p l e R s m args below meth c H1 locs1 (cells + mc) (slots + ms) Q (F0 m (pc + 3) ls rest)) : W p l e R s m args below meth c H locs cells slots Q (F0 m pc ls st0) := by
  have hF := va_free (wc := wc) hD hS hA isC hC
  refine va_callv hr hS (fun q _ h => hF q h) hF (fun u t H1 locs1 ht hvm hw hB hz1 hk1 hS1 => ?_)
  obtain ⟨h1, h2⟩ := va_join hP hD isC isR hC hR hn hdis hk1 hF (by rw [← ht]; exact hB.1) hB.2.2
  exact kk u H1 locs1 hw h1 h2 hS1
/-! arrays at a natural index -/
theorem kd_iald (hx : p.tables.exec = Jvm.exec) (hb : c.code = cc) (hK : va_K g.1 vwCl (kd_ty g) s) (hP : va_P g.1 vwCl ws H) (q0 : Nat) {a n k : Nat} {f : Nat → Int32} (ha : ws[q0]? = some (a, .inl (g.2.1 0, n, .inl f))) (hk : k < n) (hn : n < 2 ^ 31) (hd : decode cc pc = .ok (.iaload, 1)) (kk : W p l e R s m args below meth c H locs cells slots Q (F0 m (pc + 1) ls (.int (f k) :: rest))) : W p l e R s m args below meth c H locs cells slots Q (F0 m pc ls (.int (nI k) :: .ref a :: rest)) := by
  refine va_iald hx hb hK hP q0 0 ha rfl (vp_in_nI hk hn) hd ?_
  rw [nI_clamp (Nat.lt_trans hk hn)]
  exact kk
theorem kd_lald (hx : p.tables.exec = Jvm.exec) (hb : c.code = cc) (hK : va_K g.1 vwCl (kd_ty g) s) (hP : va_P g.1 vwCl ws H) (q0 : Nat) {a n k : Nat} {f : Nat → Int64} (ha : ws[q0]? = some (a, .inl (g.2.1 1, n, .inr (.inl f)))) (hk : k < n) (hn : n < 2 ^ 31) (hd : decode cc pc = .ok (.laload, 1)) (kk : W p l e R s m args below meth c H locs cells slots Q (F0 m (pc + 1) ls (.long (f k) :: rest))) : W p l e R s m args below meth c H locs cells slots Q (F0 m pc ls (.int (nI k) :: .ref a :: rest)) := by
  refine va_lald hx hb hK hP q0 1 ha rfl (vp_in_nI hk hn) hd ?_
  rw [nI_clamp (Nat.lt_trans hk hn)]
  exact kk
theorem kd_iast (hx : p.tables.exec = Jvm.exec) (hb : c.code = cc) (hK : va_K g.1 vwCl (kd_ty g) s) (hP : va_P g.1 vwCl ws H) (hD : va_D A ws) (hS : va_S A s.heap H locs) (q0 : Nat) {a n k : Nat} {f : Nat → Int32} {x : Int32} (ha : ws[q0]? = some (a, .inl (g.2.1 0, n, .inl f))) (hk : k < n) (hn : n < 2 ^ 31) (hd : decode cc pc = .ok (.iastore, 1)) (kk : ∀ (H1 : Heap) (locs1 : List Loc), va_P g.1 vwCl (ws.set q0 (a, .inl (g.2.1 0, n, .inl (upd f k x)))) H1 → va_D A (ws.set q0 (a, .inl (g.2.1 0, n, .inl (upd f k x)))) → va_S A s.heap H1 locs1 → W p l e R s m args below meth c H1 locs1 cells slots Q (F0 m (pc + 1) ls rest)) : W p l e R s m args below meth c H locs cells slots Q (F0 m pc ls (.int x :: .int (nI k) :: .ref a :: rest)) := by
  refine va_iast hx hb hK hP hD hS q0 0 ha rfl (vp_in_nI hk hn) hd ?_
  rw [nI_clamp (Nat.lt_trans hk hn)]
  exact kk
theorem kd_last (hx : p.tables.exec = Jvm.exec) (hb : c.code = cc) (hK : va_K g.1 vwCl (kd_ty g) s) (hP : va_P g.1 vwCl ws H) (hD : va_D A ws) (hS : va_S A s.heap H locs) (q0 : Nat) {a n k : Nat} {f : Nat → Int64} {x : Int64} (ha : ws[q0]? = some (a, .inl (g.2.1 1, n, .inr (.inl f)))) (hk : k < n) (hn : n < 2 ^ 31) (hd : decode cc pc = .ok (.lastore, 1)) (kk : ∀ (H1 : Heap) (locs1 : List Loc), va_P g.1 vwCl (ws.set q0 (a, .inl (g.2.1 1, n, .inr (.inl (vp_updL f k x))))) H1 → va_D A (ws.set q0 (a, .inl (g.2.1 1, n, .inr (.inl (vp_updL f k x))))) → va_S A s.heap H1 locs1 → W p l e R s m args below meth c H1 locs1 cells slots Q (F0 m (pc + 1) ls rest)) : W p l e R s m args below meth c H locs cells slots Q (F0 m pc ls (.long x :: .int (nI k) :: .ref a :: rest)) := by
  refine va_last hx hb hK hP hD hS q0 1 ha rfl (vp_in_nI hk hn) hd ?_
  rw [nI_clamp (Nat.lt_trans hk hn)]
  exact kk
/-- an array of references, none of them null, at any index in range -/
theorem kd_aldq (hx : p.tables.exec = Jvm.exec) (hb : c.code = cc) (hK : va_K g.1 vwCl (kd_ty g) s) (hP : va_P g.1 vwCl ws H) (q0 t0 : Nat) {a n : Nat} {cA : ClassId} {C : String} {i : Int32} {f : Nat → Nat} (ha : ws[q0]? = some (a, .inl (cA, n, .inr (.inr (.inr (.inr (fun j => some (f j)))))))) (ht : (kd_ty g)[t0]? = some (cA, .object C)) (hi : vp_in i n) (hd : decode cc pc = .ok (.aaload, 1)) (kk : W p l e R s m args below meth c H locs cells slots Q (F0 m (pc + 1) ls (.ref (f i.toNatClampNeg) :: rest))) : W p l e R s m args below meth c H locs cells slots Q (F0 m pc ls (.int i :: .ref a :: rest)) :=
  va_aldq hx hb hK hP q0 t0 ha ht hi hd kk
theorem kd_aldN (hx : p.tables.exec = Jvm.exec) (hb : c.code = cc) (hK : va_K g.1 vwCl (kd_ty g) s) (hP : va_P g.1 vwCl ws H) (q0 t0 : Nat) {a n k : Nat} {cA : ClassId} {C : String} {f : Nat → Nat} (ha : ws[q0]? = some (a, .inl (cA, n, .inr (.inr (.inr (.inr (fun j => some (f j)))))))) (ht : (kd_ty g)[t0]? = some (cA, .object C)) (hk : k < n) (hn : n < 2 ^ 31) (hd : decode cc pc = .ok (.aaload, 1)) (kk : W p l e R s m args below meth c H locs cells slots Q (F0 m (pc + 1) ls (.ref (f k) :: rest))) : W p l e R s m args below meth c H locs cells slots Q (F0 m pc ls (.int (nI k) :: .ref a :: rest)) := by
  refine va_aldq hx hb hK hP q0 t0 ha ht (vp_in_nI hk hn) hd ?_
  rw [nI_clamp (Nat.lt_trans hk hn)]
  exact kk
end KDB
theorem kd_pair {α β : Type} {a : α} {b : β} {x : α × β} (h : (a, b) = x) : a = x.1 ∧ b = x.2 := by rw [← h]; exact ⟨rfl, rfl⟩
theorem kd_inlt {i : Int32} {n : Nat} (h : vp_in i n) : i.toNatClampNeg < n := Nat.not_le.mp fun q => h (Or.inr q)
theorem kd_ne {x y : Int32} (h : ¬ x = y) : x.toInt ≠ y.toInt := fun e => h (Int32.toInt_inj.mp e)
/-! the six THINGS of a standing, and the five dice -/
abbrev kd_row (r : Nat → Int32) : List Value := [.int (r 0), .int (r 1), .int (r 2), .int (r 3), .int (r 4), .int (r 5)]
abbrev kd_th (q : Nat → Nat) (R : Nat → Nat → Int32) : va_W := [(q 0, .inr (8, kd_row (R 0))), (q 1, .inr (8, kd_row (R 1))), (q 2, .inr (8, kd_row (R 2))), (q 3, .inr (8, kd_row (R 3))), (q 4, .inr (8, kd_row (R 4))), (q 5, .inr (8, kd_row (R 5)))]
def kd_up (R : Nat → Nat → Int32) (t j : Nat) (v : Int32) : Nat → Nat → Int32 := fun a b => if a = t ∧ b = j then v else R a b
theorem kd_th_at {q : Nat → Nat} {R : Nat → Nat → Int32} {rest : va_W} : ∀ {t : Nat}, t < 6 → (kd_th q R ++ rest)[t]? = some (q t, .inr (8, kd_row (R t)))
  | 0, _ => rfl
  | 1, _ => rfl
  | 2, _ => rfl
  | 3, _ => rfl
  | 4, _ => rfl
  | 5, _ => rfl
  | n + 6, h => absurd h (by omega)
theorem kd_th_at0 {q : Nat → Nat} {R : Nat → Nat → Int32} {t : Nat} (h : t < 6) : (kd_th q R)[t]? = some (q t, .inr (8, kd_row (R t))) := by
  have := kd_th_at (q := q) (R := R) (rest := []) h
  rwa [List.append_nil] at this
theorem kd_th_set {q : Nat → Nat} {R : Nat → Nat → Int32} {rest : va_W} {v : Int32} : ∀ {t j : Nat}, t < 6 → j < 6 → (kd_th q R ++ rest).set t (q t, .inr (8, (kd_row (R t)).set j (.int v))) = kd_th q (kd_up R t j v) ++ rest := by
  intro t j ht hj
  rcases (show t = 0 ∨ t = 1 ∨ t = 2 ∨ t = 3 ∨ t = 4 ∨ t = 5 by omega) with rfl | rfl | rfl | rfl | rfl | rfl <;> rcases (show j = 0 ∨ j = 1 ∨ j = 2 ∨ j = 3 ∨ j = 4 ∨ j = 5 by omega) with rfl | rfl | rfl | rfl | rfl | rfl <;> simp [kd_up]
theorem kd_th_set0 {q : Nat → Nat} {R : Nat → Nat → Int32} {v : Int32} {t j : Nat} (ht : t < 6) (hj : j < 6) : (kd_th q R).set t (q t, .inr (8, (kd_row (R t)).set j (.int v))) = kd_th q (kd_up R t j v) := by
  have := kd_th_set (q := q) (R := R) (rest := []) (v := v) ht hj
  rwa [List.append_nil, List.append_nil] at this
abbrev kd_dc (d : Nat → Nat) : va_W := [(d 0, .inr (1, [.int 0, .int 1, .int 6])), (d 1, .inr (3, [.int 1, .int 2, .int 6])), (d 2, .inr (9, [.int 2, .int 1, .int 6])), (d 3, .inr (4, [.int 3, .int 1, .int 3])), (d 4, .inr (0, [.int 4, .int 4, .int 6]))]

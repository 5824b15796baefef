/-! the digest -/
theorem kd_fo_c {f h : Nat → Int64} (x : Int64) : ∀ n, (∀ j, j < n → f j = h j) → kd_fo x f n = kd_fo x h n
  | 0, _ => rfl
  | n + 1, q => by rw [kd_fo, kd_fo, kd_fo_c x n (fun j hj => q j (by omega)), q n (by omega)]
theorem kd_th_v {T t j : Nat} {R : Nat → Nat → Int32} {rf : Nat → Int32} (h : kd_Rw T R rf) (hT : T ≤ 6) (ht : t < T) (hj : j < 6) : sp_X10_thing T R (nI t) (nI j) = rf (6 * t + j) := by
  rw [kd_e_thing h hT]
  unfold sp_X11_thing
  rcases kd_bothT (nI t) hT with ⟨a, -⟩ | ⟨-, -, -, -, b⟩
  · exact absurd a (kd_n1 (kd_has1 hT ht))
  · rw [if_neg (kd_n1 b)]
    rcases kd_both (nI j) 6 6 5 (by decide) (by decide) with ⟨a1, -⟩ | ⟨-, -, -, -, b1⟩
    · unfold sp_X10_isBelow at a1
      rw [if_neg (nI_pos (by omega)), if_neg (kd_ger (b := 6) (m := 6) rfl hj (by decide))] at a1
      exact absurd a1 (by decide)
    · rw [if_neg (kd_n1 b1), nI_clamp (by omega), nI_clamp (by omega)]
theorem kd_dT_eq {tf bf : Nat → Int32} (hB : kd_Tb tf bf) {k0 k1 T t : Nat} (h0 : k0 < 5) (h1 : k1 < 5) (hT : T ≤ 6) (ht : t < T) {wf : Nat → Int32} {wt : Int32} (hO : kd_Od k0 k1 wf wt) {R : Nat → Nat → Int32} {rf : Nat → Int32} (h : kd_Rw T R rf) (x : Int64) (nf xf : Nat → Int64) : kd_dT wf wt T R x t = (kd_md1 tf bf (kd_kv k0 k1) rf T x nf xf t).1 := by
  unfold kd_dT kd_md1
  rw [kd_fo_c (f := fun j => (sp_X10_thing T R (nI t) (nI j)).toInt64) (h := fun j => (rf (6 * t + j)).toInt64) x 6 (fun j hj => by rw [kd_th_v h hT ht hj]), kd_isK h (by omega)]
  by_cases q : R t 2 = 0
  · rw [if_pos q, if_pos q]
    dsimp only
    have e0 := kd_e_backOf hB h0 h1 hT ht hO h q nf xf (n := 3) (by decide) (by decide) (p2 := 0) (by decide)
    have e1 := fun n' x' => kd_e_backOf hB h0 h1 hT ht hO h q n' x' (n := 3) (by decide) (by decide) (p2 := 1) (by decide)
    rw [← e1 _ _, ← e0]
    rfl
  · rw [if_neg q, if_neg q]
theorem kd_dts_eq {tf bf : Nat → Int32} (hB : kd_Tb tf bf) {k0 k1 T : Nat} (h0 : k0 < 5) (h1 : k1 < 5) (hT : T ≤ 6) {wf : Nat → Int32} {wt : Int32} (hO : 1 ≤ T → kd_Od k0 k1 wf wt) {R : Nat → Nat → Int32} {rf : Nat → Int32} (h : kd_Rw T R rf) (nf xf : Nat → Int64) : ∀ n, n ≤ T → kd_dts wf wt T R n = (kd_mds tf bf (kd_kv k0 k1) rf T nf xf n).1
  | 0, _ => rfl
  | n + 1, hn => by
    rw [kd_dts, kd_mds, kd_dts_eq hB h0 h1 hT hO h nf xf n (by omega)]
    exact kd_dT_eq hB h0 h1 hT (by omega) (hO (by omega)) h _ _ _
theorem kd_bl {x : Nat} {n : Nat} {m : Int32} (hm : m.toInt = n) (hx : x < n) (hn : n < 100) : sp_X10_isBelow (nI x) m = 1 := by
  unfold sp_X10_isBelow
  rw [if_neg (nI_pos (by omega)), if_neg]
  intro q
  rw [Int32.le_iff_toInt_le, hm, nI_toInt (by omega)] at q
  omega
theorem kd_in1 {x : Nat} {n : Nat} {m : Int32} {c : Int64} (hm : m.toInt = n) (hc : c.toInt = (n : Int) - 1) (hx : x < n) (hn : n < 100) : sp_X11_in (nI x).toInt64 0 c = 1 := by
  rcases kd_both (nI x) n m c hm hc with ⟨a, -⟩ | ⟨-, -, -, -, b⟩
  · exact absurd a (kd_n1 (kd_bl hm hx hn))
  · exact b
theorem kd_di_v {tf bf : Nat → Int32} (hB : kd_Tb tf bf) {k0 k1 T w j : Nat} (h0 : k0 < 5) (h1 : k1 < 5) (hT : T ≤ 6) (h1T : 1 ≤ T) (hw : w < 2) : sp_X10_dice k0 k1 T (nI w) (nI j) = sp_X11_tellDice tf bf w (nI j) (kd_kv k0 k1) := by
  rw [kd_e_dice hB hT h0 h1]
  unfold sp_X11_dice
  have : sp_X11_isOne T (nI w) = 1 := by
    unfold sp_X11_isOne
    rcases kd_lacks hT with ⟨a, -, -⟩ | ⟨-, c, -⟩
    · omega
    · rw [if_pos c, kd_in1 (n := 2) (m := 2) (by decide) (by decide) hw (by decide), if_neg (by decide)]
  rw [if_neg (kd_n1 this), nI_clamp (by omega)]
theorem kd_od_v {tf bf : Nat → Int32} (hB : kd_Tb tf bf) {k0 k1 T j : Nat} (h0 : k0 < 5) (h1 : k1 < 5) (hT : T ≤ 6) (h1T : 1 ≤ T) {wf : Nat → Int32} {wt : Int32} (hO : 1 ≤ T → kd_Od k0 k1 wf wt) (hj : j < 6) : sp_X10_odds wf wt T (nI j) = sp_X11_oddsOf tf bf (nI j) (kd_kv k0 k1) := by
  rw [kd_e_odds hB h0 h1 hT hO]
  unfold sp_X11_odds
  rcases kd_lacks hT with ⟨a, -, -⟩ | ⟨-, c, -⟩
  · omega
  · rw [kd_in1 (n := 6) (m := 6) (by decide) (by decide) hj (by decide), if_neg (by decide), if_pos c]
theorem kd_la_v {T j i : Nat} {R : Nat → Nat → Int32} {rf : Nat → Int32} (h : kd_Rw T R rf) (hT : T ≤ 6) (h1T : 1 ≤ T) (hj : j < 4) (hi : i < 2) : sp_X10_laws T R (nI j) (nI i) = kd_law rf T (nI j) (nI i) := by
  rw [kd_e_laws h hT]
  unfold sp_X11_laws
  rcases kd_lacks hT with ⟨a, -, -⟩ | ⟨-, c, -⟩
  · omega
  · rw [kd_in1 (n := 4) (m := 4) (by decide) (by decide) hj (by decide), if_neg (by decide), kd_in1 (n := 2) (m := 2) (by decide) (by decide) hi (by decide), if_neg (by decide), if_pos c]
theorem kd_dd_eq {tf bf : Nat → Int32} (hB : kd_Tb tf bf) {k0 k1 T : Nat} (h0 : k0 < 5) (h1 : k1 < 5) (hT : T ≤ 6) (h1T : 1 ≤ T) (x : Int64) : ∀ n, n ≤ 2 → kd_dd k0 k1 T x n = kd_sd tf bf (kd_kv k0 k1) x n
  | 0, _ => rfl
  | n + 1, hn => by
    rw [kd_dd, kd_sd, kd_dd_eq hB h0 h1 hT h1T x n (by omega)]
    exact kd_fo_c _ 4 (fun j hj => by rw [kd_di_v hB h0 h1 hT h1T (by omega)])
theorem kd_dl_eq {T : Nat} {R : Nat → Nat → Int32} {rf : Nat → Int32} (h : kd_Rw T R rf) (hT : T ≤ 6) (h1T : 1 ≤ T) (x : Int64) : ∀ n, n ≤ 4 → kd_dl T R x n = kd_sl rf T x n
  | 0, _ => rfl
  | n + 1, hn => by
    have e0 : sp_X10_laws T R (nI n) 0 = kd_law rf T (nI n) 0 := kd_la_v h hT h1T (i := 0) (by omega) (by decide)
    have e1 : sp_X10_laws T R (nI n) 1 = kd_law rf T (nI n) 1 := kd_la_v h hT h1T (i := 1) (by omega) (by decide)
    rw [kd_dl, kd_sl, kd_dl_eq h hT h1T x n (by omega), e0, e1]
theorem kd_e_digest {tf bf : Nat → Int32} (hB : kd_Tb tf bf) {k0 k1 T : Nat} (h0 : k0 < 5) (h1 : k1 < 5) (hT : T ≤ 6) {wf : Nat → Int32} {wt : Int32} (hO : 1 ≤ T → kd_Od k0 k1 wf wt) {R : Nat → Nat → Int32} {rf : Nat → Int32} (h : kd_Rw T R rf) {sf : Nat → Int32} {sm : Nat} (hs : sm ≤ 8) (hn : kd_Sn sf sm) {pf : Nat → Int32} {pn : Nat} (hp : pn ≤ 22) (go : Int32) (th nh : Nat) (nf xf : Nat → Int64) : kd_dg k0 k1 nh pf pn wf wt T go th sm sf R = (kd_mdg tf bf (kd_kv k0 k1) (kd_uv sf) pf pn T go th nh sm rf nf xf).1 := by
  unfold kd_dg kd_mdg kd_mg
  dsimp only
  have e1 : kd_dg1 k0 k1 nh pf pn wf wt T go th sm sf R = kd_mg1 tf bf (kd_kv k0 k1) (kd_uv sf) rf T sm (kd_mds tf bf (kd_kv k0 k1) rf T nf xf T).1 := by
    unfold kd_dg1 kd_mg1
    rw [← kd_dts_eq hB h0 h1 hT hO h nf xf T (Nat.le_refl T), kd_e_which hB hn 5 (by omega), kd_e_likely hB hs hn]
    rcases kd_lacks hT with ⟨-, c, d⟩ | ⟨hc, c, d⟩
    · rw [if_pos d, if_neg (kd_n1 c)]
    · rw [if_neg (kd_n1 d), if_pos c]
      unfold kd_dH kd_sH
      rw [kd_dd_eq hB h0 h1 hT hc _ 2 (by omega), kd_dl_eq h hT hc _ 4 (by omega), kd_fo_c (f := fun j => (sp_X10_odds wf wt T (nI j)).toInt64) (h := fun j => (sp_X11_oddsOf tf bf (nI j) (kd_kv k0 k1)).toInt64) _ 6 (fun j hj => by rw [kd_od_v hB h0 h1 hT hc hO hj])]
  rw [e1, kd_fo_c (f := fun j => (sp_X6_codeAt pf pn (nI j)).toInt64) (h := fun j => (pf j).toInt64) _ pn (fun j hj => by rw [kd_codeAt hp hj])]
  exact kd_fo_c _ 9 (fun j hj => by rw [kd_e_count h hT])

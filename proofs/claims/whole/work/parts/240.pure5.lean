/-! draws and falls -/
theorem kd_landm {x : Nat} (hx : x < 2 ^ 63) : lN x &&& 2147483647 = lN (x % 2147483648) := by
  apply Int64.toBitVec_inj.mp
  apply BitVec.eq_of_toNat_eq
  show ((lN x).toBitVec &&& (2147483647 : Int64).toBitVec).toNat = (lN (x % 2147483648)).toBitVec.toNat
  rw [BitVec.toNat_and]
  have e1 : (lN x).toBitVec.toNat = x := Nat.mod_eq_of_lt (show x < 2 ^ 64 by omega)
  have e2 : (lN (x % 2147483648)).toBitVec.toNat = x % 2147483648 := Nat.mod_eq_of_lt (show x % 2147483648 < 2 ^ 64 by omega)
  have e3 : (2147483647 : Int64).toBitVec.toNat = 2 ^ 31 - 1 := by decide
  rw [e1, e2, e3]
  exact Nat.and_two_pow_sub_one_eq_mod x 31
def kd_sn (s : Nat) : Nat := (1103515245 * s + 12345) % 2147483648
theorem kd_sn_lt (s : Nat) : kd_sn s < 2147483648 := Nat.mod_lt _ (by decide)
theorem kd_nx_seed {s : Nat} (hs : s < 2147483648) : ((1103515245 * lN s) + 12345) - ((1103515245 * lN s) + 12345) / 2147483648 * 2147483648 = lN (kd_sn s) := by
  have e : (1103515245 * lN s) + 12345 = lN (1103515245 * s + 12345) := by
    show lN 1103515245 * lN s + lN 12345 = _
    rw [lN_mul, lN_add]
  rw [e]
  exact pk_lRem (b := 2147483648) (by omega) (by decide) (by decide)
theorem kd_next_eq {s k : Nat} (hs : s < 2147483648) (hk : 0 < k) (hk2 : k < 100) : sp_X2_next (lN s) (nI k) = (nI (kd_sn s / 65536 % k), lN (kd_sn s)) := by
  have hl := kd_sn_lt s
  unfold sp_X2_next
  rw [if_neg (nI_nle hk (by omega)), kd_nx_seed hs, nI_l (by omega)]
  have e1 : lN (kd_sn s) / 65536 = lN (kd_sn s / 65536) := pk_lDiv (b := 65536) (by omega) (by decide) (by decide)
  rw [e1, pk_lRem (by omega) hk (by omega), lN_i]
theorem kd_draw_eq {s k : Nat} (hs : s < 2147483648) (hk : 0 < k) (hk2 : k < 100) : sp_X11_draw (nI s) (nI k) = (nI (kd_sn s / 65536 % k), nI (kd_sn s)) := by
  have hl := kd_sn_lt s
  have e0 : (1103515245 * (nI s).toInt64) + 12345 = lN (1103515245 * s + 12345) := by
    rw [nI_l (by omega)]
    show lN 1103515245 * lN s + lN 12345 = _
    rw [lN_mul, lN_add]
  have e1 : (((1103515245 * (nI s).toInt64) + 12345) &&& 2147483647).toInt32 = nI (kd_sn s) := by
    rw [e0, kd_landm (by omega), lN_i]; rfl
  unfold sp_X11_draw
  rw [e1]
  have e2 : nI (kd_sn s) / 65536 = nI (kd_sn s / 65536) := pk_div (d := 65536) (by omega) (by decide) (by decide)
  rw [e2, pk_rem (by omega) hk (by omega)]
theorem kd_fall_eq {s k : Nat} (hs : s < 2147483648) (hk : k < 5) : ∃ (v : Int32) (s' : Nat), s' < 2147483648 ∧ kd_fall k (lN s) = (v, lN s') ∧ sp_X11_falls (nI s) k = (v, nI s') := by
  have n6 := kd_next_eq (k := 6) hs (by decide) (by decide)
  have n6b := kd_next_eq (k := 6) (kd_sn_lt s) (by decide) (by decide)
  have d6 := kd_draw_eq (k := 6) hs (by decide) (by decide)
  have d6b := kd_draw_eq (k := 6) (kd_sn_lt s) (by decide) (by decide)
  have n5 := kd_next_eq (k := 5) hs (by decide) (by decide)
  have n5b := kd_next_eq (k := 5) (kd_sn_lt s) (by decide) (by decide)
  have d5 := kd_draw_eq (k := 5) hs (by decide) (by decide)
  have d5b := kd_draw_eq (k := 5) (kd_sn_lt s) (by decide) (by decide)
  have n3 := kd_next_eq (k := 3) hs (by decide) (by decide)
  have n3b := kd_next_eq (k := 3) (kd_sn_lt s) (by decide) (by decide)
  have d3 := kd_draw_eq (k := 3) hs (by decide) (by decide)
  have d3b := kd_draw_eq (k := 3) (kd_sn_lt s) (by decide) (by decide)
  rcases (show k = 0 ∨ k = 1 ∨ k = 2 ∨ k = 3 ∨ k = 4 by omega) with rfl | rfl | rfl | rfl | rfl
  · refine ⟨((1 + nI (kd_sn s / 65536 % 6)) + 1) + nI (kd_sn (kd_sn s) / 65536 % 6), kd_sn (kd_sn s), kd_sn_lt _, ?_, ?_⟩
    · show sp_fall_0 (lN s) = _
      unfold sp_fall_0
      rw [show (6 : Int32) = nI 6 from rfl, n6]
      dsimp only
      rw [n6b]
    · unfold sp_X11_falls
      rw [if_neg (by decide), show sp_X11_mostOf (nI 0) - sp_X11_leastOf (nI 0) + 1 = nI 6 by decide, show sp_X11_leastOf (nI 0) = 1 by decide, d6]
      dsimp only
      rw [d6b]
  · refine ⟨((2 + nI (kd_sn s / 65536 % 5)) + 2) + nI (kd_sn (kd_sn s) / 65536 % 5), kd_sn (kd_sn s), kd_sn_lt _, ?_, ?_⟩
    · show sp_fall_1 (lN s) = _
      unfold sp_fall_1
      rw [show (5 : Int32) = nI 5 from rfl, n5]
      dsimp only
      rw [n5b]
    · unfold sp_X11_falls
      rw [if_neg (by decide), show sp_X11_mostOf (nI 1) - sp_X11_leastOf (nI 1) + 1 = nI 5 by decide, show sp_X11_leastOf (nI 1) = 2 by decide, d5]
      dsimp only
      rw [d5b]
  · refine ⟨2 * (1 + nI (kd_sn s / 65536 % 6)), kd_sn s, kd_sn_lt _, ?_, ?_⟩
    · show sp_fall_2 (lN s) = _
      unfold sp_fall_2
      rw [show (6 : Int32) = nI 6 from rfl, n6]
    · unfold sp_X11_falls
      rw [if_pos (by decide), show sp_X11_mostOf (nI 2) - sp_X11_leastOf (nI 2) + 1 = nI 6 by decide, show sp_X11_leastOf (nI 2) = 1 by decide, d6]
  · refine ⟨((1 + nI (kd_sn s / 65536 % 3)) + 1) + nI (kd_sn (kd_sn s) / 65536 % 3), kd_sn (kd_sn s), kd_sn_lt _, ?_, ?_⟩
    · show sp_fall_3 (lN s) = _
      unfold sp_fall_3
      rw [show (3 : Int32) = nI 3 from rfl, n3]
      dsimp only
      rw [n3b]
    · unfold sp_X11_falls
      rw [if_neg (by decide), show sp_X11_mostOf (nI 3) - sp_X11_leastOf (nI 3) + 1 = nI 3 by decide, show sp_X11_leastOf (nI 3) = 1 by decide, d3]
      dsimp only
      rw [d3b]
  · refine ⟨((4 + nI (kd_sn s / 65536 % 3)) + 4) + nI (kd_sn (kd_sn s) / 65536 % 3), kd_sn (kd_sn s), kd_sn_lt _, ?_, ?_⟩
    · show sp_fall_4 (lN s) = _
      unfold sp_fall_4
      rw [show (3 : Int32) = nI 3 from rfl, n3]
      dsimp only
      rw [n3b]
    · unfold sp_X11_falls
      rw [if_neg (by decide), show sp_X11_mostOf (nI 4) - sp_X11_leastOf (nI 4) + 1 = nI 3 by decide, show sp_X11_leastOf (nI 4) = 4 by decide, d3]
      dsimp only
      rw [d3b]
/-! halls by a seed -/
theorem kd_wo_one {R : Nat → Nat → Int32} {t : Nat} (ht : t < 6) : ∀ n, n ≤ 6 → kd_wo R ((1 : Int32) <<< ((nI t) &&& 31)) n = if t < n then R t 1 else 0
  | 0, _ => by rw [kd_wo, if_neg (by omega)]
  | n + 1, hn => by
    have hb : ∀ t, t < 6 → ∀ i, i < 6 → ((((((1 : Int32) <<< ((nI t) &&& 31))) >>> ((nI i) &&& 31)) &&& 1) = 0 ↔ ¬ i = t) := by decide +kernel
    rw [kd_wo, kd_wo_one ht n (by omega)]
    by_cases e : n = t
    · subst e
      rw [if_neg (fun z => (hb n ht n ht).mp z rfl), if_neg (by omega), if_pos (by omega)]
      exact Int32.zero_add _
    · rw [if_pos ((hb t ht n (by omega)).mpr e)]
      by_cases q : t < n
      · rw [if_pos q, if_pos (by omega)]
      · rw [if_neg q, if_neg (by omega)]
theorem kd_isK_us {rv : Nat → Int32} {t : Nat} {z : Int32} : sp_X11_isKings (upd rv (6 * t + 2) z) t = if z = 0 then 1 else 0 := by unfold sp_X11_isKings; rw [pk_us]
theorem kd_isK_un {rv : Nat → Int32} {t i : Nat} {z : Int32} (e : ¬ i = t) : sp_X11_isKings (upd rv (6 * t + 2) z) i = sp_X11_isKings rv i := by unfold sp_X11_isKings; rw [pk_un (by omega)]
/-- the two states of a run by draws -/
def kd_Hs (R : Nat → Nat → Int32) (T : Nat) (x : Int32 × Int32 × Int64) (y : (Nat → Int32) × Int32 × Int32) : Prop := ∃ (f : Nat → Bool) (s : Nat), x.1 = kd_bits f T ∧ (∀ i, i < T → (sp_X11_isKings y.1 i = 0 ↔ ¬ f i = true)) ∧ (∀ i, i < T → y.1 (6 * i + 1) = R i 1) ∧ x.2.1 = y.2.1 ∧ s < 2147483648 ∧ x.2.2 = lN s ∧ y.2.2 = nI s
theorem kd_mhl_eq {R : Nat → Nat → Int32} {T k0 k1 : Nat} (hT : T ≤ 6) (h0 : k0 < 5) (h1 : k1 < 5) : ∀ (k : Nat) (x : Int32 × Int32 × Int64) (y : (Nat → Int32) × Int32 × Int32), kd_Hs R T x y → kd_Hs R T (kd_hl k0 k1 R T k x) (kd_mhl (kd_kv k0 k1) T k y)
  | 0, x, y, h => h
  | k + 1, x, y, h => by
    obtain ⟨f, s, hb, hf, hw, hg, hs, hx, hy⟩ := h
    obtain ⟨b, gx, sx⟩ := x
    obtain ⟨rv, gy, sy⟩ := y
    dsimp only at hb hf hw hg hx hy
    subst hb hg hx hy
    rw [kd_hl, kd_mhl]
    dsimp only
    have hkm := kd_km_cnt T (fun i hi => hf i (by omega))
    have hcl : kd_cnt f T ≤ 6 := by rw [← hkm]; exact Nat.le_trans (kd_km_le T) hT
    by_cases hc : kd_cnt f T = 0
    · rw [if_pos ((kd_b3 f hT).mpr hc), hkm, hc, if_pos (by decide)]
      exact ⟨f, s, rfl, hf, hw, rfl, hs, rfl, rfl⟩
    · obtain ⟨t, ht, hlg, hft, hlow⟩ := kd_b4 f hT hc
      rw [if_neg (fun z => hc ((kd_b3 f hT).mp z)), hkm, if_neg (nI_nle (by omega) (by omega)), kd_lg_lgb T (-1) (fun i hi => hf i (by omega)), hlg, nI_clamp (by omega), hlow, hw t (by omega)]
      obtain ⟨v0, s0, hs0, a0, b0⟩ := kd_fall_eq hs h0
      obtain ⟨v1, s1, hs1, a1, b1⟩ := kd_fall_eq hs0 h1
      have b0' : sp_X11_falls (nI s) (kd_kv k0 k1 0) = (v0, nI s0) := b0
      have b1' : sp_X11_falls (nI s0) (kd_kv k0 k1 1) = (v1, nI s1) := b1
      rw [a0, b0']
      dsimp only
      rw [a1, b1']
      dsimp only
      have hset : ∀ (z : Int32) (i : Nat), i < 6 → ¬ i = t → upd rv (6 * t + 2) z (6 * i + 2) = rv (6 * i + 2) := fun z i hi e => pk_un (by omega)
      have hwv : ∀ (z : Int32) (i : Nat), i < T → upd rv (6 * t + 2) z (6 * i + 1) = R i 1 := fun z i hi => by rw [pk_un (by omega)]; exact hw i hi
      by_cases q1 : v0 ≤ v1
      · by_cases q2 : v1 ≤ v0
        · rw [if_pos q1, if_pos q2, if_pos q1, if_pos q2]
          refine kd_mhl_eq hT h0 h1 k _ _ ⟨f, s1, rfl, fun i hi => ?_, hwv 0, (Int32.add_zero _).symm, hs1, rfl, rfl⟩
          by_cases e : i = t
          · subst e
            show sp_X11_isKings (upd rv (6 * i + 2) 0) i = 0 ↔ ¬ f i = true
            rw [kd_isK_us, if_pos rfl]
            exact ⟨fun z => absurd z (by decide), fun z => absurd hft z⟩
          · show sp_X11_isKings (upd rv (6 * t + 2) 0) i = 0 ↔ ¬ f i = true
            rw [kd_isK_un e]
            exact hf i hi
        · rw [if_pos q1, if_neg q2, if_pos q1, if_neg q2, kd_b5 f hT ht hft]
          refine kd_mhl_eq hT h0 h1 k _ _ ⟨kd_no f t, s1, rfl, fun i hi => ?_, hwv 1, (Int32.add_zero _).symm, hs1, rfl, rfl⟩
          by_cases e : i = t
          · subst e
            show sp_X11_isKings (upd rv (6 * i + 2) 1) i = 0 ↔ ¬ kd_no f i i = true
            rw [kd_isK_us, if_neg (by decide)]
            unfold kd_no
            rw [if_pos rfl]
            exact ⟨fun _ => by decide, fun _ => rfl⟩
          · show sp_X11_isKings (upd rv (6 * t + 2) 1) i = 0 ↔ ¬ kd_no f t i = true
            rw [kd_isK_un e]
            unfold kd_no
            rw [if_neg e]
            exact hf i hi
      · have q2 : v1 ≤ v0 := by rcases Int32.le_total v0 v1 with z | z; exact absurd z q1; exact z
        rw [if_neg q1, if_neg q1, if_pos q2, kd_wo_one (by omega) T hT, if_pos ht]
        refine kd_mhl_eq hT h0 h1 k _ _ ⟨f, s1, rfl, fun i hi => ?_, hwv 0, rfl, hs1, rfl, rfl⟩
        by_cases e : i = t
        · subst e
          show sp_X11_isKings (upd rv (6 * i + 2) 0) i = 0 ↔ ¬ f i = true
          rw [kd_isK_us, if_pos rfl]
          exact ⟨fun z => absurd z (by decide), fun z => absurd hft z⟩
        · show sp_X11_isKings (upd rv (6 * t + 2) 0) i = 0 ↔ ¬ f i = true
          rw [kd_isK_un e]
          exact hf i hi
theorem kd_cs_eq (f h : Nat → Int32) : ∀ n j, kd_cs f h n j = if j < n then h j else f j
  | 0, j => by rw [kd_cs, if_neg (by omega)]
  | n + 1, j => by
    rw [kd_cs]
    by_cases e : j = n
    · subst e; rw [pk_us, if_pos (by omega)]
    · rw [pk_un e, kd_cs_eq f h n j]
      by_cases q : j < n
      · rw [if_pos q, if_pos (by omega)]
      · rw [if_neg q, if_neg (by omega)]
theorem kd_Rw_c {T : Nat} (hT : T ≤ 6) {R : Nat → Nat → Int32} {rf rg : Nat → Int32} (h : kd_Rw T R rf) (q : ∀ j, j < 36 → rg j = rf j) : kd_Rw T R rg := fun t ht => by
  obtain ⟨hz, a0, a1, a2, a3, a4, a5⟩ := h t ht
  exact ⟨hz, by rw [q _ (by omega)]; exact a0, by rw [q _ (by omega)]; exact a1, by rw [q _ (by omega)]; exact a2, by rw [q _ (by omega)]; exact a3, by rw [q _ (by omega)]; exact a4, by rw [q _ (by omega)]; exact a5⟩
theorem kd_e_halls {T k0 k1 : Nat} {R : Nat → Nat → Int32} {rf : Nat → Int32} (h : kd_Rw T R rf) (hT : T ≤ 6) (h0 : k0 < 5) (h1 : k1 < 5) (go se : Int32) (sd : Int64) (vf : Nat → Int32) (p0 p1 p2 : Int32) : (kd_halls k0 k1 T R go sd p0 p1 p2).1 = (kd_mhs (kd_kv k0 k1) T rf vf go se p0 p1 p2).1 ∧ kd_Rw T R (kd_mhs (kd_kv k0 k1) T rf vf go se p0 p1 p2).2.1 := by
  unfold kd_halls kd_mhs
  rcases kd_bothR p0 1 60 1 60 1 60 (by decide) (by decide) (by decide) (by decide) with ⟨c, d⟩ | ⟨n, c1, c2, -, rfl, c3, c4, d⟩
  · rw [if_pos d]
    by_cases q : p0 < 1
    · rw [if_pos q]; exact ⟨rfl, h⟩
    · rw [if_neg q, if_pos (c.resolve_left q)]; exact ⟨rfl, h⟩
  · rw [if_neg c3, if_neg c4, if_neg (kd_n1 d)]
    by_cases q : p1 < 0
    · rw [if_pos q, if_pos q]; exact ⟨rfl, h⟩
    · rw [if_neg q, if_neg q]
      rcases kd_both p2 3 3 2 (by decide) (by decide) with ⟨a, b⟩ | ⟨j, hj, -, a, b⟩
      · rw [if_pos a, if_pos b]; exact ⟨rfl, h⟩
      · rw [if_neg (kd_n1 a), if_neg (kd_n1 b)]
        rcases kd_lacks hT with ⟨-, c, d⟩ | ⟨hc, c, d⟩
        · rw [if_pos d, if_neg (kd_n1 c)]; exact ⟨rfl, h⟩
        · rw [if_neg (kd_n1 d), if_pos c]
          obtain ⟨s, hs, rfl⟩ := nI_of q
          have hH : kd_Hs R T (kd_kb R 0 T, go, (nI s).toInt64) (rf, go, nI s) := ⟨kd_kf R, s, kd_kb0 R T, fun i hi => kd_kf_iff h hi, fun i hi => (h i hi).2.2.1, rfl, by omega, nI_l hs, rfl⟩
          have hE := kd_mhl_eq hT h0 h1 (nI n).toNatClampNeg _ _ hH
          generalize kd_hl k0 k1 R T (nI n).toNatClampNeg (kd_kb R 0 T, go, (nI s).toInt64) = x at hE ⊢
          generalize kd_mhl (kd_kv k0 k1) T (nI n).toNatClampNeg (rf, go, nI s) = y at hE ⊢
          obtain ⟨f, s', hb, hf, -, hg, hs', hx, hy⟩ := hE
          constructor
          · unfold kd_hr kd_mhr sp_X2_seedNow
            dsimp only
            rw [hb, hg, hx, hy, kd_b2 f hT, kd_km_cnt T (fun i hi => hf i (by omega)), lN_i]
            by_cases r0 : p2 = 0
            · rw [if_pos r0, if_pos r0]
            · rw [if_neg r0, if_neg r0]
              by_cases r1 : p2 = 1
              · rw [if_pos r1, if_pos r1]
              · rw [if_neg r1, if_neg r1]
          · unfold kd_mhr
            dsimp only
            refine kd_Rw_c hT h (fun j hj => ?_)
            rw [kd_cs_eq, if_pos hj, kd_cs_eq, if_pos hj]

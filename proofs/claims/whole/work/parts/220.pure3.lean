/-! in how many ways the KING's sum is above, below, alike -/
def kd_tn (k s : Nat) : Nat := (([[1, 2, 3, 4, 5, 6, 5, 4, 3, 2, 1], [0, 0, 1, 2, 3, 4, 5, 4, 3, 2, 1], [1, 0, 1, 0, 1, 0, 1, 0, 1, 0, 1], [1, 2, 3, 2, 1, 0, 0, 0, 0, 0, 0], [0, 0, 0, 0, 0, 0, 1, 2, 3, 2, 1]] : List (List Nat)).getD k []).getD (s - 2) 0
theorem kd_w_tn : ∀ k, k < 5 → ∀ s, s < 13 → 2 ≤ s → kd_w k (nI s) = nI (kd_tn k s) := by decide +kernel
theorem kd_tn_le : ∀ k, k < 5 → ∀ s, s < 13 → kd_tn k s ≤ 6 := by decide +kernel
def kd_on (a b : Nat) : Nat := if a = b then 2 else if b < a then 0 else 1
def kd_s1 (k0 k1 j a : Nat) : Nat → Nat
  | 0 => 0
  | i + 1 => kd_s1 k0 k1 j a i + (if kd_on a (2 + i) = j then kd_tn k0 a * kd_tn k1 (2 + i) else 0)
def kd_s2 (k0 k1 j : Nat) : Nat → Nat
  | 0 => 0
  | i + 1 => kd_s2 k0 k1 j i + kd_s1 k0 k1 j (2 + i) 11
def kd_wn (k : Nat) : Nat := ([36, 25, 6, 9, 9] : List Nat).getD k 0
theorem kd_wm_n : ∀ k, k < 5 → kd_wm k = nI (kd_wn k) := by decide +kernel
theorem kd_s2_sum : ∀ k0, k0 < 5 → ∀ k1, k1 < 5 → kd_s2 k0 k1 0 11 + kd_s2 k0 k1 1 11 + kd_s2 k0 k1 2 11 = kd_wn k0 * kd_wn k1 := by decide +kernel
theorem kd_wn_b : ∀ k, k < 5 → 1 ≤ kd_wn k ∧ kd_wn k ≤ 36 := by decide +kernel
theorem kd_w2_b {k0 k1 : Nat} (h0 : k0 < 5) (h1 : k1 < 5) : 1 ≤ kd_wn k0 * kd_wn k1 ∧ kd_wn k0 * kd_wn k1 ≤ 1296 := by
  obtain ⟨a, b⟩ := kd_wn_b k0 h0
  obtain ⟨c, d⟩ := kd_wn_b k1 h1
  exact ⟨Nat.mul_le_mul a c, Nat.mul_le_mul b d⟩
theorem kd_oc_on {a b : Nat} (ha : a < 2 ^ 31) (hb : b < 2 ^ 31) : (sp_X5_outcomeOf (nI a) (nI b)).toNatClampNeg = kd_on a b := by
  unfold sp_X5_outcomeOf kd_on
  by_cases h : a = b
  · subst h; rw [if_pos rfl, if_pos rfl]; rfl
  · rw [if_neg (kd_nq h ha hb), if_neg h]
    by_cases h2 : b < a
    · rw [if_pos h2]
      first | (rw [if_neg (nI_ge h2 ha)]; rfl) | (rw [if_pos (nI_lt h2 ha)]; rfl)
    · rw [if_neg h2]
      first | (rw [if_pos (nI_le (by omega) hb)]; rfl) | (rw [if_neg (nI_nlt (by omega) hb)]; rfl)
theorem kd_ri_eq {k0 k1 : Nat} (h0 : k0 < 5) (h1 : k1 < 5) (f : Nat → Int32) {a : Nat} (ha : 2 ≤ a) (ha2 : a ≤ 12) (j : Nat) : ∀ n, n ≤ 11 → kd_ri k0 k1 f a n j = f j + nI (kd_s1 k0 k1 j a n)
  | 0, _ => by rw [kd_ri, kd_s1]; exact (Int32.add_zero _).symm
  | i + 1, hi => by
    have ih := kd_ri_eq h0 h1 f ha ha2 j i (by omega)
    rw [kd_ri, kd_s1, kd_oc_on (by omega) (by omega)]
    by_cases e : kd_on a (2 + i) = j
    · rw [if_pos e, e, pk_us, ih, kd_w_tn k0 h0 a (by omega) ha, kd_w_tn k1 h1 (2 + i) (by omega) (by omega), pk_mul, Int32.add_assoc, nI_add]
    · rw [if_neg e, pk_un (fun q => e q.symm), ih, Nat.add_zero]
theorem kd_ro_eq {k0 k1 : Nat} (h0 : k0 < 5) (h1 : k1 < 5) (f : Nat → Int32) (j : Nat) : ∀ n, n ≤ 11 → kd_ro k0 k1 f n j = f j + nI (kd_s2 k0 k1 j n)
  | 0, _ => by rw [kd_ro, kd_s2]; exact (Int32.add_zero _).symm
  | i + 1, hi => by
    rw [kd_ro, kd_ri_eq h0 h1 _ (by omega) (by omega) j 11 (by omega), kd_ro_eq h0 h1 f j i (by omega), kd_s2, Int32.add_assoc, nI_add]
theorem kd_z_eq (f : Nat → Int32) : ∀ n j, j < n → kd_z f n j = 0
  | 0, j, h => absurd h (Nat.not_lt_zero j)
  | n + 1, j, h => by
    rw [kd_z]
    by_cases e : j = n
    · subst e; rw [pk_us]
    · rw [pk_un e]; exact kd_z_eq f n j (by omega)
theorem kd_wt_eq {tf bf : Nat → Int32} (hB : kd_Tb tf bf) {k0 k1 : Nat} (h0 : k0 < 5) (h1 : k1 < 5) {j a b : Nat} (hj : j < 3) (ha : 2 ≤ a) (ha2 : a ≤ 12) (hb : 2 ≤ b) (hb2 : b ≤ 12) : kd_wt tf bf (kd_kv k0 k1) (nI j) a b = lN (if kd_on a b = j then kd_tn k0 a * kd_tn k1 b else 0) := by
  have hx : (sp_X11_waysOf tf bf (kd_kv k0 k1 0) a * sp_X11_waysOf tf bf (kd_kv k0 k1 1) b).toInt64 = lN (kd_tn k0 a * kd_tn k1 b) := by
    rw [hB.1 _ (kd_kv_lt h0 h1 0) a ha ha2, hB.1 _ (kd_kv_lt h0 h1 1) b hb hb2]
    show (kd_w k0 (nI a) * kd_w k1 (nI b)).toInt64 = _
    rw [kd_w_tn k0 h0 a (by omega) ha, kd_w_tn k1 h1 b (by omega) hb, pk_mul, nI_l]
    have q1 := kd_tn_le k0 h0 a (by omega)
    have q2 := kd_tn_le k1 h1 b (by omega)
    have := Nat.mul_le_mul q1 q2
    omega
  unfold kd_wt
  rw [hx]
  rcases (show j = 0 ∨ j = 1 ∨ j = 2 by omega) with rfl | rfl | rfl
  · rw [if_pos (show nI 0 = 0 by decide)]
    unfold kd_on
    by_cases e : a = b
    · subst e; rw [if_pos (nI_le (Nat.le_refl _) (by omega)), if_pos rfl]; rfl
    · by_cases e2 : b < a
      · rw [if_neg (nI_ge e2 (by omega)), if_neg e, if_pos e2, if_pos rfl]
      · rw [if_pos (nI_le (by omega) (by omega)), if_neg e, if_neg e2]; rfl
  · rw [if_neg (show ¬ nI 1 = 0 by decide), if_pos (show nI 1 = 1 by decide)]
    unfold kd_on
    by_cases e : a = b
    · subst e; rw [if_pos (nI_le (Nat.le_refl _) (by omega)), if_pos rfl]; rfl
    · by_cases e2 : b < a
      · rw [if_pos (nI_le (by omega) (by omega)), if_neg e, if_pos e2]; rfl
      · rw [if_neg (nI_ge (by omega) (by omega)), if_neg e, if_neg e2, if_pos rfl]
  · rw [if_neg (show ¬ nI 2 = 0 by decide), if_neg (show ¬ nI 2 = 1 by decide)]
    unfold kd_on
    by_cases e : a = b
    · subst e; rw [if_pos rfl, if_pos rfl, if_pos rfl]
    · rw [if_neg (kd_nq e (by omega) (by omega)), if_neg e]
      by_cases e2 : b < a
      · rw [if_pos e2]; rfl
      · rw [if_neg e2]; rfl
theorem kd_wi_eq {tf bf : Nat → Int32} (hB : kd_Tb tf bf) {k0 k1 : Nat} (h0 : k0 < 5) (h1 : k1 < 5) {j a : Nat} (hj : j < 3) (ha : 2 ≤ a) (ha2 : a ≤ 12) (x : Nat) : ∀ n, n ≤ 11 → kd_wi tf bf (kd_kv k0 k1) (nI j) a (lN x) n = lN (x + kd_s1 k0 k1 j a n)
  | 0, _ => by rw [kd_wi, kd_s1, Nat.add_zero]
  | i + 1, hi => by rw [kd_wi, kd_wi_eq hB h0 h1 hj ha ha2 x i (by omega), kd_wt_eq hB h0 h1 hj ha ha2 (by omega) (by omega), lN_add, kd_s1, Nat.add_assoc]
theorem kd_wb_eq {tf bf : Nat → Int32} (hB : kd_Tb tf bf) {k0 k1 : Nat} (h0 : k0 < 5) (h1 : k1 < 5) {j : Nat} (hj : j < 3) : ∀ n, n ≤ 11 → kd_wb tf bf (kd_kv k0 k1) (nI j) n = lN (kd_s2 k0 k1 j n)
  | 0, _ => by rw [kd_wb, kd_s2]; rfl
  | i + 1, hi => by rw [kd_wb, kd_wb_eq hB h0 h1 hj i (by omega), kd_wi_eq hB h0 h1 hj (by omega) (by omega) _ 11 (by omega), kd_s2]
/-- what the class keeps of the odds, of a hall -/
def kd_Od (k0 k1 : Nat) (wf : Nat → Int32) (wt : Int32) : Prop := (∀ j, j < 3 → wf j = nI (kd_s2 k0 k1 j 11)) ∧ wt = nI (kd_wn k0 * kd_wn k1)
theorem kd_Od_new {k0 k1 : Nat} (h0 : k0 < 5) (h1 : k1 < 5) (f : Nat → Int32) : kd_Od k0 k1 (kd_ro k0 k1 (kd_z f 3) 11) (kd_wm k0 * kd_wm k1) := by
  refine ⟨fun j hj => ?_, ?_⟩
  · rw [kd_ro_eq h0 h1 _ j 11 (by omega), kd_z_eq f 3 j hj]
    exact Int32.zero_add _
  · rw [kd_wm_n k0 h0, kd_wm_n k1 h1, pk_mul]
theorem kd_both_eq {tf bf : Nat → Int32} (hB : kd_Tb tf bf) {k0 k1 : Nat} (h0 : k0 < 5) (h1 : k1 < 5) : sp_X11_waysOfBoth tf bf (kd_kv k0 k1) = lN (kd_wn k0 * kd_wn k1) := by
  unfold sp_X11_waysOfBoth
  rw [hB.2 _ (kd_kv_lt h0 h1 0), hB.2 _ (kd_kv_lt h0 h1 1)]
  show (kd_wm k0 * kd_wm k1).toInt64 = _
  rw [kd_wm_n k0 h0, kd_wm_n k1 h1, pk_mul, nI_l]
  have := kd_w2_b h0 h1
  omega
theorem kd_s2_le {k0 k1 : Nat} (h0 : k0 < 5) (h1 : k1 < 5) {j : Nat} (hj : j < 3) : kd_s2 k0 k1 j 11 ≤ 1296 := by
  have := kd_s2_sum k0 h0 k1 h1
  have := kd_w2_b h0 h1
  rcases (show j = 0 ∨ j = 1 ∨ j = 2 by omega) with rfl | rfl | rfl <;> omega
theorem kd_wt_n {k0 k1 : Nat} (h0 : k0 < 5) (h1 : k1 < 5) {wf : Nat → Int32} {wt : Int32} (hO : kd_Od k0 k1 wf wt) {j : Nat} (hj : j < 3) : (sp_X5_waysTo wf (nI j)).toInt64 = lN (kd_s2 k0 k1 j 11) := by
  have e : sp_X5_waysTo wf (nI j) = wf j := by
    unfold sp_X5_waysTo
    rcases (show j = 0 ∨ j = 1 ∨ j = 2 by omega) with rfl | rfl | rfl <;> rfl
  rw [e, hO.1 j hj, nI_l]
  have := kd_s2_le h0 h1 hj
  omega
theorem kd_tt_n {k0 k1 : Nat} (h0 : k0 < 5) (h1 : k1 < 5) {wf : Nat → Int32} {wt : Int32} (hO : kd_Od k0 k1 wf wt) : wt.toInt64 = lN (kd_wn k0 * kd_wn k1) := by
  rw [hO.2, nI_l]
  have := kd_w2_b h0 h1
  omega
theorem kd_e_oddsOf {tf bf : Nat → Int32} (hB : kd_Tb tf bf) {k0 k1 : Nat} (h0 : k0 < 5) (h1 : k1 < 5) {wf : Nat → Int32} {wt : Int32} (hO : kd_Od k0 k1 wf wt) {j : Nat} (hj : j < 6) : (sp_X10_lowestTerm ((sp_X5_waysTo wf (nI j / 2)).toInt64) wt.toInt64 (nI j - nI j / 2 * 2)).toInt32 = sp_X11_oddsOf tf bf (nI j) (kd_kv k0 k1) := by
  have e2 : nI j / 2 = nI (j / 2) := pk_div (d := 2) (by omega) (by decide) (by decide)
  have e3 : nI j - nI j / 2 * 2 = nI (j % 2) := pk_rem (d := 2) (by omega) (by decide) (by decide)
  unfold sp_X11_oddsOf
  rw [e3, e2, kd_wb_eq hB h0 h1 (by omega) 11 (by omega), kd_both_eq hB h0 h1, kd_wt_n h0 h1 hO (by omega), kd_tt_n h0 h1 hO]
  have q1 := kd_s2_le h0 h1 (j := j / 2) (by omega)
  have q2 := kd_w2_b h0 h1
  rw [kd_low rfl rfl (by omega) (by omega) (by omega)]
  split <;> rfl
theorem kd_e_odds {tf bf : Nat → Int32} (hB : kd_Tb tf bf) {k0 k1 T : Nat} (h0 : k0 < 5) (h1 : k1 < 5) (hT : T ≤ 6) {wf : Nat → Int32} {wt : Int32} (hO : 1 ≤ T → kd_Od k0 k1 wf wt) (p0 : Int32) : sp_X10_odds wf wt T p0 = sp_X11_odds T tf bf p0 (kd_kv k0 k1) := by
  unfold sp_X10_odds sp_X11_odds
  rcases kd_both p0 6 6 5 (by decide) (by decide) with ⟨a, b⟩ | ⟨j, hj, rfl, a, b⟩
  · rw [if_pos a, if_pos b]
  · rw [if_neg (kd_n1 a), if_neg (kd_n1 b)]
    rcases kd_lacks hT with ⟨-, c, d⟩ | ⟨hc, c, d⟩
    · rw [if_pos d, if_neg (kd_n1 c)]
    · rw [if_neg (kd_n1 d), if_pos c]
      exact kd_e_oddsOf hB h0 h1 (hO hc) hj
/-! back -/
def kd_bn (a b c w : Nat) : Nat → Nat → Nat
  | 0, _ => 0
  | n + 1, m => if m = 0 then 0 else a * w ^ n + b * kd_bn a b c w n (m - 1) + c * kd_bn a b c w n m
theorem kd_bn_le {a b c w : Nat} (h : a + b + c ≤ w) : ∀ n m, kd_bn a b c w n m ≤ w ^ n
  | 0, m => by rw [kd_bn]; omega
  | n + 1, m => by
    rw [kd_bn]
    split
    · exact Nat.zero_le _
    · have h1 := Nat.mul_le_mul_left b (kd_bn_le h n (m - 1))
      have h2 := Nat.mul_le_mul_left c (kd_bn_le h n m)
      have h3 : (a + b + c) * w ^ n ≤ w * w ^ n := Nat.mul_le_mul_right _ h
      rw [Nat.add_mul, Nat.add_mul] at h3
      rw [Nat.pow_succ, Nat.mul_comm (w ^ n) w]
      omega
theorem kd_pw_n (w : Nat) : ∀ n, kd_pw (lN w) n = lN (w ^ n)
  | 0 => rfl
  | n + 1 => by rw [kd_pw, kd_pw_n w n, lN_mul, Nat.pow_succ]
theorem kd_znL_eq (f : Nat → Int64) : ∀ n j, j < n → kd_znL f n j = 0
  | 0, j, h => absurd h (Nat.not_lt_zero j)
  | n + 1, j, h => by
    rw [kd_znL]
    by_cases e : j = n
    · subst e; rw [pk_uLs]
    · rw [pk_uLn e]; exact kd_znL_eq f n j (by omega)
theorem kd_clL_eq (nv xv : Nat → Int64) : ∀ n j, j < n → kd_clL nv xv n j = xv j
  | 0, j, h => absurd h (Nat.not_lt_zero j)
  | n + 1, j, h => by
    rw [kd_clL]
    by_cases e : j = n
    · subst e; rw [pk_uLs]
    · rw [pk_uLn e]; exact kd_clL_eq nv xv n j (by omega)
theorem kd_nx_0 (A B C : Int64) (nv : Nat → Int64) (w : Int64) (x : Nat → Int64) : ∀ n, kd_nx A B C nv w x n 0 = x 0
  | 0 => rfl
  | n + 1 => by rw [kd_nx, pk_uLn (by omega)]; exact kd_nx_0 A B C nv w x n
theorem kd_nx_eq (A B C : Int64) (nv : Nat → Int64) (w : Int64) (x : Nat → Int64) : ∀ n m, m < n → kd_nx A B C nv w x n (1 + m) = A * w + C * nv (1 + m) + B * nv m
  | 0, m, h => absurd h (Nat.not_lt_zero m)
  | n + 1, m, h => by
    rw [kd_nx]
    by_cases e : m = n
    · subst e; rw [pk_uLs]
    · rw [pk_uLn (by omega)]; exact kd_nx_eq A B C nv w x n m (by omega)
theorem kd_bo_eq (a b c w : Nat) (nf xf : Nat → Int64) : ∀ n m, m ≤ 6 → (kd_bo (lN a) (lN b) (lN c) (lN w) nf xf n).1 m = lN (kd_bn a b c w n m)
  | 0, m, h => by rw [kd_bo, kd_bn]; exact kd_znL_eq nf 7 m (by omega)
  | n + 1, m, h => by
    rw [kd_bo]
    dsimp only
    rw [kd_clL_eq _ _ 7 m (by omega)]
    rcases Nat.eq_zero_or_pos m with rfl | hm
    · rw [kd_nx_0, pk_uLs, kd_bn, if_pos rfl]; rfl
    · obtain ⟨m, rfl⟩ : ∃ z, m = 1 + z := ⟨m - 1, by omega⟩
      rw [kd_nx_eq _ _ _ _ _ _ 6 m (by omega), kd_bo_eq a b c w nf xf n (1 + m) h, kd_bo_eq a b c w nf xf n m (by omega), kd_pw_n, lN_mul, lN_mul, lN_mul, lN_add, lN_add, kd_bn, if_neg (by omega), show 1 + m - 1 = m by omega]
      congr 1
      omega
theorem kd_wk_n {k0 k1 : Nat} (h0 : k0 < 5) (h1 : k1 < 5) {wf : Nat → Int32} {wt : Int32} (hO : kd_Od k0 k1 wf wt) {n : Nat} {P Q : Int64} {k : Nat} (hk : k ≤ 6) (hP : 1 ≤ k → P = lN (kd_bn (kd_s2 k0 k1 0 11) (kd_s2 k0 k1 1 11) (kd_s2 k0 k1 2 11) (kd_wn k0 * kd_wn k1) n (k - 1))) (hQ : Q = lN (kd_bn (kd_s2 k0 k1 0 11) (kd_s2 k0 k1 1 11) (kd_s2 k0 k1 2 11) (kd_wn k0 * kd_wn k1) n k)) : (if 1 ≤ (nI k) then ((((sp_X5_waysTo wf 0).toInt64) * (kd_pw wt.toInt64 n)) + (((sp_X5_waysTo wf 1).toInt64) * P)) + (((sp_X5_waysTo wf 2).toInt64) * Q) else 0) = lN (kd_bn (kd_s2 k0 k1 0 11) (kd_s2 k0 k1 1 11) (kd_s2 k0 k1 2 11) (kd_wn k0 * kd_wn k1) (n + 1) k) := by
  have e0 : (sp_X5_waysTo wf 0).toInt64 = _ := kd_wt_n h0 h1 hO (j := 0) (by omega)
  have e1 : (sp_X5_waysTo wf 1).toInt64 = _ := kd_wt_n h0 h1 hO (j := 1) (by omega)
  have e2 : (sp_X5_waysTo wf 2).toInt64 = _ := kd_wt_n h0 h1 hO (j := 2) (by omega)
  rw [kd_bn]
  rcases Nat.eq_zero_or_pos k with rfl | hp
  · rw [if_neg (by decide), if_pos rfl]; rfl
  · rw [if_pos (kd_ler (a := 1) (m := 1) rfl hp (by omega)), if_neg (by omega), e0, e1, e2, kd_tt_n h0 h1 hO, hP hp, hQ, kd_pw_n, lN_mul, lN_mul, lN_mul, lN_add, lN_add]
def kd_B (k0 k1 n k : Nat) : Nat := kd_bn (kd_s2 k0 k1 0 11) (kd_s2 k0 k1 1 11) (kd_s2 k0 k1 2 11) (kd_wn k0 * kd_wn k1) n k
theorem kd_wk {k0 k1 : Nat} (h0 : k0 < 5) (h1 : k1 < 5) {wf : Nat → Int32} {wt : Int32} (hO : kd_Od k0 k1 wf wt) {k : Nat} (hk : k ≤ 6) : sp_waysBack_1 wf wt k = lN (kd_B k0 k1 1 k) ∧ sp_waysBack_2 wf wt k = lN (kd_B k0 k1 2 k) ∧ sp_waysBack_3 wf wt k = lN (kd_B k0 k1 3 k) ∧ sp_waysBack_4 wf wt k = lN (kd_B k0 k1 4 k) ∧ sp_waysBack_5 wf wt k = lN (kd_B k0 k1 5 k) := by
  have a1 : ∀ k, k ≤ 6 → sp_waysBack_1 wf wt k = lN (kd_B k0 k1 1 k) := fun k hk => kd_wk_n h0 h1 hO (n := 0) hk (fun _ => rfl) rfl
  have a2 : ∀ k, k ≤ 6 → sp_waysBack_2 wf wt k = lN (kd_B k0 k1 2 k) := fun k hk => kd_wk_n h0 h1 hO (n := 1) hk (fun _ => a1 (k - 1) (by omega)) (a1 k hk)
  have a3 : ∀ k, k ≤ 6 → sp_waysBack_3 wf wt k = lN (kd_B k0 k1 3 k) := fun k hk => kd_wk_n h0 h1 hO (n := 2) hk (fun _ => a2 (k - 1) (by omega)) (a2 k hk)
  have a4 : ∀ k, k ≤ 6 → sp_waysBack_4 wf wt k = lN (kd_B k0 k1 4 k) := fun k hk => kd_wk_n h0 h1 hO (n := 3) hk (fun _ => a3 (k - 1) (by omega)) (a3 k hk)
  exact ⟨a1 k hk, a2 k hk, a3 k hk, a4 k hk, kd_wk_n h0 h1 hO (n := 4) hk (fun _ => a4 (k - 1) (by omega)) (a4 k hk)⟩
theorem kd_B_le {k0 k1 : Nat} (h0 : k0 < 5) (h1 : k1 < 5) (n k : Nat) : kd_B k0 k1 n k ≤ (kd_wn k0 * kd_wn k1) ^ n := kd_bn_le (Nat.le_of_eq (kd_s2_sum k0 h0 k1 h1)) n k
theorem kd_pow_b {k0 k1 : Nat} (h0 : k0 < 5) (h1 : k1 < 5) {n : Nat} (hn : n ≤ 5) : 1 ≤ (kd_wn k0 * kd_wn k1) ^ n ∧ (kd_wn k0 * kd_wn k1) ^ n < 2 ^ 63 := by
  obtain ⟨a, b⟩ := kd_w2_b h0 h1
  refine ⟨Nat.one_le_pow _ _ a, Nat.lt_of_le_of_lt (Nat.le_trans (Nat.pow_le_pow_left b n) (Nat.pow_le_pow_right (by decide) hn)) (by decide)⟩
theorem kd_hpw {tf bf : Nat → Int32} (hB : kd_Tb tf bf) {k0 k1 : Nat} (h0 : k0 < 5) (h1 : k1 < 5) : ∀ n, n ≤ 5 → ¬ kd_pw (sp_X11_waysOfBoth tf bf (kd_kv k0 k1)) n = 0 := fun n hn q => by
  rw [kd_both_eq hB h0 h1, kd_pw_n] at q
  obtain ⟨a, b⟩ := kd_pow_b h0 h1 hn
  have := (kd_lN0 b).mp q
  omega
theorem kd_hwb {tf bf : Nat → Int32} (hB : kd_Tb tf bf) {k0 k1 : Nat} (h0 : k0 < 5) (h1 : k1 < 5) : ¬ sp_X11_waysOfBoth tf bf (kd_kv k0 k1) = 0 := fun q => by
  rw [kd_both_eq hB h0 h1] at q
  obtain ⟨a, b⟩ := kd_w2_b h0 h1
  have := (kd_lN0 (by omega)).mp q
  omega
/-- what backOf answers -/
theorem kd_bk_1 {tf bf : Nat → Int32} (hB : kd_Tb tf bf) {k0 k1 : Nat} (h0 : k0 < 5) (h1 : k1 < 5) (nf xf : Nat → Int64) {k n : Nat} (hk : k ≤ 6) (hn : n ≤ 5) (p2 : Int32) : (kd_bk (kd_wb tf bf (kd_kv k0 k1) 0 11) (kd_wb tf bf (kd_kv k0 k1) 1 11) (kd_wb tf bf (kd_kv k0 k1) 2 11) (sp_X11_waysOfBoth tf bf (kd_kv k0 k1)) nf xf k n p2).1 = sp_X10_lowestTerm (lN (kd_B k0 k1 n k)) (lN ((kd_wn k0 * kd_wn k1) ^ n)) p2 := by
  have e0 : kd_wb tf bf (kd_kv k0 k1) 0 11 = _ := kd_wb_eq hB h0 h1 (j := 0) (by omega) 11 (by omega)
  have e1 : kd_wb tf bf (kd_kv k0 k1) 1 11 = _ := kd_wb_eq hB h0 h1 (j := 1) (by omega) 11 (by omega)
  have e2 : kd_wb tf bf (kd_kv k0 k1) 2 11 = _ := kd_wb_eq hB h0 h1 (j := 2) (by omega) 11 (by omega)
  obtain ⟨a, b⟩ := kd_pow_b h0 h1 hn
  have q := kd_B_le h0 h1 n k
  rw [e0, e1, e2, kd_both_eq hB h0 h1, kd_bk]
  dsimp only
  rw [kd_bo_eq _ _ _ _ nf xf n k hk, kd_pw_n, kd_low (a' := kd_B k0 k1 n k) rfl rfl (by omega) b (by omega)]
  rfl
theorem kd_low_back {k0 k1 : Nat} (h0 : k0 < 5) (h1 : k1 < 5) {wf : Nat → Int32} {wt : Int32} (hO : kd_Od k0 k1 wf wt) (n : Nat) : kd_pw wt.toInt64 n = lN ((kd_wn k0 * kd_wn k1) ^ n) := by rw [kd_tt_n h0 h1 hO, kd_pw_n]
theorem kd_has1 {T i : Nat} (hT : T ≤ 6) (hi : i < T) : sp_X7_has T (nI i) = 1 := by
  rcases kd_bothT (nI i) hT with ⟨a, -⟩ | ⟨-, -, -, a, -⟩
  · unfold sp_X7_has sp_X10_isBelow at a
    rw [if_neg (nI_pos (by omega)), if_neg (nI_ge hi (by omega))] at a
    exact absurd a (by decide)
  · exact a
theorem kd_sk_mk {T t : Nat} {R : Nat → Nat → Int32} {rf : Nat → Int32} (h : kd_Rw T R rf) (hT : T ≤ 6) (ht : t < T) (h2 : R t 2 = 0) : ∀ i, i ≤ T → kd_sk T R (nI t) i = kd_mk rf t i
  | 0, _ => rfl
  | i + 1, hi => by
    have hm : sp_X7_mayStake T R (nI i) (nI t) = if R i 2 = 0 then 0 else if R i 1 < R t 1 then 0 else 1 := by
      unfold sp_X7_mayStake
      rw [kd_has1 hT ht, kd_has1 hT (show i < T by omega), if_neg (show ¬ (1 : Int32) = 0 by decide), if_neg (show ¬ (1 : Int32) = 0 by decide), nI_clamp (by omega), nI_clamp (by omega), h2, if_pos rfl]
    rw [kd_sk, kd_mk, kd_sk_mk h hT ht h2 i (by omega), hm, kd_isK h (by omega), (h i (by omega)).2.2.1, (h t (by omega)).2.2.1]
    by_cases q : R i 2 = 0
    · rw [if_pos q, if_pos q, if_pos rfl]
    · rw [if_neg q, if_neg q]
      by_cases q2 : R i 1 < R t 1
      · rw [if_pos q2, if_pos q2, if_pos rfl]
      · rw [if_neg q2, if_neg q2, if_neg (by decide)]
theorem kd_e_backOf {tf bf : Nat → Int32} (hB : kd_Tb tf bf) {k0 k1 T t : Nat} (h0 : k0 < 5) (h1 : k1 < 5) (hT : T ≤ 6) (ht : t < T) {wf : Nat → Int32} {wt : Int32} (hO : kd_Od k0 k1 wf wt) {R : Nat → Nat → Int32} {rf : Nat → Int32} (h : kd_Rw T R rf) (h2 : R t 2 = 0) (nf xf : Nat → Int64) {n : Nat} (hn1 : 1 ≤ n) (hn : n ≤ 5) {p2 : Int32} (hp : sp_X10_isBelow p2 2 = 1) : sp_X10_back wf wt T R (nI t) (nI n) p2 = (kd_bk (kd_wb tf bf (kd_kv k0 k1) 0 11) (kd_wb tf bf (kd_kv k0 k1) 1 11) (kd_wb tf bf (kd_kv k0 k1) 2 11) (sp_X11_waysOfBoth tf bf (kd_kv k0 k1)) nf xf (kd_mk rf t T) n p2).1 := by
  have hle : kd_mk rf t T ≤ 6 := Nat.le_trans (kd_mk_le T) hT
  rw [kd_bk_1 hB h0 h1 nf xf hle hn]
  unfold sp_X10_back
  rw [if_neg (kd_n1 (kd_has1 hT ht)), if_neg (kd_nltl (b := 1) (m := 1) rfl hn1 (by omega)), if_neg (kd_nltr (a := 5) (m := 5) rfl hn (by omega)), if_neg (kd_n1 hp), nI_clamp (by omega), if_pos h2, kd_sk_mk h hT ht h2 T (Nat.le_refl T)]
  obtain ⟨a1, a2, a3, a4, a5⟩ := kd_wk h0 h1 hO hle
  rcases (show n = 1 ∨ n = 2 ∨ n = 3 ∨ n = 4 ∨ n = 5 by omega) with rfl | rfl | rfl | rfl | rfl
  · rw [if_pos (by decide), a1, kd_low_back h0 h1 hO]
  · rw [if_neg (by decide), if_pos (by decide), a2, kd_low_back h0 h1 hO]
  · rw [if_neg (by decide), if_neg (by decide), if_pos (by decide), a3, kd_low_back h0 h1 hO]
  · rw [if_neg (by decide), if_neg (by decide), if_neg (by decide), if_pos (by decide), a4, kd_low_back h0 h1 hO]
  · rw [if_neg (by decide), if_neg (by decide), if_neg (by decide), if_neg (by decide), if_pos (by decide), a5, kd_low_back h0 h1 hO]
theorem kd_e_back {tf bf : Nat → Int32} (hB : kd_Tb tf bf) {k0 k1 T : Nat} (h0 : k0 < 5) (h1 : k1 < 5) (hT : T ≤ 6) {wf : Nat → Int32} {wt : Int32} (hO : 1 ≤ T → kd_Od k0 k1 wf wt) {R : Nat → Nat → Int32} {rf : Nat → Int32} (h : kd_Rw T R rf) (nf xf : Nat → Int64) (p0 p1 p2 : Int32) : sp_X10_back wf wt T R p0 p1 p2 = (sp_X11_back T tf bf rf nf xf p0 p1 p2 (kd_kv k0 k1)).1 := by
  rcases kd_bothT p0 hT with ⟨a, b⟩ | ⟨t, ht, rfl, a, b⟩
  · unfold sp_X10_back sp_X11_back
    rw [if_pos a, if_pos b]
  · rcases kd_bothR p1 1 5 1 5 1 5 (by decide) (by decide) (by decide) (by decide) with ⟨c, d⟩ | ⟨n, c1, c2, -, rfl, c3, c4, d⟩
    · unfold sp_X10_back sp_X11_back
      rw [if_neg (kd_n1 a), if_neg (kd_n1 b), if_pos d]
      by_cases q : p1 < 1
      · rw [if_pos q]
      · rw [if_neg q, if_pos (c.resolve_left q)]
    · rcases kd_both p2 2 2 1 (by decide) (by decide) with ⟨e, f⟩ | ⟨j, hj, -, e, f⟩
      · unfold sp_X10_back sp_X11_back
        rw [if_neg (kd_n1 a), if_neg (kd_n1 b), if_neg c3, if_neg c4, if_pos e, if_neg (kd_n1 d), if_pos f]
      · by_cases q : R t 2 = 0
        · rw [kd_e_backOf hB h0 h1 hT ht (hO (by omega)) h q nf xf c1 c2 e]
          unfold sp_X11_back
          rw [if_neg (kd_n1 b), if_neg (kd_n1 d), if_neg (kd_n1 f), nI_clamp (n := t) (by omega), nI_clamp (n := n) (by omega), kd_isK h (by omega), if_pos q]
        · unfold sp_X10_back sp_X11_back
          rw [if_neg (kd_n1 a), if_neg (kd_n1 b), if_neg c3, if_neg c4, if_neg (kd_n1 e), if_neg (kd_n1 d), if_neg (kd_n1 f), nI_clamp (n := t) (by omega), kd_isK h (by omega), if_neg q, if_neg q]

/-! of which kind dice are, by their falls -/
def kd_Sn (sf : Nat → Int32) (sm : Nat) : Prop := ∀ i, i < sm → ∃ j : Nat, 2 ≤ j ∧ j ≤ 12 ∧ sf i = nI j
def kd_uv (sf : Nat → Int32) : Nat → Nat := fun i => (sf i).toNatClampNeg
theorem kd_uv_ok {sf : Nat → Int32} {sm : Nat} (h : kd_Sn sf sm) : (∀ i, i < sm → sf i = nI (kd_uv sf i)) ∧ (∀ i, i < sm → kd_uv sf i ≤ 12) ∧ ∀ i, i < sm → 2 ≤ kd_uv sf i := by
  refine ⟨fun i hi => ?_, fun i hi => ?_, fun i hi => ?_⟩ <;> (obtain ⟨j, a, b, e⟩ := h i hi; unfold kd_uv; rw [e, nI_clamp (by omega)])
  · exact b
  · exact a
theorem kd_ws_mp {tf bf : Nat → Int32} (hB : kd_Tb tf bf) {sf : Nat → Int32} {sm : Nat} (h : kd_Sn sf sm) {k : Nat} (hk : k < 5) : ∀ n, n ≤ sm → kd_ws k sf n = kd_mp tf bf (kd_uv sf) k n
  | 0, _ => rfl
  | n + 1, hn => by
    obtain ⟨a, b, c⟩ := kd_uv_ok h
    rw [kd_ws, kd_mp, kd_ws_mp hB h hk n (by omega), hB.1 k hk _ (c n (by omega)) (b n (by omega)), ← a n (by omega)]
theorem kd_e_which {tf bf : Nat → Int32} (hB : kd_Tb tf bf) {sf : Nat → Int32} {sm : Nat} (h : kd_Sn sf sm) : ∀ n, n ≤ 5 → kd_wh sf sm n = kd_mh tf bf (kd_uv sf) sm n
  | 0, _ => rfl
  | n + 1, hn => by
    rw [kd_wh, kd_mh, kd_e_which hB h n (by omega), kd_ws_mp hB h (by omega) sm (Nat.le_refl sm)]
    split
    · exact Int32.or_zero.symm
    · rfl
def kd_wsn (k : Nat) (sf : Nat → Int32) : Nat → Nat
  | 0 => 1
  | i + 1 => kd_wsn k sf i * kd_tn k (kd_uv sf i)
theorem kd_ws_n {sf : Nat → Int32} {sm : Nat} (h : kd_Sn sf sm) {k : Nat} (hk : k < 5) : ∀ n, n ≤ sm → kd_ws k sf n = lN (kd_wsn k sf n) ∧ kd_wsn k sf n ≤ 6 ^ n
  | 0, _ => ⟨rfl, Nat.le_refl 1⟩
  | n + 1, hn => by
    obtain ⟨a, b, c⟩ := kd_uv_ok h
    obtain ⟨e, l⟩ := kd_ws_n h hk n (by omega)
    have q := kd_tn_le k hk (kd_uv sf n) (by have := b n (by omega); omega)
    refine ⟨?_, ?_⟩
    · rw [kd_ws, kd_wsn, e, a n (by omega), kd_w_tn k hk _ (by have := b n (by omega); omega) (c n (by omega)), nI_l (by omega), lN_mul]
    · rw [kd_wsn, Nat.pow_succ]
      exact Nat.mul_le_mul l q
theorem kd_lk_eq {tf bf : Nat → Int32} (hB : kd_Tb tf bf) {sf : Nat → Int32} {sm : Nat} (hs : sm ≤ 8) (h : kd_Sn sf sm) : ∀ n, n ≤ 5 → (kd_lk sf sm n = (-1, 0, 1) ∧ kd_ml tf bf (kd_uv sf) sm n = -1) ∨ ∃ b, b < n ∧ kd_lk sf sm n = (nI b, kd_ws b sf sm, kd_pw ((kd_wm b).toInt64) sm) ∧ kd_ml tf bf (kd_uv sf) sm n = nI b
  | 0, _ => Or.inl ⟨rfl, rfl⟩
  | n + 1, hn => by
    have hp : ∀ k, k < 5 → kd_ma tf bf k sm = kd_pw ((kd_wm k).toInt64) sm := fun k hk => by rw [kd_ma, hB.2 k hk]
    have hpn : ∀ k, k < 5 → kd_pw ((kd_wm k).toInt64) sm = lN (kd_wn k ^ sm) := fun k hk => by
      rw [kd_wm_n k hk, nI_l (by have := kd_wn_b k hk; omega), kd_pw_n]
    have hm := kd_ws_mp hB h (k := n) (by omega) sm (Nat.le_refl sm)
    obtain ⟨en, ln⟩ := kd_ws_n h (k := n) (by omega) sm (Nat.le_refl sm)
    have hln : kd_wsn n sf sm < 2 ^ 63 := Nat.lt_of_le_of_lt (Nat.le_trans ln (Nat.pow_le_pow_right (by decide) hs)) (by decide)
    rcases kd_lk_eq hB hs h n (by omega) with ⟨e1, e2⟩ | ⟨b, hb, e1, e2⟩
    · rw [kd_lk, kd_ml, e1, e2, ← hm]
      dsimp only
      have hc : lg_cmp (kd_ws n sf sm * 1) (0 * kd_pw ((kd_wm n).toInt64) sm) ≤ 0 ↔ lg_cmp (kd_ws n sf sm) 0 ≤ 0 := by rw [Int64.mul_one, Int64.zero_mul]
      by_cases q : lg_cmp (kd_ws n sf sm) 0 ≤ 0
      · left; rw [if_pos (hc.mpr q), if_pos q]; exact ⟨rfl, rfl⟩
      · right; rw [if_neg (fun z => q (hc.mp z)), if_neg q, if_pos rfl]; exact ⟨n, by omega, rfl, rfl⟩
    · rw [kd_lk, kd_ml, e1, e2, ← hm, nI_clamp (by omega), hp b (by omega), hp n (by omega), ← kd_ws_mp hB h (k := b) (by omega) sm (Nat.le_refl sm)]
      dsimp only
      have hne : ¬ nI b = (-1 : Int32) := by
        rcases (show b = 0 ∨ b = 1 ∨ b = 2 ∨ b = 3 ∨ b = 4 by omega) with rfl | rfl | rfl | rfl | rfl <;> decide
      rw [if_neg hne]
      by_cases q : lg_cmp (kd_ws n sf sm) 0 ≤ 0
      · right
        have q0 : kd_wsn n sf sm = 0 := by
          rw [en] at q
          exact (kd_lNz hln).mp ((lg_cmp_le _ _).mp q)
        obtain ⟨eb, lb⟩ := kd_ws_n h (k := b) (by omega) sm (Nat.le_refl sm)
        have l1 : kd_wsn b sf sm ≤ 6 ^ 8 := Nat.le_trans lb (Nat.pow_le_pow_right (by decide) hs)
        have l2 : kd_wn n ^ sm ≤ 36 ^ 8 := Nat.le_trans (Nat.pow_le_pow_left (kd_wn_b n (by omega)).2 sm) (Nat.pow_le_pow_right (by decide) hs)
        have l3 : kd_wsn b sf sm * kd_wn n ^ sm < 2 ^ 63 := Nat.lt_of_le_of_lt (Nat.mul_le_mul l1 l2) (by decide)
        have hc : lg_cmp (kd_ws n sf sm * kd_pw ((kd_wm b).toInt64) sm) (kd_ws b sf sm * kd_pw ((kd_wm n).toInt64) sm) ≤ 0 := by
          rw [lg_cmp_le, en, q0, eb, hpn n (by omega), lN_mul, show (lN 0) * kd_pw ((kd_wm b).toInt64) sm = lN 0 from Int64.zero_mul, pk_lLE (by decide) l3]
          exact Nat.zero_le _
        rw [if_pos hc, if_pos q]
        exact ⟨b, by omega, rfl, rfl⟩
      · rw [if_neg q]
        right
        split
        · exact ⟨b, by omega, rfl, rfl⟩
        · exact ⟨n, by omega, rfl, rfl⟩
theorem kd_e_likely {tf bf : Nat → Int32} (hB : kd_Tb tf bf) {sf : Nat → Int32} {sm : Nat} (hs : sm ≤ 8) (h : kd_Sn sf sm) : Prod.fst (kd_lk sf sm 5) = kd_ml tf bf (kd_uv sf) sm 5 := by
  rcases kd_lk_eq hB hs h 5 (by omega) with ⟨e1, e2⟩ | ⟨b, -, e1, e2⟩
  · rw [e1, e2]
  · rw [e1, e2]

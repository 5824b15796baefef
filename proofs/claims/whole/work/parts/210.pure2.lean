/-! the tables of the reference -/
def kd_Tb (tf bf : Nat → Int32) : Prop := (∀ k, k < 5 → ∀ s, 2 ≤ s → s ≤ 12 → sp_X11_waysOf tf bf k s = kd_w k (nI s)) ∧ ∀ k, k < 5 → kd_aw tf bf k 11 = kd_wm k
theorem kd_Tb0 : ∀ k, k < 5 → ∀ s, s < 13 → 2 ≤ s → sp_X11_waysOf (kd_t1 5).1 (kd_t1 5).2 k s = kd_w k (nI s) := by decide +kernel
theorem kd_Tb1 : ∀ k, k < 5 → kd_aw (kd_t1 5).1 (kd_t1 5).2 k 11 = kd_wm k := by decide +kernel
theorem kd_Tb_of {tf bf : Nat → Int32} (h : (tf, bf) = kd_t1 5) : kd_Tb tf bf := by
  have e1 : tf = (kd_t1 5).1 := by rw [← h]
  have e2 : bf = (kd_t1 5).2 := by rw [← h]
  rw [e1, e2]
  exact ⟨fun k hk s h2 h12 => kd_Tb0 k hk s (by omega) h2, kd_Tb1⟩
def kd_kv (k0 k1 : Nat) : Nat → Nat := fun w => if w = 0 then k0 else k1
theorem kd_kv_lt {k0 k1 : Nat} (h0 : k0 < 5) (h1 : k1 < 5) (w : Nat) : kd_kv k0 k1 w < 5 := by unfold kd_kv; split <;> assumption
theorem kd_kv_j {k0 k1 j : Nat} (hj : j < 2) : (if nI j = 0 then k0 else k1) = kd_kv k0 k1 j := by
  rcases (show j = 0 ∨ j = 1 by omega) with rfl | rfl
  · rfl
  · rfl
theorem kd_tellk : ∀ k, k < 5 → ∀ j, j < 4 → kd_tell k (nI j) = (if j = 0 then nI k else if j = 1 then 2 * sp_X11_leastOf (nI k) else if j = 2 then 2 * sp_X11_mostOf (nI k) else kd_wm k) := by decide +kernel
theorem kd_okk : ∀ k, k < 5 → ∀ j, j < 5 → ((kd_ok k (nI j) = 0) ↔ ¬ (nI j = 0 ∨ nI j = nI k ∨ (nI j = 1 ∧ nI k = 4))) := by decide +kernel
theorem kd_e_dice {tf bf : Nat → Int32} {T k0 k1 : Nat} (hB : kd_Tb tf bf) (hT : T ≤ 6) (h0 : k0 < 5) (h1 : k1 < 5) (p0 p1 : Int32) : sp_X10_dice k0 k1 T p0 p1 = sp_X11_dice T tf bf p0 p1 (kd_kv k0 k1) := by
  unfold sp_X10_dice sp_X11_dice
  rcases kd_bothO p0 hT with ⟨a, b⟩ | ⟨-, j, hj, rfl, a, b⟩
  · rw [if_pos a, if_pos b]
  · rw [if_neg (kd_n1 a), if_neg (kd_n1 b), kd_kv_j hj, nI_clamp (by omega)]
    have hk := kd_kv_lt h0 h1 j
    generalize kd_kv k0 k1 = kv at hk ⊢
    unfold sp_X11_tellDice
    rcases kd_both p1 4 4 3 (by decide) (by decide) with ⟨a1, b1⟩ | ⟨i, hi, rfl, a1, b1⟩
    · rw [if_pos a1, if_neg (fun q => by rw [q] at a1; exact absurd a1 (by decide)), if_neg (fun q => by rw [q] at a1; exact absurd a1 (by decide)), if_neg (fun q => by rw [q] at a1; exact absurd a1 (by decide)), if_neg (fun q => by rw [q] at a1; exact absurd a1 (by decide))]
    · rw [if_neg (kd_n1 a1), kd_tellk _ hk i hi, hB.2 _ hk]
      rcases (show i = 0 ∨ i = 1 ∨ i = 2 ∨ i = 3 by omega) with rfl | rfl | rfl | rfl <;> rfl
theorem kd_e_as {T k0 k1 : Nat} (hT : T ≤ 6) (h0 : k0 < 5) (h1 : k1 < 5) (p0 p1 : Int32) : sp_X10_as k0 k1 T p0 p1 = sp_X11_as T p0 p1 (kd_kv k0 k1) := by
  unfold sp_X10_as sp_X11_as
  rcases kd_bothO p0 hT with ⟨a, b⟩ | ⟨-, j, hj, rfl, a, b⟩
  · rw [if_pos a, if_pos b]
  · rw [if_neg (kd_n1 a), if_neg (kd_n1 b), kd_kv_j hj, nI_clamp (by omega)]
    have hk := kd_kv_lt h0 h1 j
    generalize kd_kv k0 k1 j = k at hk ⊢
    rcases kd_both p1 5 5 4 (by decide) (by decide) with ⟨a1, b1⟩ | ⟨i, hi, rfl, a1, b1⟩
    · rw [if_pos a1, if_pos b1]
    · rw [if_neg (kd_n1 a1), if_neg (kd_n1 b1)]
      have hq := kd_okk k hk i hi
      by_cases q1 : nI i = 0
      · rw [if_neg (fun z => hq.mp z (Or.inl q1)), if_pos q1]
      · rw [if_neg q1]
        by_cases q2 : nI i = nI k
        · rw [if_neg (fun z => hq.mp z (Or.inr (Or.inl q2))), if_pos q2]
        · rw [if_neg q2]
          by_cases q3 : nI i = 1
          · rw [if_pos q3]
            by_cases q4 : nI k = 4
            · rw [if_neg (fun z => hq.mp z (Or.inr (Or.inr ⟨q3, q4⟩))), if_pos q4]
            · rw [if_pos (hq.mpr (fun z => by rcases z with z | z | z; exact q1 z; exact q2 z; exact q4 z.2)), if_neg q4]
          · rw [if_pos (hq.mpr (fun z => by rcases z with z | z | z; exact q1 z; exact q2 z; exact q3 z.1)), if_neg q3]
theorem kd_e_ways {tf bf : Nat → Int32} {T k0 k1 : Nat} (hB : kd_Tb tf bf) (hT : T ≤ 6) (h0 : k0 < 5) (h1 : k1 < 5) (p0 p1 : Int32) : sp_X10_ways k0 k1 T p0 p1 = sp_X11_ways T tf bf p0 p1 (kd_kv k0 k1) := by
  unfold sp_X10_ways sp_X11_ways
  rcases kd_bothO p0 hT with ⟨a, b⟩ | ⟨-, j, hj, rfl, a, b⟩
  · rw [if_pos a, if_pos b]
  · rw [if_neg (kd_n1 a), if_neg (kd_n1 b), kd_kv_j hj, nI_clamp (n := j) (by omega)]
    rcases kd_bothS p1 with ⟨a1, b1⟩ | ⟨i, h2, h12, rfl, a1, b1⟩
    · rw [if_pos a1, if_pos b1]
    · rw [if_neg (kd_n1 a1), if_neg (kd_n1 b1), nI_clamp (by omega), hB.1 _ (kd_kv_lt h0 h1 j) i h2 h12]
/-! the greatest common divisor, both ways -/
theorem kd_lNadd (a b : Nat) : lN a + lN b = lN (a + b) := (Int64.ofNat_add a b).symm
theorem kd_lNmul (a b : Nat) : lN a * lN b = lN (a * b) := (Int64.ofNat_mul a b).symm
theorem kd_lN0 {b : Nat} (hb : b < 2 ^ 63) : lN b = 0 ↔ b = 0 := pk_lEQ (b := 0) hb (by decide)
theorem kd_lNz {b : Nat} (hb : b < 2 ^ 63) : lN b ≤ 0 ↔ b = 0 := (pk_lLE (b := 0) hb (by decide)).trans Nat.le_zero
def kd_fa : Nat → Nat → Nat → Nat
  | 0, a, _ => a
  | n + 1, a, b => kd_fa n b (a + b)
theorem kd_fa_rec : ∀ n a b, kd_fa (n + 2) a b = kd_fa (n + 1) a b + kd_fa n a b
  | 0, a, b => by show a + b = b + a; omega
  | n + 1, a, b => kd_fa_rec n b (a + b)
theorem kd_fa_101 : 2 ^ 63 ≤ kd_fa 101 0 1 := by decide +kernel
theorem kd_cdS {k a b : Nat} (ha : a < 2 ^ 63) (hb : b < 2 ^ 63) : kd_cd (k + 1) (lN a) (lN b) = if b = 0 then lN a else kd_cd k (lN b) (lN (a % b)) := by
  rw [kd_cd]
  by_cases h : b = 0
  · rw [if_pos h, if_pos ((lg_cmp_eq _ _).mpr ((kd_lN0 hb).mpr h))]
  · rw [if_neg h, if_neg (fun q => h ((kd_lN0 hb).mp ((lg_cmp_eq _ _).mp q))), pk_lRem ha (by omega) hb]
theorem kd_cd0 (k : Nat) {a : Nat} (ha : a < 2 ^ 63) : kd_cd k (lN a) (lN 0) = lN a := by
  cases k with
  | zero => rfl
  | succ k => rw [kd_cdS ha (by decide), if_pos rfl]
theorem kd_gcdm (a b : Nat) : Nat.gcd a b = Nat.gcd b (a % b) := by rw [Nat.gcd_comm a b, Nat.gcd_rec b a, Nat.gcd_comm]
theorem kd_cdF : ∀ k a b : Nat, b < a → a < kd_fa (k + 2) 0 1 → a < 2 ^ 63 → kd_cd k (lN a) (lN b) = lN (Nat.gcd a b)
  | 0, a, b, h, h1, _ => absurd h1 (by show ¬ a < 1; omega)
  | 1, a, b, h, h1, h2 => by
    have h1 : a < 2 := h1
    obtain rfl : b = 0 := by omega
    rw [kd_cd0 _ h2, Nat.gcd_zero_right]
  | k + 2, a, b, h, h1, h2 => by
    by_cases hb : b = 0
    · subst hb
      rw [kd_cd0 _ h2, Nat.gcd_zero_right]
    · rw [kd_cdS h2 (by omega), if_neg hb, kd_gcdm a b]
      have hm : a % b < b := Nat.mod_lt _ (by omega)
      by_cases hs : b < kd_fa (k + 3) 0 1
      · exact kd_cdF (k + 1) b (a % b) hm hs (by omega)
      · have hr : kd_fa (k + 4) 0 1 = kd_fa (k + 3) 0 1 + kd_fa (k + 2) 0 1 := kd_fa_rec (k + 2) 0 1
        have h1 : a < kd_fa (k + 4) 0 1 := h1
        have hd : b * 1 ≤ b * (a / b) := Nat.mul_le_mul_left b (Nat.div_pos (by omega) (by omega))
        have hq := Nat.div_add_mod a b
        by_cases hc : a % b = 0
        · rw [hc, kd_cd0 _ (by omega), Nat.gcd_zero_right]
        · rw [kd_cdS (by omega) (by omega), if_neg hc, kd_gcdm b (a % b)]
          exact kd_cdF k (a % b) (b % (a % b)) (Nat.mod_lt _ (by omega)) (by omega) (by omega)
theorem kd_cmF : ∀ n a b : Nat, b < n → a < 2 ^ 63 → b < 2 ^ 63 → kd_cm n (lN a) (lN b) = lN (Nat.gcd a b)
  | 0, a, b, h, _, _ => absurd h (Nat.not_lt_zero b)
  | n + 1, a, b, h, ha, hb => by
    rw [kd_cm]
    by_cases e : b = 0
    · subst e
      rw [if_pos ((lg_cmp_le _ _).mpr ((kd_lNz hb).mpr rfl)), Nat.gcd_zero_right]
    · have hm : a % b < b := Nat.mod_lt _ (by omega)
      rw [if_neg (fun q => e ((kd_lNz hb).mp ((lg_cmp_le _ _).mp q))), pk_lRem ha (by omega) hb, kd_gcdm a b]
      exact kd_cmF n b (a % b) (by omega) hb (by omega)
theorem kd_lNn {a : Nat} (ha : a < 2 ^ 63) : (lN a).toInt.toNat = a := by rw [pk_lT ha]; exact Int.toNat_natCast a
theorem kd_cdcm {a b : Nat} (ha : a < 2 ^ 63) (hb : b < 2 ^ 63) (h0 : 0 < b) : kd_cd 100 (lN a) (lN b) = lN (Nat.gcd a b) ∧ kd_cm ((lN a).toInt.toNat + 1) (lN b) (lN a) = lN (Nat.gcd a b) := by
  constructor
  · rw [kd_cdS ha hb, if_neg (by omega), kd_gcdm a b]
    exact kd_cdF 99 b (a % b) (Nat.mod_lt _ h0) (Nat.lt_of_lt_of_le hb kd_fa_101) hb
  · rw [kd_lNn ha, kd_cmF (a + 1) b a (by omega) hb ha, Nat.gcd_comm]
theorem kd_low {a b : Int64} {a' b' : Nat} (ea : a = lN a') (eb : b = lN b') (ha : a' < 2 ^ 63) (hb : b' < 2 ^ 63) (h0 : 0 < b') (p : Int32) : sp_X10_lowestTerm a b p = if p = 0 then a / kd_cm (a.toInt.toNat + 1) b a else b / kd_cm (a.toInt.toNat + 1) b a := by
  subst ea eb
  obtain ⟨h1, h2⟩ := kd_cdcm ha hb h0
  have hg : 0 < Nat.gcd a' b' := Nat.gcd_pos_of_pos_right _ h0
  have hl : Nat.gcd a' b' < 2 ^ 63 := Nat.lt_of_le_of_lt (Nat.le_of_dvd h0 (Nat.gcd_dvd_right a' b')) hb
  have hn : ¬ lg_cmp (lN (Nat.gcd a' b')) 0 ≤ 0 := fun q => by
    have := (kd_lNz hl).mp ((lg_cmp_le _ _).mp q)
    omega
  unfold sp_X10_lowestTerm
  rw [h1, h2, if_neg hn, if_neg hn]

theorem kd_nq {a b : Nat} (h : ¬ a = b) (ha : a < 2 ^ 31) (hb : b < 2 ^ 31) : ¬ nI a = nI b := fun q => h ((nI_eq ha hb).mp q)
theorem kd_ltl {a b : Nat} {m : Int32} (hm : nI b = m) (h : a < b) (hb : b < 2 ^ 31) : nI a < m := hm ▸ nI_lt h hb
theorem kd_nltl {a b : Nat} {m : Int32} (hm : nI b = m) (h : b ≤ a) (ha : a < 2 ^ 31) : ¬ nI a < m := hm ▸ nI_nlt h ha
theorem kd_nltr {a b : Nat} {m : Int32} (hm : nI a = m) (h : b ≤ a) (ha : a < 2 ^ 31) : ¬ m < nI b := hm ▸ nI_nlt h ha
theorem kd_ler {a b : Nat} {m : Int32} (hm : nI a = m) (h : a ≤ b) (hb : b < 2 ^ 31) : m ≤ nI b := hm ▸ nI_le h hb
theorem kd_lel {a b : Nat} {m : Int32} (hm : nI b = m) (h : a ≤ b) (hb : b < 2 ^ 31) : nI a ≤ m := hm ▸ nI_le h hb
theorem kd_ger {a b : Nat} {m : Int32} (hm : nI b = m) (h : a < b) (hb : b < 2 ^ 31) : ¬ m ≤ nI a := hm ▸ nI_ge h hb
theorem kd_gel {a b : Nat} {m : Int32} (hm : nI a = m) (h : a < b) (hb : b < 2 ^ 31) : ¬ nI b ≤ m := hm ▸ nI_ge h hb
theorem kd_nql {a b : Nat} {m : Int32} (hm : nI b = m) (h : ¬ a = b) (ha : a < 2 ^ 31) (hb : b < 2 ^ 31) : ¬ nI a = m := hm ▸ kd_nq h ha hb
/-! what both answer, as numbers: ranges -/
theorem kd_both (x : Int32) (n : Nat) (m : Int32) (c : Int64) (hm : m.toInt = n) (hc : c.toInt = (n : Int) - 1) : (sp_X10_isBelow x m = 0 ∧ sp_X11_in x.toInt64 0 c = 0) ∨ ∃ j : Nat, j < n ∧ x = nI j ∧ sp_X10_isBelow x m = 1 ∧ sp_X11_in x.toInt64 0 c = 1 := by
  have z1 : (0 : Int32).toInt = 0 := by decide
  have z2 : (0 : Int64).toInt = 0 := by decide
  unfold sp_X10_isBelow sp_X11_in
  simp only [lg_cmp_lt, lg_cmp_gt]
  simp only [Int32.lt_iff_toInt_lt, Int32.le_iff_toInt_le, Int64.lt_iff_toInt_lt, Int32.toInt_toInt64, hm, hc, z1, z2]
  by_cases h1 : x.toInt < 0
  · left; simp [h1]
  · by_cases h2 : (n : Int) ≤ x.toInt
    · left
      have h3 : (n : Int) - 1 < x.toInt := by omega
      simp [h1, h2, h3]
    · right
      obtain ⟨j, hj, e⟩ := nI_of (x := x) (fun q => h1 (by rw [Int32.lt_iff_toInt_lt, z1] at q; exact q))
      have h3 : ¬ (n : Int) - 1 < x.toInt := by omega
      have h4 : x.toInt = (j : Int) := by rw [e]; exact nI_toInt hj
      refine ⟨j, by omega, e, ?_, ?_⟩
      · simp [h1, h2]
      · simp [h1, h3]
theorem kd_bothT (x : Int32) {T : Nat} (hT : T ≤ 6) : (sp_X7_has T x = 0 ∧ sp_X11_isThing T x = 0) ∨ ∃ j : Nat, j < T ∧ x = nI j ∧ sp_X7_has T x = 1 ∧ sp_X11_isThing T x = 1 := by
  refine kd_both x T (nI T) _ (nI_toInt (by omega)) ?_
  rcases (show T = 0 ∨ T = 1 ∨ T = 2 ∨ T = 3 ∨ T = 4 ∨ T = 5 ∨ T = 6 by omega) with rfl | rfl | rfl | rfl | rfl | rfl | rfl <;> decide
theorem kd_bothR (x : Int32) (a b : Nat) (ma mb : Int32) (ca cb : Int64) (hma : ma.toInt = a) (hmb : mb.toInt = b) (hca : ca.toInt = a) (hcb : cb.toInt = b) : ((x < ma ∨ mb < x) ∧ sp_X11_in x.toInt64 ca cb = 0) ∨ ∃ j : Nat, a ≤ j ∧ j ≤ b ∧ j < 2 ^ 31 ∧ x = nI j ∧ ¬ x < ma ∧ ¬ mb < x ∧ sp_X11_in x.toInt64 ca cb = 1 := by
  have z1 : (0 : Int32).toInt = 0 := by decide
  unfold sp_X11_in
  simp only [lg_cmp_lt, lg_cmp_gt]
  simp only [Int32.lt_iff_toInt_lt, Int64.lt_iff_toInt_lt, Int32.toInt_toInt64, hma, hmb, hca, hcb]
  by_cases h1 : x.toInt < (a : Int)
  · left; simp [h1]
  · by_cases h2 : (b : Int) < x.toInt
    · left; simp [h1, h2]
    · right
      obtain ⟨j, hj, e⟩ := nI_of (x := x) (fun q => h1 (by rw [Int32.lt_iff_toInt_lt, z1] at q; omega))
      have h4 : x.toInt = (j : Int) := by rw [e]; exact nI_toInt hj
      refine ⟨j, by omega, by omega, hj, e, h1, h2, ?_⟩
      simp [h1, h2]
theorem kd_bothS (x : Int32) : (sp_X10_isSum x = 0 ∧ sp_X11_in x.toInt64 2 12 = 0) ∨ ∃ j : Nat, 2 ≤ j ∧ j ≤ 12 ∧ x = nI j ∧ sp_X10_isSum x = 1 ∧ sp_X11_in x.toInt64 2 12 = 1 := by
  unfold sp_X10_isSum
  rcases kd_bothR x 2 12 2 12 2 12 (by decide) (by decide) (by decide) (by decide) with ⟨h, h2⟩ | ⟨j, h1, h2, -, h3, h4, h5, h6⟩
  · left
    refine ⟨?_, h2⟩
    by_cases q : x < 2
    · rw [if_pos q]
    · rw [if_neg q, if_pos (h.resolve_left q)]
  · right
    exact ⟨j, h1, h2, h3, by rw [if_neg h4, if_neg h5], h6⟩
theorem kd_n1 {x : Int32} (h : x = 1) : ¬ x = 0 := by rw [h]; decide
theorem kd_lacks {T : Nat} (hT : T ≤ 6) : (T = 0 ∧ sp_X11_lacks T = 1 ∧ sp_X7_hasHall T = 0) ∨ (1 ≤ T ∧ sp_X11_lacks T = 0 ∧ sp_X7_hasHall T = 1) := by
  rcases (show T = 0 ∨ T = 1 ∨ T = 2 ∨ T = 3 ∨ T = 4 ∨ T = 5 ∨ T = 6 by omega) with rfl | rfl | rfl | rfl | rfl | rfl | rfl <;> decide
theorem kd_bothO (x : Int32) {T : Nat} (hT : T ≤ 6) : (sp_X10_hasDice T x = 0 ∧ sp_X11_isOne T x = 0) ∨ (1 ≤ T ∧ ∃ j : Nat, j < 2 ∧ x = nI j ∧ sp_X10_hasDice T x = 1 ∧ sp_X11_isOne T x = 1) := by
  unfold sp_X10_hasDice sp_X11_isOne
  rcases kd_lacks hT with ⟨h0, h1, h2⟩ | ⟨h0, h1, h2⟩
  · left; rw [h1, h2]; exact ⟨rfl, rfl⟩
  · rw [h1, h2]
    rcases kd_both x 2 2 1 (by decide) (by decide) with ⟨a, b⟩ | ⟨j, hj, e, a, b⟩
    · left
      have e0 : ¬ x = 0 := fun q => by rw [q] at a; exact absurd a (by decide)
      have e1 : ¬ x = 1 := fun q => by rw [q] at a; exact absurd a (by decide)
      rw [if_neg (by decide), if_neg e0, if_neg e1, if_pos rfl, if_pos b]
      exact ⟨rfl, rfl⟩
    · right
      refine ⟨h0, j, hj, e, ?_, ?_⟩
      · rcases (show j = 0 ∨ j = 1 by omega) with rfl | rfl
        · rw [e]; decide
        · rw [e]; decide
      · rw [if_pos rfl, if_neg (kd_n1 b)]
/-! the page, what is seen -/
theorem kd_e_letter (pf : Nat → Int32) {pn : Nat} (h : pn ≤ 22) (p0 : Int32) : (sp_X10_letter pf pn p0).1 = (sp_X11_letter pn pf p0).1 ∧ (sp_X10_letter pf pn p0).2.1 = (sp_X11_letter pn pf p0).2.2 ∧ (sp_X10_letter pf pn p0).2.2 = (sp_X11_letter pn pf p0).2.1 ∧ (sp_X10_letter pf pn p0).2.2 ≤ 22 := by
  unfold sp_X10_letter sp_X11_letter
  rcases kd_bothR p0 1 126 1 126 1 126 (by decide) (by decide) (by decide) (by decide) with ⟨a, b⟩ | ⟨j, h1, h2, -, h3, h4, h5, h6⟩
  · rw [if_pos b]
    by_cases q : p0 < 1
    · rw [if_pos q]; exact ⟨rfl, rfl, rfl, h⟩
    · rw [if_neg q, if_neg (fun z => absurd (a.resolve_left q) (Int32.not_lt.mpr z))]; exact ⟨rfl, rfl, rfl, h⟩
  · rw [if_neg h4, if_pos (Int32.not_lt.mp h5), if_neg (kd_n1 h6)]
    by_cases q : pn = 22
    · subst q
      exact ⟨rfl, rfl, rfl, h⟩
    · have e1 : sp_X6_isFull pn = 0 := by unfold sp_X6_isFull; rw [if_pos (kd_ltl (b := 22) (m := 22) rfl (by omega) (by decide))]
      rw [if_pos e1, if_neg (kd_nql (a := pn) (b := 22) (m := 22) rfl q (by omega) (by decide))]
      unfold sp_X6_push
      rw [if_pos e1]
      exact ⟨rfl, rfl, rfl, by show pn + 1 ≤ 22; omega⟩
theorem kd_e_see (sf : Nat → Int32) {sm : Nat} (h : sm ≤ 8) (p0 : Int32) : (sp_X10_see sm sf p0) = (sp_X11_see sm sf p0) ∧ (sp_X10_see sm sf p0).2.1 ≤ 8 ∧ ((∀ i, i < sm → ∃ j : Nat, 2 ≤ j ∧ j ≤ 12 ∧ sf i = nI j) → ∀ i, i < (sp_X10_see sm sf p0).2.1 → ∃ j : Nat, 2 ≤ j ∧ j ≤ 12 ∧ (sp_X10_see sm sf p0).2.2 i = nI j) := by
  unfold sp_X10_see sp_X11_see
  rcases kd_bothS p0 with ⟨a, b⟩ | ⟨j, h1, h2, e, a, b⟩
  · rw [if_pos a, if_pos b]; exact ⟨rfl, h, fun q => q⟩
  · rw [if_neg (kd_n1 a), if_neg (kd_n1 b)]
    by_cases q : sm = 8
    · subst q
      exact ⟨rfl, h, fun q => q⟩
    · rw [if_pos (kd_ltl (b := 8) (m := 8) rfl (by omega) (by decide)), if_neg (kd_nql (a := sm) (b := 8) (m := 8) rfl q (by omega) (by decide))]
      have e1 : sp_X10_isBelow (nI sm) 8 = 1 := by
        rcases kd_both (nI sm) 8 8 7 (by decide) (by decide) with ⟨a, -⟩ | ⟨-, -, -, a, -⟩
        · unfold sp_X10_isBelow at a
          rw [if_neg (nI_pos (by omega)), if_neg (kd_ger (a := sm) (b := 8) (m := 8) rfl (by omega) (by decide))] at a
          exact absurd a (by decide)
        · exact a
      unfold sp_X7_addSeen
      rw [if_neg (kd_n1 e1)]
      refine ⟨rfl, by show sm + 1 ≤ 8; omega, fun hq i hi => ?_⟩
      show ∃ j : Nat, 2 ≤ j ∧ j ≤ 12 ∧ upd sf sm p0 i = nI j
      have hi : i < sm + 1 := hi
      by_cases ei : i = sm
      · subst ei; rw [pk_us]; exact ⟨j, h1, h2, e⟩
      · rw [pk_un ei]; exact hq i (by omega)
/-! things: the class's rows and the reference's -/
def kd_Z (R : Nat → Nat → Int32) : Prop := ∀ t, t < 6 → R t 2 = 0 ∨ R t 2 = 1
def kd_Rw (T : Nat) (R : Nat → Nat → Int32) (rf : Nat → Int32) : Prop := ∀ t, t < T → (R t 2 = 0 ∨ R t 2 = 1) ∧ rf (6 * t) = R t 0 ∧ rf (6 * t + 1) = R t 1 ∧ rf (6 * t + 2) = 1 - R t 2 ∧ rf (6 * t + 3) = R t 3 ∧ rf (6 * t + 4) = R t 4 ∧ rf (6 * t + 5) = R t 5
theorem kd_isK {T : Nat} {R : Nat → Nat → Int32} {rf : Nat → Int32} (h : kd_Rw T R rf) {t : Nat} (ht : t < T) : sp_X11_isKings rf t = R t 2 := by
  obtain ⟨hz, -, -, h2, -⟩ := h t ht
  unfold sp_X11_isKings
  rw [h2]
  rcases hz with e | e <;> rw [e] <;> decide
theorem kd_e_thing {R : Nat → Nat → Int32} {rf : Nat → Int32} {T : Nat} (h : kd_Rw T R rf) (hT : T ≤ 6) (p0 p1 : Int32) : sp_X10_thing T R p0 p1 = sp_X11_thing T rf p0 p1 := by
  unfold sp_X10_thing sp_X11_thing
  rcases kd_bothT p0 hT with ⟨a, b⟩ | ⟨t, ht, rfl, a, b⟩
  · rw [if_pos a, if_pos b]
  · rw [if_neg (kd_n1 a), if_neg (kd_n1 b)]
    rcases kd_both p1 6 6 5 (by decide) (by decide) with ⟨a1, b1⟩ | ⟨j, hj, rfl, a1, b1⟩
    · rw [if_pos a1, if_pos b1]
    · rw [if_neg (kd_n1 a1), if_neg (kd_n1 b1), nI_clamp (by omega), nI_clamp (by omega)]
      obtain ⟨hz, h0, h1, h2, h3, h4, h5⟩ := h t (by omega)
      rcases (show j = 0 ∨ j = 1 ∨ j = 2 ∨ j = 3 ∨ j = 4 ∨ j = 5 by omega) with rfl | rfl | rfl | rfl | rfl | rfl
      · exact h0.symm
      · exact h1.symm
      · rw [h2]
        show (if R t 2 = 0 then (1 : Int32) else 0) = 1 - R t 2
        rcases hz with e | e <;> rw [e] <;> decide
      · exact h3.symm
      · exact h4.symm
      · exact h5.symm

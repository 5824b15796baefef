/-! which things are the KING's, as bits -/
def kd_bits (f : Nat → Bool) : Nat → Int32
  | 0 => 0
  | i + 1 => if f i = true then kd_bits f i ||| ((1 : Int32) <<< ((nI i) &&& 31)) else kd_bits f i
def kd_cnt (f : Nat → Bool) : Nat → Nat
  | 0 => 0
  | i + 1 => if f i = true then kd_cnt f i + 1 else kd_cnt f i
def kd_lgb (f : Nat → Bool) : Nat → Int32 → Int32
  | 0, a => a
  | t + 1, a => kd_lgb f t (if f t = true then nI t else a)
def kd_b6 (b0 b1 b2 b3 b4 b5 : Bool) : Nat → Bool := fun i => match i with
  | 0 => b0
  | 1 => b1
  | 2 => b2
  | 3 => b3
  | 4 => b4
  | 5 => b5
  | _ => false
def kd_no (f : Nat → Bool) (t : Nat) : Nat → Bool := fun i => if i = t then false else f i
theorem kd_bits_c {f h : Nat → Bool} : ∀ n, (∀ i, i < n → f i = h i) → kd_bits f n = kd_bits h n
  | 0, _ => rfl
  | n + 1, q => by rw [kd_bits, kd_bits, q n (by omega), kd_bits_c n (fun i hi => q i (by omega))]
theorem kd_cnt_c {f h : Nat → Bool} : ∀ n, (∀ i, i < n → f i = h i) → kd_cnt f n = kd_cnt h n
  | 0, _ => rfl
  | n + 1, q => by rw [kd_cnt, kd_cnt, q n (by omega), kd_cnt_c n (fun i hi => q i (by omega))]
theorem kd_lgb_c {f h : Nat → Bool} : ∀ n a, (∀ i, i < n → f i = h i) → kd_lgb f n a = kd_lgb h n a
  | 0, _, _ => rfl
  | n + 1, a, q => by rw [kd_lgb, kd_lgb, q n (by omega), kd_lgb_c n _ (fun i hi => q i (by omega))]
theorem kd_b6_eq (f : Nat → Bool) : ∀ i, i < 6 → f i = kd_b6 (f 0) (f 1) (f 2) (f 3) (f 4) (f 5) i := fun i hi => by
  rcases (show i = 0 ∨ i = 1 ∨ i = 2 ∨ i = 3 ∨ i = 4 ∨ i = 5 by omega) with rfl | rfl | rfl | rfl | rfl | rfl <;> rfl
theorem kd_B1 : ∀ b0 b1 b2 b3 b4 b5 : Bool, ∀ n, n < 7 → ∀ i, i < 6 → ((((kd_bits (kd_b6 b0 b1 b2 b3 b4 b5) n) >>> ((nI i) &&& 31)) &&& 1) = 0 ↔ ¬ (i < n ∧ kd_b6 b0 b1 b2 b3 b4 b5 i = true)) := by decide +kernel
theorem kd_B2 : ∀ b0 b1 b2 b3 b4 b5 : Bool, ∀ n, n < 7 → sp_J6_bitCount_0f7a4 (kd_bits (kd_b6 b0 b1 b2 b3 b4 b5) n) = nI (kd_cnt (kd_b6 b0 b1 b2 b3 b4 b5) n) := by decide +kernel
theorem kd_B3 : ∀ b0 b1 b2 b3 b4 b5 : Bool, ∀ n, n < 7 → (kd_bits (kd_b6 b0 b1 b2 b3 b4 b5) n = 0 ↔ kd_cnt (kd_b6 b0 b1 b2 b3 b4 b5) n = 0) := by decide +kernel
theorem kd_B4 : ∀ b0 b1 b2 b3 b4 b5 : Bool, ∀ n, n < 7 → ¬ kd_cnt (kd_b6 b0 b1 b2 b3 b4 b5) n = 0 → sp_J6_lowestOneBit_0f7a4 (kd_bits (kd_b6 b0 b1 b2 b3 b4 b5) n) = ((1 : Int32) <<< ((kd_lgb (kd_b6 b0 b1 b2 b3 b4 b5) n (-1)) &&& 31)) ∧ (kd_lgb (kd_b6 b0 b1 b2 b3 b4 b5) n (-1)).toNatClampNeg < n ∧ kd_lgb (kd_b6 b0 b1 b2 b3 b4 b5) n (-1) = nI (kd_lgb (kd_b6 b0 b1 b2 b3 b4 b5) n (-1)).toNatClampNeg ∧ kd_b6 b0 b1 b2 b3 b4 b5 (kd_lgb (kd_b6 b0 b1 b2 b3 b4 b5) n (-1)).toNatClampNeg = true := by decide +kernel
theorem kd_B5 : ∀ b0 b1 b2 b3 b4 b5 : Bool, ∀ n, n < 7 → ∀ t, t < n → kd_b6 b0 b1 b2 b3 b4 b5 t = true → kd_bits (kd_b6 b0 b1 b2 b3 b4 b5) n - ((1 : Int32) <<< ((nI t) &&& 31)) = kd_bits (kd_no (kd_b6 b0 b1 b2 b3 b4 b5) t) n := by decide +kernel
theorem kd_b1 (f : Nat → Bool) {n i : Nat} (hn : n ≤ 6) (hi : i < 6) : (((kd_bits f n) >>> ((nI i) &&& 31)) &&& 1) = 0 ↔ ¬ (i < n ∧ f i = true) := by
  rw [kd_bits_c n (fun i hi => kd_b6_eq f i (by omega)), kd_b6_eq f i hi]
  exact kd_B1 _ _ _ _ _ _ n (by omega) i hi
theorem kd_b2 (f : Nat → Bool) {n : Nat} (hn : n ≤ 6) : sp_J6_bitCount_0f7a4 (kd_bits f n) = nI (kd_cnt f n) := by
  rw [kd_bits_c n (fun i hi => kd_b6_eq f i (by omega)), kd_cnt_c n (fun i hi => kd_b6_eq f i (by omega))]
  exact kd_B2 _ _ _ _ _ _ n (by omega)
theorem kd_b3 (f : Nat → Bool) {n : Nat} (hn : n ≤ 6) : kd_bits f n = 0 ↔ kd_cnt f n = 0 := by
  rw [kd_bits_c n (fun i hi => kd_b6_eq f i (by omega)), kd_cnt_c n (fun i hi => kd_b6_eq f i (by omega))]
  exact kd_B3 _ _ _ _ _ _ n (by omega)
theorem kd_b4 (f : Nat → Bool) {n : Nat} (hn : n ≤ 6) (h : ¬ kd_cnt f n = 0) : ∃ t, t < n ∧ kd_lgb f n (-1) = nI t ∧ f t = true ∧ sp_J6_lowestOneBit_0f7a4 (kd_bits f n) = ((1 : Int32) <<< ((nI t) &&& 31)) := by
  rw [kd_bits_c n (fun i hi => kd_b6_eq f i (by omega))]
  rw [kd_cnt_c n (fun i hi => kd_b6_eq f i (by omega))] at h
  rw [kd_lgb_c n _ (fun i hi => kd_b6_eq f i (by omega))]
  obtain ⟨a, b, c, d⟩ := kd_B4 _ _ _ _ _ _ n (by omega) h
  refine ⟨_, b, c, ?_, by rw [← c]; exact a⟩
  rw [kd_b6_eq f _ (by omega)]
  exact d
theorem kd_b5 (f : Nat → Bool) {n t : Nat} (hn : n ≤ 6) (ht : t < n) (h : f t = true) : kd_bits f n - ((1 : Int32) <<< ((nI t) &&& 31)) = kd_bits (kd_no f t) n := by
  rw [kd_bits_c n (fun i hi => kd_b6_eq f i (by omega))]
  rw [kd_b6_eq f t (by omega)] at h
  rw [kd_B5 _ _ _ _ _ _ n (by omega) t ht h]
  refine kd_bits_c n (fun i hi => ?_)
  unfold kd_no
  split
  · rfl
  · exact (kd_b6_eq f i (by omega)).symm
/-! laws -/
theorem kd_law_eq {T : Nat} {R : Nat → Nat → Int32} {rf : Nat → Int32} (h : kd_Rw T R rf) {t : Nat} (ht : t < T) {j : Nat} (hj : j < 4) : sp_X11_isByLaw rf t (nI j) = sp_X8_isKingsBy R t (nI j) := by
  obtain ⟨hz, h0, h1, h2, h3, h4, h5⟩ := h t ht
  unfold sp_X11_isByLaw sp_X8_isKingsBy sp_X8_isWronglyLost
  rw [h0, h4, kd_isK h ht]
  rcases (show j = 0 ∨ j = 1 ∨ j = 2 ∨ j = 3 by omega) with rfl | rfl | rfl | rfl
  · have d1 : ¬ (nI 0 - nI 0 / 2 * 2) = 1 := by decide
    have d2 : nI 0 ≤ 1 := by decide
    have d3 : (nI 0 &&& 1) = 0 := by decide
    have d4 : (nI 0 &&& 2) = 0 := by decide
    by_cases a : R t 2 = 0 <;> by_cases b : R t 4 = 0 <;> by_cases c : R t 0 = 1 <;> simp only [d1, d2, d3, d4, a, b, c, if_true, if_false, if_pos, if_neg, not_false_eq_true]
  · have d1 : (nI 1 - nI 1 / 2 * 2) = 1 := by decide
    have d2 : nI 1 ≤ 1 := by decide
    have d3 : ¬ (nI 1 &&& 1) = 0 := by decide
    have d4 : (nI 1 &&& 2) = 0 := by decide
    by_cases a : R t 2 = 0 <;> by_cases b : R t 4 = 0 <;> by_cases c : R t 0 = 1 <;> simp [d1, d2, d3, d4, a, b, c]
  · have d1 : ¬ (nI 2 - nI 2 / 2 * 2) = 1 := by decide
    have d2 : ¬ nI 2 ≤ 1 := by decide
    have d3 : (nI 2 &&& 1) = 0 := by decide
    have d4 : ¬ (nI 2 &&& 2) = 0 := by decide
    by_cases a : R t 2 = 0 <;> by_cases b : R t 4 = 0 <;> by_cases c : R t 0 = 1 <;> simp [d1, d2, d3, d4, a, b, c]
  · have d1 : (nI 3 - nI 3 / 2 * 2) = 1 := by decide
    have d2 : ¬ nI 3 ≤ 1 := by decide
    have d3 : ¬ (nI 3 &&& 1) = 0 := by decide
    have d4 : ¬ (nI 3 &&& 2) = 0 := by decide
    by_cases a : R t 2 = 0 <;> by_cases b : R t 4 = 0 <;> by_cases c : R t 0 = 1 <;> simp [d1, d2, d3, d4, a, b, c]
def kd_lf (R : Nat → Nat → Int32) (x : Int32) : Nat → Bool := fun i => decide (¬ sp_X8_isKingsBy R i x = 0)
theorem kd_kb_bits (R : Nat → Nat → Int32) (x : Int32) : ∀ n, kd_kb R x n = kd_bits (kd_lf R x) n
  | 0 => rfl
  | n + 1 => by
    rw [kd_kb, kd_bits, kd_kb_bits R x n]
    by_cases q : sp_X8_isKingsBy R n x = 0
    · rw [if_pos q, if_neg (by unfold kd_lf; simp [q])]
    · rw [if_neg q, if_pos (by unfold kd_lf; simp [q])]
theorem kd_lb_eq {T : Nat} {R : Nat → Nat → Int32} {rf : Nat → Int32} (h : kd_Rw T R rf) {j : Nat} (hj : j < 4) : ∀ n, n ≤ T → kd_lb rf (nI j) n = kd_kb R (nI j) n
  | 0, _ => rfl
  | n + 1, hn => by
    rw [kd_lb, kd_kb, kd_lb_eq h hj n (by omega), kd_law_eq h (by omega) hj]
    by_cases q : sp_X8_isKingsBy R n (nI j) = 0
    · rw [if_pos q, if_pos q]; exact Int32.or_zero
    · rw [if_neg q, if_neg q]
theorem kd_lw_eq {R : Nat → Nat → Int32} {rf : Nat → Int32} {T : Nat} (h : kd_Rw T R rf) (hT : T ≤ 6) {j : Nat} (hj : j < 4) : ∀ n, n ≤ T → kd_lw rf (nI j) n = kd_wo R (kd_kb R (nI j) T) n
  | 0, _ => rfl
  | n + 1, hn => by
    rw [kd_lw, kd_wo, kd_lw_eq h hT hj n (by omega), kd_law_eq h (by omega) hj, (h n (by omega)).2.2.1]
    have hb := kd_b1 (kd_lf R (nI j)) hT (show n < 6 by omega)
    rw [← kd_kb_bits] at hb
    by_cases q : sp_X8_isKingsBy R n (nI j) = 0
    · rw [if_pos q, if_pos (hb.mpr (fun z => by have := z.2; unfold kd_lf at this; simp [q] at this))]
      exact Int32.add_zero _
    · rw [if_neg q, if_neg (fun z => hb.mp z ⟨by omega, by unfold kd_lf; simp [q]⟩)]
theorem kd_e_law {R : Nat → Nat → Int32} {rf : Nat → Int32} {T : Nat} (h : kd_Rw T R rf) (hT : T ≤ 6) {j : Nat} (hj : j < 4) (p1 : Int32) : (if p1 = 0 then kd_kb R (nI j) T else kd_wo R (kd_kb R (nI j) T) T) = kd_law rf T (nI j) p1 := by
  unfold kd_law
  rw [kd_lb_eq h hj T (Nat.le_refl T), kd_lw_eq h hT hj T (Nat.le_refl T)]
theorem kd_e_laws {R : Nat → Nat → Int32} {rf : Nat → Int32} {T : Nat} (h : kd_Rw T R rf) (hT : T ≤ 6) (p0 p1 : Int32) : sp_X10_laws T R p0 p1 = sp_X11_laws T rf p0 p1 := by
  unfold sp_X10_laws sp_X11_laws
  rcases kd_both p0 4 4 3 (by decide) (by decide) with ⟨a, b⟩ | ⟨j, hj, rfl, a, b⟩
  · rw [if_pos a, if_pos b]
  · rw [if_neg (kd_n1 a), if_neg (kd_n1 b)]
    rcases kd_both p1 2 2 1 (by decide) (by decide) with ⟨a, b⟩ | ⟨i, hi, -, a, b⟩
    · rw [if_pos a, if_pos b]
    · rw [if_neg (kd_n1 a), if_neg (kd_n1 b)]
      rcases kd_lacks hT with ⟨-, c, d⟩ | ⟨hc, c, d⟩
      · rw [if_pos d, if_neg (kd_n1 c)]
      · rw [if_neg (kd_n1 d), if_pos c]
        exact kd_e_law h hT hj p1
/-! counts -/
def kd_kf (R : Nat → Nat → Int32) : Nat → Bool := fun i => decide (¬ R i 2 = 0)
theorem kd_lf0 (R : Nat → Nat → Int32) (i : Nat) : kd_lf R 0 i = kd_kf R i := by
  unfold kd_lf kd_kf sp_X8_isKingsBy
  have d3 : ((0 : Int32) &&& 1) = 0 := by decide
  have d4 : ((0 : Int32) &&& 2) = 0 := by decide
  by_cases a : R i 2 = 0 <;> simp [d3, d4, a]
theorem kd_kb0 (R : Nat → Nat → Int32) (n : Nat) : kd_kb R 0 n = kd_bits (kd_kf R) n := by
  rw [kd_kb_bits]
  exact kd_bits_c n (fun i _ => kd_lf0 R i)
theorem kd_km_cnt {rv : Nat → Int32} {f : Nat → Bool} : ∀ n, (∀ i, i < n → (sp_X11_isKings rv i = 0 ↔ ¬ f i = true)) → kd_km rv n = kd_cnt f n
  | 0, _ => rfl
  | n + 1, q => by
    rw [kd_km, kd_cnt, kd_km_cnt n (fun i hi => q i (by omega))]
    by_cases e : f n = true
    · rw [if_pos e, if_neg (fun z => (q n (by omega)).mp z e)]
    · rw [if_neg e, if_pos ((q n (by omega)).mpr e)]
theorem kd_lg_lgb {rv : Nat → Int32} {f : Nat → Bool} : ∀ n a, (∀ i, i < n → (sp_X11_isKings rv i = 0 ↔ ¬ f i = true)) → kd_lg rv n a = kd_lgb f n a
  | 0, _, _ => rfl
  | n + 1, a, q => by
    rw [kd_lg, kd_lgb]
    have e1 : (if sp_X11_isKings rv n = 0 then a else nI n) = (if f n = true then nI n else a) := by
      by_cases e : f n = true
      · rw [if_pos e, if_neg (fun z => (q n (by omega)).mp z e)]
      · rw [if_neg e, if_pos ((q n (by omega)).mpr e)]
    rw [e1]
    exact kd_lg_lgb n _ (fun i hi => q i (by omega))
theorem kd_kf_iff {T : Nat} {R : Nat → Nat → Int32} {rf : Nat → Int32} (h : kd_Rw T R rf) {i : Nat} (hi : i < T) : sp_X11_isKings rf i = 0 ↔ ¬ kd_kf R i = true := by
  rw [kd_isK h hi]
  unfold kd_kf
  simp
theorem kd_wr_mw {T : Nat} {R : Nat → Nat → Int32} {rf : Nat → Int32} (h : kd_Rw T R rf) : ∀ n, n ≤ T → kd_wr R n = kd_mw rf n
  | 0, _ => rfl
  | n + 1, hn => by
    rw [kd_wr, kd_mw, kd_wr_mw h n (by omega), kd_isK h (by omega), (h n (by omega)).2.2.2.2.2.1]
    unfold sp_X8_isWronglyLost
    by_cases a : R n 2 = 0
    · rw [if_pos a, if_pos a]
      by_cases b : R n 4 = 0
      · rw [if_pos b, if_pos b, if_neg (by decide)]
      · rw [if_neg b, if_neg b, if_pos rfl]
    · rw [if_neg a, if_neg a, if_pos rfl]
theorem kd_e_count {R : Nat → Nat → Int32} {rf : Nat → Int32} {T : Nat} (h : kd_Rw T R rf) (hT : T ≤ 6) (nh pn : Nat) (go : Int32) (th sm : Nat) (p0 : Int32) : sp_X10_count nh pn T go th sm R p0 = sp_X11_countOf pn T go th nh sm rf p0 := by
  have e1 : sp_J6_bitCount_0f7a4 (kd_kb R 0 T) = nI (kd_km rf T) := by
    rw [kd_kb0, kd_b2 _ hT, kd_km_cnt T (fun i hi => kd_kf_iff h (by omega))]
  have e2 : kd_wo R (kd_kb R 0 T) T = kd_law rf T 0 1 := by
    have := kd_e_law h hT (j := 0) (by omega) 1
    rw [if_neg (by decide)] at this
    exact this
  unfold sp_X10_count sp_X11_countOf
  rw [e1, e2, kd_wr_mw h T (Nat.le_refl T)]

/-! a hall is read -/
theorem kd_hs_eq {pf : Nat → Int32} {n t : Nat} (hn : n ≤ 22) (hc : kd_Cd pf n) (ht : 3 * t < n) : sp_X6_hallSort pf n (nI t) = sp_X11_sortBy (pf (3 * t)) := by
  obtain ⟨j, a, b, e⟩ := hc (3 * t) ht
  unfold sp_X6_hallSort
  rw [show (3 : Int32) * nI t = nI (3 * t) from pk_mul 3 t, kd_codeAt hn ht, e]
  exact kd_ix0 j (by omega)
theorem kd_hw_eq {pf : Nat → Int32} {n t : Nat} (hn : n ≤ 22) (ht : 3 * t + 1 < n) : sp_X6_hallWorth pf n (nI t) = pf (3 * t + 1) - 48 := by
  unfold sp_X6_hallWorth
  rw [show (3 : Int32) * nI t = nI (3 * t) from pk_mul 3 t, nI_1, kd_codeAt hn ht]
theorem kd_bg_mr {pf : Nat → Int32} {n q : Nat} (hn : n ≤ 22) (hc : kd_Cd pf n) (hq : n = 3 * q + 2) (hq6 : q ≤ 6) {ef : Nat → Int32} (he : ∀ t, t < q → ef (2 * t) = sp_X11_sortBy (pf (3 * t)) ∧ ef (2 * t + 1) = pf (3 * t + 1) - 48) {R : Nat → Nat → Int32} {rf : Nat → Int32} : ∀ i, i ≤ q → kd_Rw i (kd_bg pf n R i) (kd_mr ef rf i)
  | 0, _ => fun t ht => absurd ht (Nat.not_lt_zero t)
  | i + 1, hi => by
    have ih := kd_bg_mr (R := R) (rf := rf) hn hc hq hq6 he i (by omega)
    rw [kd_bg, kd_mr, kd_hs_eq hn hc (by omega), kd_hw_eq hn (by omega), ← (he i (by omega)).1, ← (he i (by omega)).2]
    generalize kd_bg pf n R i = R1 at ih ⊢
    generalize kd_mr ef rf i = r1 at ih ⊢
    unfold sp_X8_begin
    intro u hu
    by_cases e : u = i
    · subst e
      refine ⟨Or.inr ?_, ?_, ?_, ?_, ?_, ?_, ?_⟩
      · rw [kd_up_j _ _ (by decide), kd_up_j _ _ (by decide), kd_up_j _ _ (by decide), kd_up_s]
      · rw [pk_un (by omega), pk_un (by omega), pk_un (by omega), pk_un (by omega), pk_un (by omega), pk_us, kd_up_j _ _ (by decide), kd_up_j _ _ (by decide), kd_up_j _ _ (by decide), kd_up_j _ _ (by decide), kd_up_j _ _ (by decide), kd_up_s]
      · rw [pk_un (by omega), pk_un (by omega), pk_un (by omega), pk_un (by omega), pk_us, kd_up_j _ _ (by decide), kd_up_j _ _ (by decide), kd_up_j _ _ (by decide), kd_up_j _ _ (by decide), kd_up_s]
      · rw [pk_un (by omega), pk_un (by omega), pk_un (by omega), pk_us, kd_up_j _ _ (by decide), kd_up_j _ _ (by decide), kd_up_j _ _ (by decide), kd_up_s]; decide
      · rw [pk_un (by omega), pk_un (by omega), pk_us, kd_up_j _ _ (by decide), kd_up_j _ _ (by decide), kd_up_s]
      · rw [pk_un (by omega), pk_us, kd_up_j _ _ (by decide), kd_up_s]
      · rw [pk_us, kd_up_s]
    · obtain ⟨hz, a0, a1, a2, a3, a4, a5⟩ := ih u (by omega)
      refine ⟨?_, ?_, ?_, ?_, ?_, ?_, ?_⟩
      · rw [kd_up_t _ _ _ _ e, kd_up_t _ _ _ _ e, kd_up_t _ _ _ _ e, kd_up_t _ _ _ _ e, kd_up_t _ _ _ _ e, kd_up_t _ _ _ _ e]; exact hz
      all_goals rw [pk_un (by omega), pk_un (by omega), pk_un (by omega), pk_un (by omega), pk_un (by omega), pk_un (by omega), kd_up_t _ _ _ _ e, kd_up_t _ _ _ _ e, kd_up_t _ _ _ _ e, kd_up_t _ _ _ _ e, kd_up_t _ _ _ _ e, kd_up_t _ _ _ _ e]; assumption
theorem kd_bg_0 {pf : Nat → Int32} {n : Nat} {R : Nat → Nat → Int32} : ∀ i t, t < i → kd_bg pf n R i t 0 = sp_X6_hallSort pf n (nI t)
  | 0, t, h => absurd h (Nat.not_lt_zero t)
  | i + 1, t, h => by
    rw [kd_bg]
    unfold sp_X8_begin
    rw [kd_up_j _ _ (by decide), kd_up_j _ _ (by decide), kd_up_j _ _ (by decide), kd_up_j _ _ (by decide), kd_up_j _ _ (by decide)]
    by_cases e : t = i
    · subst e; rw [kd_up_s]
    · rw [kd_up_t _ _ _ _ e]; exact kd_bg_0 i t (by omega)
theorem kd_Z_bg {pf : Nat → Int32} {n : Nat} {R : Nat → Nat → Int32} (h : kd_Z R) : ∀ i, kd_Z (kd_bg pf n R i)
  | 0 => h
  | i + 1 => fun u hu => by
    rw [kd_bg]
    unfold sp_X8_begin
    rw [kd_up_j _ _ (by decide), kd_up_j _ _ (by decide), kd_up_j _ _ (by decide)]
    by_cases e : u = i
    · subst e; rw [kd_up_s]; exact Or.inr rfl
    · rw [kd_up_t _ _ _ _ e, kd_up_j _ _ (by decide), kd_up_j _ _ (by decide)]; exact kd_Z_bg h i u hu
theorem kd_kl_k {pf : Nat → Int32} {n i : Nat} (hc : kd_Cd pf n) (hi : i < n) (h : ¬ sp_X11_kindBy (pf i) = -1) : sp_X11_kindBy (pf i) = nI (kd_kl (pf i)) := by
  obtain ⟨j, a, b, e⟩ := hc i hi
  rw [e] at h ⊢
  exact kd_kind_k j (by omega) h
/-- what both leave of hall -/
theorem kd_e_hall {pf : Nat → Int32} {pn : Nat} (hn : pn ≤ 22) (hc : kd_Cd pf pn) {R : Nat → Nat → Int32} {rf : Nat → Int32} (hZ : kd_Z R) (k0 k1 : Nat) (ik : Int32) (nh : Nat) (wf : Nat → Int32) (wt : Int32) (T : Nat) (go : Int32) (th sm : Nat) (ef gf kf : Nat → Int32) :
    (sp_X6_isHall pf pn = 0 ∧ sp_X10_hall k0 k1 ik nh pf pn wf wt T go th sm R = (-103, k0, k1, ik, nh, pn, wf, wt, T, go, th, sm, R) ∧ ∃ a b c d e, kd_mhall pf pn ef gf T go th sm nh kf rf = (-103, a, b, c, d, e, T, go, th, sm, nh, pn, kf, rf)) ∨
    (sp_X6_isHall pf pn = 1 ∧ (pn = 3 * (pn / 3) + 2 ∧ pn / 3 ≤ 6) ∧ ∃ (q k0' k1' : Nat) (R' : Nat → Nat → Int32) (rf' kf' : Nat → Int32), 1 ≤ q ∧ q ≤ 6 ∧ k0' < 5 ∧ k1' < 5 ∧ kf' 0 = nI k0' ∧ kf' 1 = nI k1' ∧ kd_Rw q R' rf' ∧ kd_S1 R' q ∧ kd_Z R' ∧ sp_X10_hall k0 k1 ik nh pf pn wf wt T go th sm R = (nI q, k0', k1', 0, nh + 1, 0, kd_ro k0' k1' (kd_z wf 3) 11, kd_wm k0' * kd_wm k1', q, 0, 0, 0, R') ∧ ∃ a b c d e, kd_mhall pf pn ef gf T go th sm nh kf rf = (nI q, a, b, c, d, e, q, 0, 0, 0, nh + 1, 0, kf', rf')) := by
  rcases kd_hall_cases hn hc ef gf with ⟨a, b⟩ | ⟨a, b, c, q, hq, hq2, hq6, hrm, he, hs, g0, k0n, g1, k1n⟩
  · left
    refine ⟨a, by unfold sp_X10_hall; rw [if_pos a], ?_⟩
    unfold kd_mhall
    rcases b with b | ⟨b, c⟩
    · rw [if_pos b]; exact ⟨_, _, _, _, _, rfl⟩
    · rw [if_neg b, if_neg c]; exact ⟨_, _, _, _, _, rfl⟩
  · right
    have hq3 : pn / 3 = q := by omega
    have c0 : sp_X6_kingKindCode pf pn = pf (pn - 2) := by
      unfold sp_X6_kingKindCode
      rw [show (nI pn - 2) = nI (pn - 2) from pk_sub (b := 2) (by omega), kd_codeAt hn (by omega)]
    have c1 : sp_X6_cousinKindCode pf pn = pf (pn - 1) := by
      unfold sp_X6_cousinKindCode
      rw [show (nI pn - 1) = nI (pn - 1) from pk_sub (b := 1) (by omega), kd_codeAt hn (by omega)]
    refine ⟨a, ⟨by omega, by omega⟩, q, kd_kl (pf (pn - 2)), kd_kl (pf (pn - 1)), kd_bg pf pn R q, kd_mr (kd_ffr pf pn ef gf).2.2.2.2.1 rf q, kd_cs kf (kd_ffr pf pn ef gf).2.2.2.2.2 2, by omega, hq6, kd_kl_lt _, kd_kl_lt _, ?_, ?_, ?_, ?_, kd_Z_bg hZ q, ?_, ?_⟩
    · rw [kd_cs_eq, if_pos (by omega), g0]; exact kd_kl_k hc (by omega) k0n
    · rw [kd_cs_eq, if_pos (by omega), g1]; exact kd_kl_k hc (by omega) k1n
    · exact kd_bg_mr hn hc hq hq6 he q (Nat.le_refl q)
    · intro t u ht hu e1 e2
      rw [kd_bg_0 q t ht, kd_hs_eq hn hc (by omega)] at e1
      rw [kd_bg_0 q u hu, kd_hs_eq hn hc (by omega)] at e2
      obtain ⟨j, -, j2, ej⟩ := hc (3 * t) (by omega)
      obtain ⟨j', -, j2', ej'⟩ := hc (3 * u) (by omega)
      refine hs t u ht hu ?_ ?_
      · rw [ej] at e1 ⊢; exact (kd_sort_s j (by omega)).mp e1
      · rw [ej'] at e2 ⊢; exact (kd_sort_s j' (by omega)).mp e2
    · unfold sp_X10_hall
      rw [if_neg (kd_n1 a), c0, c1, hq3]
      rfl
    · unfold kd_mhall
      rw [if_neg b, if_pos c, hrm]
      exact ⟨_, _, _, _, _, rfl⟩
theorem kd_cp_eq {R R2 : Nat → Nat → Int32} : ∀ n t j, t < n → j < 6 → kd_cp R R2 n t j = R2 t j
  | 0, t, j, h, _ => absurd h (Nat.not_lt_zero t)
  | n + 1, t, j, h, hj => by
    rw [kd_cp]
    unfold sp_X8_copy
    by_cases e : t = n
    · subst e
      rcases (show j = 0 ∨ j = 1 ∨ j = 2 ∨ j = 3 ∨ j = 4 ∨ j = 5 by omega) with rfl | rfl | rfl | rfl | rfl | rfl
      · rw [kd_up_j _ _ (by decide), kd_up_j _ _ (by decide), kd_up_j _ _ (by decide), kd_up_j _ _ (by decide), kd_up_j _ _ (by decide), kd_up_s]
      · rw [kd_up_j _ _ (by decide), kd_up_j _ _ (by decide), kd_up_j _ _ (by decide), kd_up_j _ _ (by decide), kd_up_s]
      · rw [kd_up_j _ _ (by decide), kd_up_j _ _ (by decide), kd_up_j _ _ (by decide), kd_up_s]
      · rw [kd_up_j _ _ (by decide), kd_up_j _ _ (by decide), kd_up_s]
      · rw [kd_up_j _ _ (by decide), kd_up_s]
      · rw [kd_up_s]
    · rw [kd_up_t _ _ _ _ e, kd_up_t _ _ _ _ e, kd_up_t _ _ _ _ e, kd_up_t _ _ _ _ e, kd_up_t _ _ _ _ e, kd_up_t _ _ _ _ e]
      exact kd_cp_eq n t j (by omega) hj
theorem kd_Z_cp {R R2 : Nat → Nat → Int32} (h : kd_Z R2) : kd_Z (kd_cp R R2 6) := fun t ht => by
  rw [kd_cp_eq 6 t 2 ht (by decide)]; exact h t ht
theorem kd_Rw_cp {T : Nat} (hT : T ≤ 6) {R R2 : Nat → Nat → Int32} {rf r2 : Nat → Int32} (h : kd_Rw T R2 r2) : kd_Rw T (kd_cp R R2 6) (kd_cs rf r2 36) := fun t ht => by
  obtain ⟨hz, a0, a1, a2, a3, a4, a5⟩ := h t ht
  refine ⟨?_, ?_, ?_, ?_, ?_, ?_, ?_⟩
  · rw [kd_cp_eq 6 t 2 (by omega) (by decide)]; exact hz
  all_goals rw [kd_cs_eq, if_pos (by omega), kd_cp_eq 6 t _ (by omega) (by decide)]; assumption
theorem kd_S1_cp {R R2 : Nat → Nat → Int32} {T : Nat} (hT : T ≤ 6) (h : kd_S1 R2 T) : kd_S1 (kd_cp R R2 6) T := fun t u ht hu => by
  rw [kd_cp_eq 6 t 0 (by omega) (by decide), kd_cp_eq 6 u 0 (by omega) (by decide)]
  exact h t u ht hu
theorem kd_Sn_cs {sf s2 : Nat → Int32} {sm : Nat} (hs : sm ≤ 8) (h : kd_Sn s2 sm) : kd_Sn (kd_cs sf s2 8) sm := fun i hi => by
  rw [kd_cs_eq, if_pos (by omega)]
  exact h i hi

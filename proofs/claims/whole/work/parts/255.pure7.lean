/-! a throw -/
def kd_S1 (R : Nat → Nat → Int32) (T : Nat) : Prop := ∀ t u, t < T → u < T → R t 0 = 2 → R u 0 = 2 → t = u
theorem kd_self_iff {R : Nat → Nat → Int32} {T : Nat} (h : kd_S1 R T) : ∀ k i, i + k = T → (kd_self R i k = 0 ↔ ∃ j, i ≤ j ∧ j < T ∧ R j 0 = 2 ∧ R j 2 = 0)
  | 0, i, e => by
    rw [kd_self]
    exact ⟨fun z => absurd z (by decide), fun ⟨j, a, b, _⟩ => absurd b (by omega)⟩
  | k + 1, i, e => by
    rw [kd_self]
    by_cases q : R i 0 = 2
    · rw [if_pos q]
      refine ⟨fun z => ⟨i, Nat.le_refl i, by omega, q, z⟩, fun ⟨j, a, b, c, d⟩ => ?_⟩
      have := h i j (by omega) b q c
      subst this
      exact d
    · rw [if_neg q, kd_self_iff h k (i + 1) (by omega)]
      refine ⟨fun ⟨j, a, b, c⟩ => ⟨j, by omega, b, c⟩, fun ⟨j, a, b, c, d⟩ => ⟨j, ?_, b, c, d⟩⟩
      by_cases e2 : j = i
      · subst e2; exact absurd c q
      · omega
theorem kd_rn_iff {T : Nat} {R : Nat → Nat → Int32} {rf : Nat → Int32} (h : kd_Rw T R rf) : ∀ n, n ≤ T → (kd_rn rf n = 0 ↔ ∃ j, j < n ∧ R j 0 = 2 ∧ R j 2 = 0)
  | 0, _ => by
    rw [kd_rn]
    exact ⟨fun z => absurd z (by decide), fun ⟨j, a, _⟩ => absurd a (by omega)⟩
  | n + 1, hn => by
    rw [kd_rn, (h n (by omega)).2.1, kd_isK h (by omega)]
    have ih := kd_rn_iff h n (by omega)
    by_cases q : kd_rn rf n = 0
    · rw [if_pos q]
      obtain ⟨j, a, b⟩ := ih.mp q
      exact ⟨fun _ => ⟨j, by omega, b⟩, fun _ => rfl⟩
    · rw [if_neg q]
      by_cases c : R n 0 = 2
      · rw [if_pos c]
        by_cases d : R n 2 = 0
        · rw [if_pos d]
          exact ⟨fun _ => ⟨n, by omega, c, d⟩, fun _ => rfl⟩
        · rw [if_neg d]
          refine ⟨fun z => absurd z (by decide), fun ⟨j, a, b, e⟩ => ?_⟩
          by_cases e2 : j = n
          · subst e2; exact absurd e d
          · exact absurd (ih.mpr ⟨j, by omega, b, e⟩) q
      · rw [if_neg c]
        refine ⟨fun z => absurd z (by decide), fun ⟨j, a, b, e⟩ => ?_⟩
        by_cases e2 : j = n
        · subst e2; exact absurd b c
        · exact absurd (ih.mpr ⟨j, by omega, b, e⟩) q
theorem kd_self_rn {T : Nat} {R : Nat → Nat → Int32} {rf : Nat → Int32} (h : kd_Rw T R rf) (h1 : kd_S1 R T) : kd_self R 0 T = 0 ↔ kd_rn rf T = 0 := by
  rw [kd_self_iff h1 T 0 (by omega), kd_rn_iff h T (Nat.le_refl T)]
  exact ⟨fun ⟨j, _, b⟩ => ⟨j, b⟩, fun ⟨j, b⟩ => ⟨j, Nat.zero_le j, b⟩⟩
theorem kd_up_s (R : Nat → Nat → Int32) (t j : Nat) (v : Int32) : kd_up R t j v t j = v := if_pos ⟨rfl, rfl⟩
theorem kd_up_j (R : Nat → Nat → Int32) {t t' j j' : Nat} (v : Int32) (h : j' ≠ j) : kd_up R t j v t' j' = R t' j' := if_neg (fun q => h q.2)
theorem kd_up_t (R : Nat → Nat → Int32) {t t' : Nat} (j j' : Nat) (v : Int32) (h : t' ≠ t) : kd_up R t j v t' j' = R t' j' := if_neg (fun q => h q.1)
theorem kd_Rw_lose {T t : Nat} {R : Nat → Nat → Int32} {rf : Nat → Int32} (h : kd_Rw T R rf) (h1 : kd_S1 R T) (th : Nat) : kd_Rw T (sp_X8_lose R t (nI th) (kd_self R 0 T)) (sp_X11_loses T th rf t) := by
  have hi := kd_self_rn h h1
  unfold sp_X8_lose sp_X11_loses sp_X11_goesOver
  intro u hu
  obtain ⟨hz, a0, a1, a2, a3, a4, a5⟩ := h u hu
  by_cases q : kd_self R 0 T = 0
  · rw [if_pos q, if_pos (hi.mp q)]
    by_cases e : u = t
    · subst e
      refine ⟨Or.inl ?_, ?_, ?_, ?_, ?_, ?_, ?_⟩
      · rw [kd_up_j _ _ (by decide), kd_up_j _ _ (by decide), kd_up_j _ _ (by decide), kd_up_s]
      · rw [pk_un (by omega), pk_un (by omega), pk_un (by omega), pk_un (by omega), kd_up_j _ _ (by decide), kd_up_j _ _ (by decide), kd_up_j _ _ (by decide), kd_up_j _ _ (by decide)]; exact a0
      · rw [pk_un (by omega), pk_un (by omega), pk_un (by omega), pk_un (by omega), kd_up_j _ _ (by decide), kd_up_j _ _ (by decide), kd_up_j _ _ (by decide), kd_up_j _ _ (by decide)]; exact a1
      · rw [pk_un (by omega), pk_us, kd_up_j _ _ (by decide), kd_up_j _ _ (by decide), kd_up_j _ _ (by decide), kd_up_s]; decide
      · rw [pk_un (by omega), pk_un (by omega), pk_us, kd_up_j _ _ (by decide), kd_up_j _ _ (by decide), kd_up_s]
      · rw [pk_un (by omega), pk_un (by omega), pk_un (by omega), pk_us, kd_up_j _ _ (by decide), kd_up_s]
      · rw [pk_us, pk_un (by omega), pk_un (by omega), pk_un (by omega), kd_up_s, kd_up_j _ _ (by decide), kd_up_j _ _ (by decide), kd_up_j _ _ (by decide), a5]
    · refine ⟨?_, ?_, ?_, ?_, ?_, ?_, ?_⟩
      · rw [kd_up_t _ _ _ _ e, kd_up_t _ _ _ _ e, kd_up_t _ _ _ _ e, kd_up_t _ _ _ _ e]; exact hz
      all_goals rw [pk_un (by omega), pk_un (by omega), pk_un (by omega), pk_un (by omega), kd_up_t _ _ _ _ e, kd_up_t _ _ _ _ e, kd_up_t _ _ _ _ e, kd_up_t _ _ _ _ e]; assumption
  · rw [if_neg q, if_neg (fun z => q (hi.mpr z))]
    by_cases e : u = t
    · subst e
      refine ⟨Or.inl ?_, ?_, ?_, ?_, ?_, ?_, ?_⟩
      · rw [kd_up_j _ _ (by decide), kd_up_j _ _ (by decide), kd_up_j _ _ (by decide), kd_up_s]
      · rw [pk_un (by omega), pk_un (by omega), pk_un (by omega), pk_un (by omega), kd_up_j _ _ (by decide), kd_up_j _ _ (by decide), kd_up_j _ _ (by decide), kd_up_j _ _ (by decide)]; exact a0
      · rw [pk_un (by omega), pk_un (by omega), pk_un (by omega), pk_un (by omega), kd_up_j _ _ (by decide), kd_up_j _ _ (by decide), kd_up_j _ _ (by decide), kd_up_j _ _ (by decide)]; exact a1
      · rw [pk_un (by omega), pk_us, kd_up_j _ _ (by decide), kd_up_j _ _ (by decide), kd_up_j _ _ (by decide), kd_up_s]; decide
      · rw [pk_un (by omega), pk_un (by omega), pk_us, kd_up_j _ _ (by decide), kd_up_j _ _ (by decide), kd_up_s]
      · rw [pk_un (by omega), pk_un (by omega), pk_un (by omega), pk_us, kd_up_j _ _ (by decide), kd_up_s]
      · rw [pk_us, pk_un (by omega), pk_un (by omega), pk_un (by omega), kd_up_s, kd_up_j _ _ (by decide), kd_up_j _ _ (by decide), kd_up_j _ _ (by decide), a5]
    · refine ⟨?_, ?_, ?_, ?_, ?_, ?_, ?_⟩
      · rw [kd_up_t _ _ _ _ e, kd_up_t _ _ _ _ e, kd_up_t _ _ _ _ e, kd_up_t _ _ _ _ e]; exact hz
      all_goals rw [pk_un (by omega), pk_un (by omega), pk_un (by omega), pk_un (by omega), kd_up_t _ _ _ _ e, kd_up_t _ _ _ _ e, kd_up_t _ _ _ _ e, kd_up_t _ _ _ _ e]; assumption
theorem kd_Rw_back {T : Nat} {R : Nat → Nat → Int32} {rf : Nat → Int32} (h : kd_Rw T R rf) {t : Nat} : kd_Rw T (sp_X8_comeBack R t) (sp_X11_goesOver rf t 0) := by
  unfold sp_X8_comeBack sp_X11_goesOver
  intro u hu
  obtain ⟨hz, a0, a1, a2, a3, a4, a5⟩ := h u hu
  by_cases e : u = t
  · subst e
    refine ⟨Or.inr ?_, ?_, ?_, ?_, ?_, ?_, ?_⟩
    · rw [kd_up_j _ _ (by decide), kd_up_s]
    · rw [pk_un (by omega), pk_un (by omega), kd_up_j _ _ (by decide), kd_up_j _ _ (by decide)]; exact a0
    · rw [pk_un (by omega), pk_un (by omega), kd_up_j _ _ (by decide), kd_up_j _ _ (by decide)]; exact a1
    · rw [pk_un (by omega), pk_us, kd_up_j _ _ (by decide), kd_up_s]; decide
    · rw [pk_un (by omega), pk_un (by omega), kd_up_j _ _ (by decide), kd_up_j _ _ (by decide)]; exact a3
    · rw [pk_un (by omega), pk_un (by omega), kd_up_j _ _ (by decide), kd_up_j _ _ (by decide)]; exact a4
    · rw [pk_us, pk_un (by omega), kd_up_s, kd_up_j _ _ (by decide), a5]
  · refine ⟨?_, ?_, ?_, ?_, ?_, ?_, ?_⟩
    · rw [kd_up_t _ _ _ _ e, kd_up_t _ _ _ _ e]; exact hz
    all_goals rw [pk_un (by omega), pk_un (by omega), kd_up_t _ _ _ _ e, kd_up_t _ _ _ _ e]; assumption
theorem kd_Z_lose {R : Nat → Nat → Int32} {t : Nat} {a b : Int32} (h : kd_Z R) : kd_Z (sp_X8_lose R t a b) := by
  unfold sp_X8_lose
  intro u hu
  split
  · rw [kd_up_j _ _ (by decide), kd_up_j _ _ (by decide), kd_up_j _ _ (by decide)]
    by_cases e : u = t
    · subst e; rw [kd_up_s]; exact Or.inl rfl
    · rw [kd_up_t _ _ _ _ e]; exact h u hu
  · rw [kd_up_j _ _ (by decide), kd_up_j _ _ (by decide), kd_up_j _ _ (by decide)]
    by_cases e : u = t
    · subst e; rw [kd_up_s]; exact Or.inl rfl
    · rw [kd_up_t _ _ _ _ e]; exact h u hu
theorem kd_Z_back {R : Nat → Nat → Int32} {t : Nat} (h : kd_Z R) : kd_Z (sp_X8_comeBack R t) := by
  unfold sp_X8_comeBack
  intro u hu
  rw [kd_up_j _ _ (by decide)]
  by_cases e : u = t
  · subst e; rw [kd_up_s]; exact Or.inr rfl
  · rw [kd_up_t _ _ _ _ e]; exact h u hu
theorem kd_S1_lose {R : Nat → Nat → Int32} {T t : Nat} {a b : Int32} (h : kd_S1 R T) : kd_S1 (sp_X8_lose R t a b) T := by
  unfold sp_X8_lose
  intro u v hu hv
  split
  · rw [kd_up_j _ _ (by decide), kd_up_j _ _ (by decide), kd_up_j _ _ (by decide), kd_up_j _ _ (by decide), kd_up_j _ _ (by decide), kd_up_j _ _ (by decide), kd_up_j _ _ (by decide), kd_up_j _ _ (by decide)]
    exact h u v hu hv
  · rw [kd_up_j _ _ (by decide), kd_up_j _ _ (by decide), kd_up_j _ _ (by decide), kd_up_j _ _ (by decide), kd_up_j _ _ (by decide), kd_up_j _ _ (by decide), kd_up_j _ _ (by decide), kd_up_j _ _ (by decide)]
    exact h u v hu hv
theorem kd_S1_back {R : Nat → Nat → Int32} {T t : Nat} (h : kd_S1 R T) : kd_S1 (sp_X8_comeBack R t) T := by
  unfold sp_X8_comeBack
  intro u v hu hv
  rw [kd_up_j _ _ (by decide), kd_up_j _ _ (by decide), kd_up_j _ _ (by decide), kd_up_j _ _ (by decide)]
  exact h u v hu hv
theorem kd_w_out : ∀ k, k < 5 → ∀ x : Int32, sp_X10_isSum x = 0 → kd_w k x = 0 := fun k hk x h => by
  rcases (show k = 0 ∨ k = 1 ∨ k = 2 ∨ k = 3 ∨ k = 4 by omega) with rfl | rfl | rfl | rfl | rfl
  · show kd_w2 1 6 1 6 x = 0; unfold kd_w2; rw [if_pos h]
  · show kd_w2 2 5 2 6 x = 0; unfold kd_w2; rw [if_pos h]
  · show (if sp_X10_isSum x = 0 then (0 : Int32) else _) = 0; rw [if_pos h]
  · show kd_w2 1 3 1 3 x = 0; unfold kd_w2; rw [if_pos h]
  · show kd_w2 4 3 4 6 x = 0; unfold kd_w2; rw [if_pos h]
/-- a sum that dice can't make, on both sides -/
theorem kd_can {tf bf : Nat → Int32} (hB : kd_Tb tf bf) {k : Nat} (hk : k < 5) (x : Int32) : (kd_w k x = 0 ∧ (sp_X11_in x.toInt64 2 12 = 0 ∨ (sp_X11_in x.toInt64 2 12 = 1 ∧ sp_X11_waysOf tf bf k x.toNatClampNeg = 0))) ∨ (¬ kd_w k x = 0 ∧ sp_X11_in x.toInt64 2 12 = 1 ∧ ¬ sp_X11_waysOf tf bf k x.toNatClampNeg = 0) := by
  rcases kd_bothS x with ⟨a, b⟩ | ⟨j, h2, h12, e, a, b⟩
  · exact Or.inl ⟨kd_w_out k hk x a, Or.inl b⟩
  · have hw : sp_X11_waysOf tf bf k x.toNatClampNeg = kd_w k x := by
      rw [e, nI_clamp (by omega)]
      exact hB.1 k hk j h2 h12
    rw [hw]
    by_cases q : kd_w k x = 0
    · exact Or.inl ⟨q, Or.inr ⟨b, q⟩⟩
    · exact Or.inr ⟨q, b, q⟩
/-- what both leave of a throw -/
def kd_Pl (T : Nat) (x : Int32 × Int32 × Nat × (Nat → Nat → Int32)) (y : Int32 × Int32 × Nat × (Nat → Int32)) : Prop := x.1 = y.1 ∧ x.2.1 = y.2.1 ∧ x.2.2.1 = y.2.2.1 ∧ x.2.2.1 ≤ 30 ∧ kd_Rw T x.2.2.2 y.2.2.2 ∧ kd_S1 x.2.2.2 T ∧ kd_Z x.2.2.2
theorem kd_e_play {tf bf : Nat → Int32} (hB : kd_Tb tf bf) {T k0 k1 th : Nat} {R : Nat → Nat → Int32} {rf : Nat → Int32} (h : kd_Rw T R rf) (hZ : kd_Z R) (hT : T ≤ 6) (h0 : k0 < 5) (h1 : k1 < 5) (hs : kd_S1 R T) (hth : th ≤ 30) (go : Int32) (p0 p1 p2 p3 : Int32) : kd_Pl T (sp_X10_play k0 k1 T go th R p0 p1 p2 p3) (sp_X11_play T go th tf bf rf p0 p1 p2 p3 (kd_kv k0 k1)) := by
  have same : ∀ z : Int32, kd_Pl T (z, go, th, R) (z, go, th, rf) := fun z => ⟨rfl, rfl, rfl, hth, h, hs, hZ⟩
  unfold sp_X10_play sp_X11_play
  rcases kd_bothT p0 hT with ⟨a, b⟩ | ⟨t, ht, rfl, a, b⟩
  · rw [if_pos a, if_pos b]; exact same _
  · rw [if_neg (kd_n1 a), if_neg (kd_n1 b), nI_clamp (n := t) (by omega)]
    have hk : sp_X11_isKings rf t = R t 2 := kd_isK h (by omega)
    have hw0 := kd_can hB h0 p2
    have hw1 := kd_can hB h1 p3
    by_cases g : p1 = -1
    · subst g
      rw [if_pos rfl, if_pos rfl]
      rcases hw0 with ⟨c, d | ⟨d, e⟩⟩ | ⟨c, d, e⟩
      · rw [if_pos c, if_pos d]; exact same _
      · rw [if_pos c, if_neg (kd_n1 d)]
        by_cases f : sp_X11_in p3.toInt64 2 12 = 0
        · rw [if_pos f]; exact same _
        · rw [if_neg f, if_pos (show sp_X11_waysOf tf bf (kd_kv k0 k1 0) p2.toNatClampNeg = 0 from e)]; exact same _
      · rw [if_neg c, if_neg (kd_n1 d)]
        rcases hw1 with ⟨c', d' | ⟨d', e'⟩⟩ | ⟨c', d', e'⟩
        · rw [if_pos c', if_pos d']; exact same _
        · rw [if_pos c', if_neg (kd_n1 d'), if_neg (show ¬ sp_X11_waysOf tf bf (kd_kv k0 k1 0) p2.toNatClampNeg = 0 from e), if_pos (show sp_X11_waysOf tf bf (kd_kv k0 k1 1) p3.toNatClampNeg = 0 from e')]; exact same _
        · rw [if_neg c', if_neg (kd_n1 d'), if_neg (show ¬ sp_X11_waysOf tf bf (kd_kv k0 k1 0) p2.toNatClampNeg = 0 from e), if_neg (show ¬ sp_X11_waysOf tf bf (kd_kv k0 k1 1) p3.toNatClampNeg = 0 from e'), hk]
          have hh : sp_X7_has T (-1) = 0 := rfl
          have hm : sp_X7_mayStake T R (nI t) (-1) = if R t 2 = 0 then 0 else 1 := by
            unfold sp_X7_mayStake
            rw [if_neg (kd_n1 a), nI_clamp (by omega), hh, if_pos rfl, if_pos rfl]
          rw [hm]
          by_cases r : R t 2 = 0
          · rw [if_pos r, if_pos r, if_pos rfl]; exact same _
          · rw [if_neg r, if_neg r, if_neg (by decide)]
            by_cases u : th = 30
            · subst u
              rw [if_neg (by decide), if_pos (by decide)]; exact same _
            · rw [if_pos (kd_ltl (b := 30) (m := 30) rfl (by omega) (by decide)), if_neg (kd_nql (a := th) (b := 30) (m := 30) rfl u (by omega) (by decide))]
              unfold sp_X7_settle
              rw [hm, if_neg r, if_neg (by decide), hh, if_pos rfl, nI_clamp (by omega), (h t (by omega)).2.2.1]
              by_cases v : p2 = p3
              · subst v
                rw [if_pos rfl, if_pos (Int32.le_refl _), if_pos (Int32.le_refl _)]
                exact ⟨rfl, rfl, rfl, by show th + 1 ≤ 30; omega, h, hs, hZ⟩
              · rw [if_neg v]
                by_cases w : p3 ≤ p2
                · rw [if_pos w, if_pos w, if_neg (fun z => v (Int32.le_antisymm z w))]
                  exact ⟨rfl, rfl, rfl, by show th + 1 ≤ 30; omega, h, hs, hZ⟩
                · rw [if_neg w, if_neg w, if_pos (by rcases Int32.le_total p2 p3 with z | z; exact z; exact absurd z w)]
                  exact ⟨rfl, rfl, rfl, by show th + 1 ≤ 30; omega, kd_Rw_lose h hs (th + 1), kd_S1_lose hs, kd_Z_lose hZ⟩
    · rw [if_neg g, if_neg g]
      rcases kd_bothT p1 hT with ⟨a', b'⟩ | ⟨u, hu, rfl, a', b'⟩
      · rw [if_pos a', if_pos b']; exact same _
      · rw [if_neg (kd_n1 a'), if_neg (kd_n1 b'), nI_clamp (n := u) (by omega)]
        rcases hw0 with ⟨c, d | ⟨d, e⟩⟩ | ⟨c, d, e⟩
        · rw [if_pos c, if_pos d]; exact same _
        · rw [if_pos c, if_neg (kd_n1 d)]
          by_cases f : sp_X11_in p3.toInt64 2 12 = 0
          · rw [if_pos f]; exact same _
          · rw [if_neg f, if_pos (show sp_X11_waysOf tf bf (kd_kv k0 k1 0) p2.toNatClampNeg = 0 from e)]; exact same _
        · rw [if_neg c, if_neg (kd_n1 d)]
          rcases hw1 with ⟨c', d' | ⟨d', e'⟩⟩ | ⟨c', d', e'⟩
          · rw [if_pos c', if_pos d']; exact same _
          · rw [if_pos c', if_neg (kd_n1 d'), if_neg (show ¬ sp_X11_waysOf tf bf (kd_kv k0 k1 0) p2.toNatClampNeg = 0 from e), if_pos (show sp_X11_waysOf tf bf (kd_kv k0 k1 1) p3.toNatClampNeg = 0 from e')]; exact same _
          · rw [if_neg c', if_neg (kd_n1 d'), if_neg (show ¬ sp_X11_waysOf tf bf (kd_kv k0 k1 0) p2.toNatClampNeg = 0 from e), if_neg (show ¬ sp_X11_waysOf tf bf (kd_kv k0 k1 1) p3.toNatClampNeg = 0 from e'), hk, kd_isK h (show u < T by omega), (h t (by omega)).2.2.1, (h u (by omega)).2.2.1]
            have hm : sp_X7_mayStake T R (nI t) (nI u) = if R t 2 = 0 then 0 else if R u 2 = 0 then (if R t 1 < R u 1 then 0 else 1) else 0 := by
              unfold sp_X7_mayStake
              rw [if_neg (kd_n1 a), nI_clamp (by omega), if_neg (kd_n1 a'), nI_clamp (by omega)]
            rw [hm]
            by_cases r : R t 2 = 0
            · rw [if_pos r, if_pos r, if_pos rfl]; exact same _
            · rw [if_neg r, if_neg r]
              by_cases r2 : R u 2 = 0
              · rw [if_pos r2, if_pos r2]
                by_cases r3 : R t 1 < R u 1
                · rw [if_pos r3, if_pos rfl, if_neg (Int32.not_le.mpr r3)]; exact same _
                · rw [if_neg r3, if_neg (by decide), if_pos (Int32.not_lt.mp r3)]
                  by_cases uu : th = 30
                  · subst uu
                    rw [if_neg (by decide), if_pos (by decide)]; exact same _
                  · rw [if_pos (kd_ltl (b := 30) (m := 30) rfl (by omega) (by decide)), if_neg (kd_nql (a := th) (b := 30) (m := 30) rfl uu (by omega) (by decide))]
                    unfold sp_X7_settle
                    rw [hm, if_neg r, if_pos r2, if_neg r3, if_neg (by decide), if_neg (kd_n1 a'), nI_clamp (by omega), nI_clamp (by omega)]
                    by_cases v : p2 = p3
                    · subst v
                      rw [if_pos rfl, if_pos (Int32.le_refl _), if_pos (Int32.le_refl _)]
                      exact ⟨rfl, rfl, rfl, by show th + 1 ≤ 30; omega, h, hs, hZ⟩
                    · rw [if_neg v]
                      by_cases w : p3 ≤ p2
                      · rw [if_pos w, if_pos w, if_neg (fun z => v (Int32.le_antisymm z w))]
                        exact ⟨rfl, rfl, rfl, by show th + 1 ≤ 30; omega, kd_Rw_back h, kd_S1_back hs, kd_Z_back hZ⟩
                      · rw [if_neg w, if_neg w, if_pos (by rcases Int32.le_total p2 p3 with z | z; exact z; exact absurd z w)]
                        exact ⟨rfl, rfl, rfl, by show th + 1 ≤ 30; omega, kd_Rw_lose h hs (th + 1), kd_S1_lose hs, kd_Z_lose hZ⟩
              · rw [if_neg r2, if_neg r2, if_pos rfl]; exact same _

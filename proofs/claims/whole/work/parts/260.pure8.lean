/-! the page as a hall: both readers -/
def kd_Cd (pf : Nat → Int32) (n : Nat) : Prop := ∀ i, i < n → ∃ j : Nat, 1 ≤ j ∧ j ≤ 126 ∧ pf i = nI j
theorem kd_codeAt {pf : Nat → Int32} {n i : Nat} (hn : n ≤ 22) (hi : i < n) : sp_X6_codeAt pf n (nI i) = pf i := by
  unfold sp_X6_codeAt sp_X10_isBelow
  rw [if_neg (nI_pos (by omega)), if_neg (nI_ge hi (by omega)), if_neg (by decide), nI_clamp (by omega)]
theorem kd_ix0 : ∀ j, j < 127 → sp_J0_indexOf_0f7a4_0 (((nI j : Int32).toUInt32 % 65536).toInt32) = sp_X11_sortBy (nI j) := by decide +kernel
theorem kd_ix1 : ∀ j, j < 127 → sp_J0_indexOf_0f7a4_1 (((nI j : Int32).toUInt32 % 65536).toInt32) = sp_X11_kindBy (nI j) := by decide +kernel
theorem kd_sort_v : ∀ j, j < 127 → (sp_X11_sortBy (nI j) < 0 ↔ sp_X11_sortBy (nI j) = -1) := by decide +kernel
theorem kd_kind_v : ∀ j, j < 127 → (sp_X11_kindBy (nI j) < 0 ↔ sp_X11_kindBy (nI j) = -1) := by decide +kernel
theorem kd_kind_k : ∀ j, j < 127 → ¬ sp_X11_kindBy (nI j) = -1 → sp_X11_kindBy (nI j) = nI (kd_kl (nI j)) := by decide +kernel
theorem kd_sort_s : ∀ j, j < 127 → (sp_X11_sortBy (nI j) = 2 ↔ nI j = 115) := by decide +kernel
def kd_SmC (pf : Nat → Int32) (e : Nat) (hs : Int32) (ef : Nat → Int32) : Prop := (∀ t, 3 * t < e → ef (2 * t) = sp_X11_sortBy (pf (3 * t))) ∧ (∀ t, 3 * t + 1 < e → ef (2 * t + 1) = pf (3 * t + 1) - 48) ∧ (∀ t, 3 * t < e → pf (3 * t) = 115 → hs = 1) ∧ (∀ t u, 3 * t < e → 3 * u < e → pf (3 * t) = 115 → pf (3 * u) = 115 → t = u) ∧ (∀ q, q < e → ¬ pf q = 59) ∧ (hs = 0 ∨ hs = 1)
def kd_Sm (pf : Nat → Int32) (i : Nat) (hs en : Int32) (st : Nat × Int32 × Nat × (Nat → Int32) × (Nat → Int32)) : Prop := ∃ e : Nat, kd_SmC pf e hs st.2.2.2.1 ∧ st.2.1 = hs ∧
  ((en = -1 ∧ e = i ∧ st.2.2.1 = i % 3 ∧ st.1 = (i + 1) / 3 ∧ i ≤ 17) ∨
   (en = nI e ∧ e % 3 = 2 ∧ 5 ≤ e ∧ e ≤ 17 ∧ st.1 = (e + 1) / 3 ∧ e < i ∧ i ≤ e + 3 ∧ st.2.2.1 = i + 2 - e ∧ pf e = 59 ∧ (e + 2 ≤ i → st.2.2.2.2 0 = sp_X11_kindBy (pf (e + 1)) ∧ ¬ sp_X11_kindBy (pf (e + 1)) = -1) ∧ (e + 3 ≤ i → st.2.2.2.2 1 = sp_X11_kindBy (pf (e + 2)) ∧ ¬ sp_X11_kindBy (pf (e + 2)) = -1)))
/-- one letter -/
def kd_Go (pf : Nat → Int32) (i : Nat) (hs en : Int32) (F : Int32) (G : Int32 × Nat × Int32 × Nat × (Nat → Int32) × (Nat → Int32)) : Prop := (F = 0 ∧ G.1 = 0) ∨ (¬ F = 0 ∧ ¬ G.1 = 0 ∧ kd_Sm pf (i + 1) (if pf i = 115 then 1 else hs) (if pf i = 59 then nI i else en) G.2)
theorem kd_step0 {pf : Nat → Int32} {i j : Nat} {hs : Int32} {rm : Nat} {ef gf : Nat → Int32} (hj : j < 127) (hc : pf i = nI j) (hC : kd_SmC pf i hs ef) (h3 : i % 3 = 0) (h17 : i ≤ 17) (hr : rm = (i + 1) / 3) : kd_Go pf i hs (-1) (sp_X6_fitsThings (nI i) (pf i) hs) (sp_X11_go rm hs 0 ef gf (pf i)) := by
  obtain ⟨C1, C2, C3, C4, C5, C6⟩ := hC
  have e3 : nI i - nI i / 3 * 3 = nI (i % 3) := pk_rem (d := 3) (by omega) (by decide) (by decide)
  have hx : sp_J0_indexOf_0f7a4_0 (((pf i : Int32).toUInt32 % 65536).toInt32) = sp_X11_sortBy (pf i) := by rw [hc]; exact kd_ix0 j hj
  have hv : sp_X11_sortBy (pf i) < 0 ↔ sp_X11_sortBy (pf i) = -1 := by rw [hc]; exact kd_sort_v j hj
  have h115 : pf i = 115 → sp_X11_sortBy (pf i) = 2 := fun q => by rw [q]; decide
  have h59 : pf i = 59 → sp_X11_sortBy (pf i) = -1 := fun q => by rw [q]; decide
  unfold sp_X6_fitsThings sp_X11_go
  rw [e3, h3, if_pos (show nI 0 = 0 by decide), if_pos (show nI 0 = 0 by decide), hx]
  by_cases a : sp_X11_sortBy (pf i) = -1
  · rw [if_pos (hv.mpr a)]
    have b : ¬ pf i = 115 := fun q => by rw [h115 q] at a; exact absurd a (by decide)
    left
    refine ⟨rfl, ?_⟩
    rw [if_neg b, if_neg b, if_pos a, if_pos a]
    split <;> rfl
  · rw [if_neg (fun z => a (hv.mp z))]
    have n59 : ¬ pf i = 59 := fun q => a (h59 q)
    have hsm : ∀ (hs' : Int32), (hs' = 0 ∨ hs' = 1) → (hs = 1 → hs' = 1) → (pf i = 115 → hs' = 1 ∧ hs = 0) → kd_Sm pf (i + 1) hs' (-1) (rm, hs', 0 + 1, upd ef (2 * rm) (sp_X11_sortBy (pf i)), gf) := by
      intro hs' q0 q1 q2
      refine ⟨i + 1, ⟨fun t ht => ?_, fun t ht => ?_, fun t ht hq => ?_, fun t u ht hu hq hr' => ?_, fun q hq => ?_, q0⟩, rfl, Or.inl ⟨rfl, rfl, by show 0 + 1 = (i + 1) % 3; omega, by show rm = (i + 1 + 1) / 3; omega, by omega⟩⟩
      · show upd ef (2 * rm) _ (2 * t) = _
        by_cases e : t = rm
        · subst e; rw [pk_us, show 3 * t = i by omega]
        · rw [pk_un (by omega)]; exact C1 t (by omega)
      · show upd ef (2 * rm) _ (2 * t + 1) = _
        rw [pk_un (by omega)]; exact C2 t (by omega)
      · by_cases e : 3 * t = i
        · rw [e] at hq; exact (q2 hq).1
        · exact q1 (C3 t (by omega) hq)
      · by_cases e : 3 * t = i
        · by_cases e' : 3 * u = i
          · omega
          · rw [e] at hq
            have := C3 u (by omega) hr'
            rw [(q2 hq).2] at this
            exact absurd this (by decide)
        · by_cases e' : 3 * u = i
          · rw [e'] at hr'
            have := C3 t (by omega) hq
            rw [(q2 hr').2] at this
            exact absurd this (by decide)
          · exact C4 t u (by omega) (by omega) hq hr'
      · by_cases e : q = i
        · subst e; exact n59
        · exact C5 q (by omega)
    by_cases b : pf i = 115
    · rcases C6 with e0 | e1
      · right
        rw [if_pos b, if_pos e0, if_pos e0, if_pos b, if_neg a]
        refine ⟨by decide, kd_n1 rfl, ?_⟩
        rw [if_pos b, if_neg n59]
        exact hsm 1 (Or.inr rfl) (fun _ => rfl) (fun _ => ⟨rfl, e0⟩)
      · left
        have e1' : ¬ hs = 0 := by rw [e1]; decide
        rw [if_pos b, if_neg e1', if_neg e1', if_pos b, if_neg a]
        exact ⟨rfl, rfl⟩
    · right
      rcases C6 with e0 | e1
      · rw [if_neg b, if_pos e0, if_neg b, if_neg a]
        refine ⟨by decide, kd_n1 rfl, ?_⟩
        rw [if_neg b, if_neg n59, e0]
        exact hsm 0 (Or.inl rfl) (fun q => by rw [e0] at q; exact absurd q (by decide)) (fun q => absurd q b)
      · have e1' : ¬ hs = 0 := by rw [e1]; decide
        rw [if_neg b, if_neg e1', if_neg b, if_neg a]
        refine ⟨by decide, kd_n1 rfl, ?_⟩
        rw [if_neg b, if_neg n59, e1]
        exact hsm 1 (Or.inr rfl) (fun _ => rfl) (fun q => absurd q b)
theorem kd_step1 {pf : Nat → Int32} {i : Nat} {hs : Int32} {rm : Nat} {ef gf : Nat → Int32} (hC : kd_SmC pf i hs ef) (h3 : i % 3 = 1) (h17 : i ≤ 17) (hr : rm = (i + 1) / 3) : kd_Go pf i hs (-1) (sp_X6_fitsThings (nI i) (pf i) hs) (sp_X11_go rm hs 1 ef gf (pf i)) := by
  obtain ⟨C1, C2, C3, C4, C5, C6⟩ := hC
  have e3 : nI i - nI i / 3 * 3 = nI (i % 3) := pk_rem (d := 3) (by omega) (by decide) (by decide)
  unfold sp_X6_fitsThings sp_X11_go
  rw [e3, h3, if_neg (show ¬ nI 1 = 0 by decide), if_neg (show ¬ nI 1 = 0 by decide), if_pos (show nI 1 = 1 by decide), if_pos (show nI 1 = 1 by decide)]
  rcases kd_bothR (pf i) 49 57 49 57 49 57 (by decide) (by decide) (by decide) (by decide) with ⟨c, d⟩ | ⟨j, c1, c2, -, e, c3, c4, d⟩
  · left
    refine ⟨?_, d⟩
    by_cases q : pf i < 49
    · rw [if_pos q]
    · rw [if_neg q, if_pos (c.resolve_left q)]
  · right
    have n59 : ¬ pf i = 59 := by rw [e]; exact kd_nql (a := j) (b := 59) (m := 59) rfl (by omega) (by omega) (by decide)
    have n115 : ¬ pf i = 115 := by rw [e]; exact kd_nql (a := j) (b := 115) (m := 115) rfl (by omega) (by omega) (by decide)
    rw [if_neg c3, if_neg c4]
    refine ⟨by decide, kd_n1 d, ?_⟩
    rw [if_neg n115, if_neg n59]
    refine ⟨i + 1, ⟨fun t ht => ?_, fun t ht => ?_, fun t ht hq => C3 t (by omega) hq, fun t u ht hu hq hq' => C4 t u (by omega) (by omega) hq hq', fun q hq => ?_, C6⟩, rfl, Or.inl ⟨rfl, rfl, by show 1 + 1 = (i + 1) % 3; omega, by show rm + 1 = (i + 1 + 1) / 3; omega, by omega⟩⟩
    · show upd ef (2 * rm + 1) _ (2 * t) = _
      rw [pk_un (by omega)]; exact C1 t (by omega)
    · show upd ef (2 * rm + 1) _ (2 * t + 1) = _
      by_cases e' : t = rm
      · subst e'; rw [pk_us, show 3 * t + 1 = i by omega]
      · rw [pk_un (by omega)]; exact C2 t (by omega)
    · by_cases e' : q = i
      · subst e'; exact n59
      · exact C5 q (by omega)
theorem kd_step2 {pf : Nat → Int32} {i : Nat} {hs : Int32} {rm : Nat} {ef gf : Nat → Int32} (hC : kd_SmC pf i hs ef) (h3 : i % 3 = 2) (h17 : i ≤ 17) (hr : rm = (i + 1) / 3) : kd_Go pf i hs (-1) (sp_X6_fitsThings (nI i) (pf i) hs) (sp_X11_go rm hs 2 ef gf (pf i)) := by
  obtain ⟨C1, C2, C3, C4, C5, C6⟩ := hC
  have e3 : nI i - nI i / 3 * 3 = nI (i % 3) := pk_rem (d := 3) (by omega) (by decide) (by decide)
  have e4 : nI i / 3 + 1 = nI rm := by
    rw [show nI i / 3 = nI (i / 3) from pk_div (d := 3) (by omega) (by decide) (by decide), nI_1]
    exact congrArg nI (by omega)
  unfold sp_X6_fitsThings sp_X11_go
  rw [e3, h3, e4, if_neg (show ¬ nI 2 = 0 by decide), if_neg (show ¬ nI 2 = 0 by decide), if_neg (show ¬ nI 2 = 1 by decide), if_neg (show ¬ nI 2 = 1 by decide), if_pos (show nI 2 = 2 by decide)]
  by_cases a : pf i = 44
  · have n59 : ¬ pf i = 59 := by rw [a]; decide
    have n115 : ¬ pf i = 115 := by rw [a]; decide
    rw [if_pos a, if_pos a]
    by_cases b : rm < 6
    · right
      rw [if_pos (kd_ltl (b := 6) (m := 6) rfl b (by decide)), if_neg (kd_ger (b := 6) (m := 6) rfl b (by decide))]
      refine ⟨by decide, kd_n1 rfl, ?_⟩
      rw [if_neg n115, if_neg n59]
      refine ⟨i + 1, ⟨fun t ht => C1 t (by omega), fun t ht => C2 t (by omega), fun t ht hq => C3 t (by omega) hq, fun t u ht hu hq hq' => C4 t u (by omega) (by omega) hq hq', fun q hq => ?_, C6⟩, rfl, Or.inl ⟨rfl, rfl, by show 0 = (i + 1) % 3; omega, by show rm = (i + 1 + 1) / 3; omega, by omega⟩⟩
      by_cases e' : q = i
      · subst e'; exact n59
      · exact C5 q (by omega)
    · left
      rw [if_neg (kd_nltl (b := 6) (m := 6) rfl (by omega) (by omega)), if_neg n59, if_pos (kd_ler (a := 6) (m := 6) rfl (by omega) (by omega))]
      exact ⟨rfl, rfl⟩
  · rw [if_neg a, if_neg a]
    by_cases b : pf i = 59
    · have n115 : ¬ pf i = 115 := by rw [b]; decide
      rw [if_pos b, if_pos b]
      by_cases c : rm < 2
      · left
        rw [if_pos (kd_ltl (b := 2) (m := 2) rfl c (by decide)), if_pos (kd_lel (b := 1) (m := 1) rfl (by omega) (by decide))]
        exact ⟨rfl, rfl⟩
      · right
        rw [if_neg (kd_nltl (b := 2) (m := 2) rfl (by omega) (by omega)), if_neg (kd_gel (a := 1) (m := 1) rfl (by omega) (by omega))]
        refine ⟨by decide, kd_n1 rfl, ?_⟩
        rw [if_neg n115, if_pos b]
        exact ⟨i, ⟨C1, C2, C3, C4, C5, C6⟩, rfl, Or.inr ⟨rfl, h3, by omega, h17, hr, by omega, by omega, by show 3 = i + 1 + 2 - i; omega, b, fun q => absurd q (by omega), fun q => absurd q (by omega)⟩⟩
    · left
      rw [if_neg b, if_neg b]
      exact ⟨rfl, rfl⟩
theorem kd_stepB {pf : Nat → Int32} {i j e : Nat} {hs : Int32} {rm zt : Nat} {ef gf : Nat → Int32} (hj : j < 127) (hc : pf i = nI j) (hC : kd_SmC pf e hs ef) (h3 : e % 3 = 2) (h5 : 5 ≤ e) (h17 : e ≤ 17) (hr : rm = (e + 1) / 3) (hi : e < i) (hi3 : i ≤ e + 3) (hz : zt = i + 2 - e) (h59 : pf e = 59) (k0 : e + 2 ≤ i → gf 0 = sp_X11_kindBy (pf (e + 1)) ∧ ¬ sp_X11_kindBy (pf (e + 1)) = -1) : kd_Go pf i hs (nI e) (sp_X6_fitsBehind (nI i - nI e) (pf i)) (sp_X11_go rm hs zt ef gf (pf i)) := by
  have hx : sp_J0_indexOf_0f7a4_1 (((pf i : Int32).toUInt32 % 65536).toInt32) = sp_X11_kindBy (pf i) := by rw [hc]; exact kd_ix1 j hj
  have hv : sp_X11_kindBy (pf i) < 0 ↔ sp_X11_kindBy (pf i) = -1 := by rw [hc]; exact kd_kind_v j hj
  have h115 : ¬ sp_X11_kindBy (pf i) = -1 → ¬ pf i = 115 := fun z q => z (by rw [q]; decide)
  have h59' : ¬ sp_X11_kindBy (pf i) = -1 → ¬ pf i = 59 := fun z q => z (by rw [q]; decide)
  unfold sp_X6_fitsBehind
  rw [pk_sub (by omega), hx]
  rcases (show i = e + 1 ∨ i = e + 2 ∨ i = e + 3 by omega) with q | q | q
  · have hz3 : zt = 3 := by omega
    subst hz3
    rw [show i - e = 1 by omega, if_neg (show ¬ (2 : Int32) < nI 1 by decide)]
    unfold sp_X11_go
    rw [if_neg (show ¬ nI 3 = 0 by decide), if_neg (show ¬ nI 3 = 1 by decide), if_neg (show ¬ nI 3 = 2 by decide), if_pos (show nI 3 = 3 by decide)]
    by_cases a : sp_X11_kindBy (pf i) = -1
    · left
      rw [if_pos (hv.mpr a), if_pos a]
      exact ⟨rfl, rfl⟩
    · right
      rw [if_neg (fun z => a (hv.mp z)), if_neg a]
      refine ⟨by decide, kd_n1 rfl, ?_⟩
      rw [if_neg (h115 a), if_neg (h59' a)]
      refine ⟨e, hC, rfl, Or.inr ⟨rfl, h3, h5, h17, hr, by omega, by omega, by show 3 + 1 = i + 1 + 2 - e; omega, h59, fun _ => ?_, fun z => absurd z (by omega)⟩⟩
      rw [← show i = e + 1 from q]
      exact ⟨rfl, a⟩
  · have hz3 : zt = 4 := by omega
    subst hz3
    rw [show i - e = 2 by omega, if_neg (show ¬ (2 : Int32) < nI 2 by decide)]
    unfold sp_X11_go
    rw [if_neg (show ¬ nI 4 = 0 by decide), if_neg (show ¬ nI 4 = 1 by decide), if_neg (show ¬ nI 4 = 2 by decide), if_neg (show ¬ nI 4 = 3 by decide), if_pos (show nI 4 = 4 by decide)]
    by_cases a : sp_X11_kindBy (pf i) = -1
    · left
      rw [if_pos (hv.mpr a), if_pos a]
      exact ⟨rfl, rfl⟩
    · right
      rw [if_neg (fun z => a (hv.mp z)), if_neg a]
      refine ⟨by decide, kd_n1 rfl, ?_⟩
      rw [if_neg (h115 a), if_neg (h59' a)]
      refine ⟨e, hC, rfl, Or.inr ⟨rfl, h3, h5, h17, hr, by omega, by omega, by show 4 + 1 = i + 1 + 2 - e; omega, h59, fun _ => ?_, fun _ => ?_⟩⟩
      · exact k0 (by omega)
      · rw [← show i = e + 2 from q]
        exact ⟨rfl, a⟩
  · have hz3 : zt = 5 := by omega
    subst hz3
    left
    rw [show i - e = 3 by omega, if_pos (show (2 : Int32) < nI 3 by decide)]
    unfold sp_X11_go
    rw [if_neg (show ¬ nI 5 = 0 by decide), if_neg (show ¬ nI 5 = 1 by decide), if_neg (show ¬ nI 5 = 2 by decide), if_neg (show ¬ nI 5 = 3 by decide), if_neg (show ¬ nI 5 = 4 by decide)]
    exact ⟨rfl, rfl⟩
theorem kd_en {e : Nat} (h : e ≤ 17) : ¬ nI e = (-1 : Int32) := fun q => by
  have h1 := nI_toInt (n := e) (by omega)
  rw [q] at h1
  have : ((-1 : Int32)).toInt = -1 := by decide
  omega
theorem kd_stepAll {pf : Nat → Int32} {i j : Nat} {hs en : Int32} {st : Nat × Int32 × Nat × (Nat → Int32) × (Nat → Int32)} (hj : j < 127) (hc : pf i = nI j) (h : kd_Sm pf i hs en st) : kd_Go pf i hs en (if en = (-1) then sp_X6_fitsThings (nI i) (pf i) hs else sp_X6_fitsBehind (nI i - en) (pf i)) (sp_X11_go st.1 st.2.1 st.2.2.1 st.2.2.2.1 st.2.2.2.2 (pf i)) := by
  obtain ⟨rm, rs, zt, ef, gf⟩ := st
  obtain ⟨e, hC, h1, hA | hB⟩ := h
  · obtain ⟨he, hei, hz, hr, h17⟩ := hA
    dsimp only at hC h1 hz hr ⊢
    subst he hei h1
    rw [if_pos rfl]
    rcases (show e % 3 = 0 ∨ e % 3 = 1 ∨ e % 3 = 2 by omega) with q | q | q
    · rw [hz, q]; exact kd_step0 hj hc hC q h17 hr
    · rw [hz, q]; exact kd_step1 hC q h17 hr
    · rw [hz, q]; exact kd_step2 hC q h17 hr
  · obtain ⟨he, h3, h5, h17, hr, hi, hi3, hz, h59, k0, -⟩ := hB
    dsimp only at hC h1 hz hr k0 ⊢
    subst he h1
    rw [if_neg (kd_en h17)]
    exact kd_stepB hj hc hC h3 h5 h17 hr hi hi3 hz h59 k0
theorem kd_sim {pf : Nat → Int32} {n : Nat} (hn : n ≤ 22) (hc : kd_Cd pf n) : ∀ (k i : Nat) (hs en : Int32) (st : Nat × Int32 × Nat × (Nat → Int32) × (Nat → Int32)), i + k = n → kd_Sm pf i hs en st → (kd_fp pf n k i hs en = (kd_ff pf k i st).1 ∧ (kd_ff pf k i st).1 ≤ n ∧ ((kd_ff pf k i st).1 = n → ∃ hs' en', kd_Sm pf n hs' en' (kd_ff pf k i st).2))
  | 0, i, hs, en, st, e, h => by
    rw [kd_fp, kd_ff]
    dsimp only
    have e : i = n := e
    subst e
    exact ⟨rfl, Nat.le_refl _, fun _ => ⟨hs, en, h⟩⟩
  | k + 1, i, hs, en, st, e, h => by
    obtain ⟨j, hj1, hj2, hj⟩ := hc i (by omega)
    have hg := kd_stepAll (by omega) hj h
    rw [kd_fp, kd_ff, kd_codeAt hn (by omega)]
    rcases hg with ⟨a, b⟩ | ⟨a, b, c⟩
    · rw [if_pos a, if_pos b]
      dsimp only
      exact ⟨rfl, by omega, fun q => absurd q (by omega)⟩
    · rw [if_neg a, if_neg b]
      exact kd_sim hn hc k (i + 1) _ _ _ (by omega) c
theorem kd_Sm0 (pf : Nat → Int32) (ef gf : Nat → Int32) : kd_Sm pf 0 0 (-1) (0, 0, 0, ef, gf) :=
  ⟨0, ⟨fun t h => absurd h (by omega), fun t h => absurd h (by omega), fun t h => absurd h (by omega), fun t u h => absurd h (by omega), fun q h => absurd h (by omega), Or.inl rfl⟩, rfl, Or.inl ⟨rfl, rfl, rfl, rfl, by omega⟩⟩
theorem kd_e_fault {pf : Nat → Int32} {n : Nat} (hn : n ≤ 22) (hc : kd_Cd pf n) (ef gf : Nat → Int32) : sp_X10_fault pf n = (kd_ffr pf n ef gf).1 := by
  have := (kd_sim hn hc n 0 0 (-1) (0, 0, 0, ef, gf) (by omega) (kd_Sm0 pf ef gf)).1
  unfold sp_X10_fault kd_ffr
  rw [this]
/-- what is read of a hall -/
def kd_Rd (pf : Nat → Int32) (n : Nat) (S : Int32 × Nat × Int32 × Nat × (Nat → Int32) × (Nat → Int32)) : Prop := ∃ q, n = 3 * q + 2 ∧ 2 ≤ q ∧ q ≤ 6 ∧ S.2.1 = q ∧ (∀ t, t < q → S.2.2.2.2.1 (2 * t) = sp_X11_sortBy (pf (3 * t)) ∧ S.2.2.2.2.1 (2 * t + 1) = pf (3 * t + 1) - 48) ∧ (∀ t u, t < q → u < q → pf (3 * t) = 115 → pf (3 * u) = 115 → t = u) ∧ S.2.2.2.2.2 0 = sp_X11_kindBy (pf (n - 2)) ∧ ¬ sp_X11_kindBy (pf (n - 2)) = -1 ∧ S.2.2.2.2.2 1 = sp_X11_kindBy (pf (n - 1)) ∧ ¬ sp_X11_kindBy (pf (n - 1)) = -1
theorem kd_hall_cases {pf : Nat → Int32} {n : Nat} (hn : n ≤ 22) (hc : kd_Cd pf n) (ef gf : Nat → Int32) : (sp_X6_isHall pf n = 0 ∧ ((kd_ffr pf n ef gf).1 < nI n ∨ (¬ (kd_ffr pf n ef gf).1 < nI n ∧ ¬ nI (kd_ffr pf n ef gf).2.2.2.1 = 5))) ∨ (sp_X6_isHall pf n = 1 ∧ ¬ (kd_ffr pf n ef gf).1 < nI n ∧ nI (kd_ffr pf n ef gf).2.2.2.1 = 5 ∧ kd_Rd pf n (kd_ffr pf n ef gf)) := by
  obtain ⟨s1, s2, s3⟩ := kd_sim hn hc n 0 0 (-1) (0, 0, 0, ef, gf) (by omega) (kd_Sm0 pf ef gf)
  unfold kd_ffr sp_X6_isHall
  rw [s1]
  generalize kd_ff pf n 0 (0, 0, 0, ef, gf) = S at s2 s3 ⊢
  obtain ⟨f, rm, rs, zt, ef', gf'⟩ := S
  dsimp only at s2 s3 ⊢
  by_cases hf : f = n
  · subst hf
    obtain ⟨hs', en', e, hC, h1, hA | hB⟩ := s3 rfl
    · obtain ⟨he, hei, hz, hr, h17⟩ := hA
      dsimp only at hz
      left
      refine ⟨?_, Or.inr ⟨nI_nlt (Nat.le_refl f) (by omega), ?_⟩⟩
      · rw [if_neg]
        intro q
        by_cases h3 : 3 ≤ f
        · rw [show (nI f - 3) = nI (f - 3) from pk_sub (b := 3) h3, kd_codeAt hn (by omega)] at q
          exact hC.2.2.2.2.1 (f - 3) (by omega) q
        · unfold sp_X6_codeAt sp_X10_isBelow at q
          rw [if_pos (show nI f - 3 < 0 from pk_sneg (a := f) (b := 3) (by decide) (by omega)), if_pos rfl] at q
          exact absurd q (by decide)
      · rw [hz]
        exact kd_nql (b := 5) (m := 5) rfl (by omega) (by omega) (by decide)
    · obtain ⟨he, h3, h5, h17, hr, hi, hi3, hz, h59, k0, k1⟩ := hB
      dsimp only at hz hr k0 k1
      have hcode : sp_X6_codeAt pf f (nI f - 3) = pf (f - 3) := by rw [show (nI f - 3) = nI (f - 3) from pk_sub (b := 3) (by omega), kd_codeAt hn (by omega)]
      rw [hcode]
      by_cases q : f = e + 3
      · right
        obtain ⟨a0, b0⟩ := k0 (by omega)
        obtain ⟨a1, b1⟩ := k1 (by omega)
        rw [show f - 3 = e by omega, if_pos h59, if_pos rfl]
        refine ⟨rfl, nI_nlt (Nat.le_refl f) (by omega), by rw [hz, q, show e + 3 + 2 - e = 5 by omega]; rfl, (e + 1) / 3, by omega, by omega, by omega, hr, fun t ht => ⟨hC.1 t (by omega), hC.2.1 t (by omega)⟩, fun t u ht hu => hC.2.2.2.1 t u (by omega) (by omega), ?_, ?_, ?_, ?_⟩
        · rw [show f - 2 = e + 1 by omega]; exact a0
        · rw [show f - 2 = e + 1 by omega]; exact b0
        · rw [show f - 1 = e + 2 by omega]; exact a1
        · rw [show f - 1 = e + 2 by omega]; exact b1
      · left
        refine ⟨if_neg (hC.2.2.2.2.1 (f - 3) (by omega)), Or.inr ⟨nI_nlt (Nat.le_refl f) (by omega), ?_⟩⟩
        rw [hz]
        exact kd_nql (b := 5) (m := 5) rfl (by omega) (by omega) (by decide)
  · left
    refine ⟨?_, Or.inl (nI_lt (by omega) (by omega))⟩
    split
    · rw [if_neg (kd_nq hf (by omega) (by omega))]
    · rfl

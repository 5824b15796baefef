/-! what holds between both at every call -/
def kd_Rel (k0 k1 : Nat) (ik : Int32) (nh : Nat) (pf : Nat → Int32) (pn : Nat) (wf : Nat → Int32) (wt : Int32) (T th sm : Nat) (sf : Nat → Int32) (R : Nat → Nat → Int32) (T2 th2 sm2 : Nat) (sf2 : Nat → Int32) (R2 : Nat → Nat → Int32) (kf rf qr : Nat → Int32) (kh : Int32) (N : Nat) : Prop :=
  (k0 < 5 ∧ k1 < 5 ∧ pn ≤ 22 ∧ kd_Cd pf pn ∧ T ≤ 6 ∧ (1 ≤ T → kd_Od k0 k1 wf wt)) ∧ (th ≤ 30 ∧ sm ≤ 8 ∧ kd_Sn sf sm ∧ kd_Rw T R rf ∧ kd_S1 R T ∧ nh ≤ N ∧ kf 0 = nI k0 ∧ kf 1 = nI k1) ∧ (kd_Z R ∧ kd_Z R2) ∧ T2 ≤ 6 ∧ ((ik = 0 ∧ (kh = -1 ∨ ∃ i, i < nh ∧ kh = nI i)) ∨ (ik = 1 ∧ kh = nI nh ∧ T2 = T ∧ th2 ≤ 30 ∧ sm2 ≤ 8 ∧ kd_Sn sf2 sm2 ∧ kd_S1 R2 T ∧ kd_Rw T R2 qr))
theorem kd_hkf {kf : Nat → Int32} {k0 k1 : Nat} (h0 : kf 0 = nI k0) (h1 : kf 1 = nI k1) : ∀ w, w < 2 → kf w = nI (kd_kv k0 k1 w) := fun w hw => by
  rcases (show w = 0 ∨ w = 1 by omega) with rfl | rfl
  · exact h0
  · exact h1
section KDREL
variable {k0 k1 : Nat} {ik : Int32} {nh : Nat} {pf : Nat → Int32} {pn : Nat} {wf : Nat → Int32} {wt : Int32} {T th sm : Nat} {sf : Nat → Int32} {R : Nat → Nat → Int32} {T2 th2 sm2 : Nat} {sf2 : Nat → Int32} {R2 : Nat → Nat → Int32} {kf rf qr : Nat → Int32} {kh : Int32} {N : Nat} {go go2 : Int32} {ra rb : Int32}
theorem kd_Rel_up (h : kd_Rel k0 k1 ik nh pf pn wf wt T th sm sf R T2 th2 sm2 sf2 R2 kf rf qr kh N) : kd_Rel k0 k1 ik nh pf pn wf wt T th sm sf R T2 th2 sm2 sf2 R2 kf rf qr kh (N + 1) := by
  obtain ⟨a, ⟨b1, b2, b3, b4, b5, b6, b7⟩, c⟩ := h
  exact ⟨a, ⟨b1, b2, b3, b4, b5, by omega, b7⟩, c⟩
theorem kd_Cd_letter (h : kd_Cd pf pn) (p0 : Int32) : kd_Cd (sp_X10_letter pf pn p0).2.1 (sp_X10_letter pf pn p0).2.2 := by
  unfold sp_X10_letter sp_X6_push
  rcases kd_bothR p0 1 126 1 126 1 126 (by decide) (by decide) (by decide) (by decide) with ⟨a, b⟩ | ⟨j, h1, h2, -, h3, h4, h5, h6⟩
  · by_cases q : p0 < 1
    · rw [if_pos q]; exact h
    · rw [if_neg q, if_neg (fun z => absurd (a.resolve_left q) (Int32.not_lt.mpr z))]; exact h
  · rw [if_neg h4, if_pos (Int32.not_lt.mp h5)]
    by_cases q : sp_X6_isFull pn = 0
    · rw [if_pos q, if_pos q]
      intro i hi
      have hi : i < pn + 1 := hi
      show ∃ j : Nat, 1 ≤ j ∧ j ≤ 126 ∧ upd pf pn p0 i = nI j
      by_cases e : i = pn
      · subst e; rw [pk_us]; exact ⟨j, h1, h2, h3⟩
      · rw [pk_un e]; exact h i (by omega)
    · rw [if_neg q]; exact h
theorem kd_c_letter {p0 : Int32} {pf1 qf1 : Nat → Int32} {pn1 qn1 : Nat} (h : kd_Rel k0 k1 ik nh pf pn wf wt T th sm sf R T2 th2 sm2 sf2 R2 kf rf qr kh N) (ha : (ra, pf1, pn1) = sp_X10_letter pf pn p0) (hb : (rb, qn1, qf1) = sp_X11_letter pn pf p0) : ra = rb ∧ pf1 = qf1 ∧ pn1 = qn1 ∧ kd_Rel k0 k1 ik nh pf1 pn1 wf wt T th sm sf R T2 th2 sm2 sf2 R2 kf rf qr kh (N + 1) := by
  have h' := kd_Rel_up h
  obtain ⟨⟨a1, a2, a3, a4, a5⟩, b, c⟩ := h'
  obtain ⟨e1, e2, e3, e4⟩ := kd_e_letter pf a3 p0
  have e5 := kd_Cd_letter a4 p0
  obtain ⟨x1, x2, x3⟩ := kd_eq3 ha
  obtain ⟨y1, y2, y3⟩ := kd_eq3 hb
  refine ⟨by rw [x1, y1, e1], by rw [x2, y3, e2], by rw [x3, y2, e3], ⟨a1, a2, by rw [x3]; exact e4, by rw [x2, x3]; exact e5, a5⟩, b, c⟩
theorem kd_c_blank {pn1 qn1 : Nat} (h : kd_Rel k0 k1 ik nh pf pn wf wt T th sm sf R T2 th2 sm2 sf2 R2 kf rf qr kh N) (ha : (ra, pn1) = sp_X10_blank pn) (hb : (rb, qn1) = sp_X11_blank pn) : ra = rb ∧ pn1 = qn1 ∧ kd_Rel k0 k1 ik nh pf pn1 wf wt T th sm sf R T2 th2 sm2 sf2 R2 kf rf qr kh (N + 1) := by
  have h' := kd_Rel_up h
  obtain ⟨⟨a1, a2, a3, a4, a5⟩, b, c⟩ := h'
  have ha : (ra, pn1) = (nI pn, 0) := ha
  have hb : (rb, qn1) = (nI pn, 0) := hb
  obtain ⟨x1, x2⟩ := kd_eq2 ha
  obtain ⟨y1, y2⟩ := kd_eq2 hb
  refine ⟨by rw [x1, y1], by rw [x2, y2], ⟨a1, a2, by rw [x2]; exact Nat.zero_le _, by rw [x2]; exact fun i hi => absurd hi (Nat.not_lt_zero i), a5⟩, b, c⟩
theorem kd_c_see {p0 : Int32} {sf1 uf1 : Nat → Int32} {sm1 sn1 : Nat} (h : kd_Rel k0 k1 ik nh pf pn wf wt T th sm sf R T2 th2 sm2 sf2 R2 kf rf qr kh N) (ha : (ra, sm1, sf1) = sp_X10_see sm sf p0) (hb : (rb, sn1, uf1) = sp_X11_see sm sf p0) : ra = rb ∧ sm1 = sn1 ∧ sf1 = uf1 ∧ kd_Rel k0 k1 ik nh pf pn wf wt T th sm1 sf1 R T2 th2 sm2 sf2 R2 kf rf qr kh (N + 1) := by
  have h' := kd_Rel_up h
  obtain ⟨a, ⟨b1, b2, b3, b4⟩, c⟩ := h'
  obtain ⟨e1, e2, e3⟩ := kd_e_see sf b2 p0
  rw [← e1, ← ha] at hb
  rw [← ha] at e2 e3
  obtain ⟨y1, y2, y3⟩ := kd_eq3 hb
  exact ⟨y1.symm, y2.symm, y3.symm, a, ⟨b1, e2, e3 b3, b4⟩, c⟩
theorem kd_c_forget {sm1 sn1 : Nat} (h : kd_Rel k0 k1 ik nh pf pn wf wt T th sm sf R T2 th2 sm2 sf2 R2 kf rf qr kh N) (ha : (ra, sm1) = sp_X10_forget sm) (hb : (rb, sn1) = sp_X11_forget sm) : ra = rb ∧ sm1 = sn1 ∧ kd_Rel k0 k1 ik nh pf pn wf wt T th sm1 sf R T2 th2 sm2 sf2 R2 kf rf qr kh (N + 1) := by
  have h' := kd_Rel_up h
  obtain ⟨a, ⟨b1, b2, b3, b4⟩, c⟩ := h'
  have ha : (ra, sm1) = (nI sm, 0) := ha
  have hb : (rb, sn1) = (nI sm, 0) := hb
  obtain ⟨x1, x2⟩ := kd_eq2 ha
  obtain ⟨y1, y2⟩ := kd_eq2 hb
  refine ⟨by rw [x1, y1], by rw [x2, y2], a, ⟨b1, by rw [x2]; exact Nat.zero_le _, by rw [x2]; exact fun i hi => absurd hi (Nat.not_lt_zero i), b4⟩, c⟩
theorem kd_c_play {tf bf : Nat → Int32} (hB : kd_Tb tf bf) {p0 p1 p2 p3 go1 gp1 : Int32} {th1 tj1 : Nat} {R1 : Nat → Nat → Int32} {rf1 : Nat → Int32} (h : kd_Rel k0 k1 ik nh pf pn wf wt T th sm sf R T2 th2 sm2 sf2 R2 kf rf qr kh N) (ha : (ra, go1, th1, R1) = sp_X10_play k0 k1 T go th R p0 p1 p2 p3) (hb : (rb, gp1, tj1, rf1) = sp_X11_play T go th tf bf rf p0 p1 p2 p3 (kd_kv k0 k1)) : ra = rb ∧ go1 = gp1 ∧ th1 = tj1 ∧ kd_Rel k0 k1 ik nh pf pn wf wt T th1 sm sf R1 T2 th2 sm2 sf2 R2 kf rf1 qr kh (N + 1) := by
  have h' := kd_Rel_up h
  obtain ⟨⟨a1, a2, a3, a4, a5, a6⟩, ⟨b1, b2, b3, b4, b5, b6⟩, ⟨z1, z2⟩, c⟩ := h'
  have hp := kd_e_play hB b4 z1 a5 a1 a2 b5 b1 go p0 p1 p2 p3
  rw [← ha, ← hb] at hp
  obtain ⟨e1, e2, e3, e4, e5, e6, e7⟩ := hp
  exact ⟨e1, e2, e3, ⟨a1, a2, a3, a4, a5, a6⟩, ⟨e4, b2, b3, e5, e6, b6⟩, ⟨e7, z2⟩, c⟩
theorem kd_c_halls {p0 p1 p2 se se1 : Int32} {sd sd1 : Int64} {vf vf1 rf1 : Nat → Int32} (h : kd_Rel k0 k1 ik nh pf pn wf wt T th sm sf R T2 th2 sm2 sf2 R2 kf rf qr kh N) (ha : (ra, sd1) = kd_halls k0 k1 T R go sd p0 p1 p2) (hb : (rb, rf1, se1, vf1) = kd_mhs (kd_kv k0 k1) T rf vf go se p0 p1 p2) : ra = rb ∧ kd_Rel k0 k1 ik nh pf pn wf wt T th sm sf R T2 th2 sm2 sf2 R2 kf rf1 qr kh (N + 1) := by
  have h' := kd_Rel_up h
  obtain ⟨⟨a1, a2, a3, a4, a5, a6⟩, ⟨b1, b2, b3, b4, b5, b6⟩, c⟩ := h'
  have hp := kd_e_halls b4 a5 a1 a2 go se sd vf p0 p1 p2
  rw [← ha, ← hb] at hp
  exact ⟨hp.1, ⟨a1, a2, a3, a4, a5, a6⟩, ⟨b1, b2, b3, hp.2, b5, b6⟩, c⟩
theorem kd_c_image {ik1 kh1 go3 gp3 : Int32} {T3 th3 sm3 tj3 sn3 : Nat} {sf3 uf3 qr1 : Nat → Int32} {R3 : Nat → Nat → Int32} (h : kd_Rel k0 k1 ik nh pf pn wf wt T th sm sf R T2 th2 sm2 sf2 R2 kf rf qr kh N) (ha : (ra, ik1, T3, go3, th3, sm3, sf3, R3) = sp_X10_image ik T go th sm sf R T2 go2 th2 sm2 sf2 R2) (hb : (rb, kh1, gp3, tj3, sn3, qr1, uf3) = sp_X11_image T go th nh sm kh go2 th2 sm2 rf sf qr sf2) : ra = rb ∧ go3 = gp3 ∧ th3 = tj3 ∧ sm3 = sn3 ∧ sf3 = uf3 ∧ kd_Rel k0 k1 ik1 nh pf pn wf wt T th sm sf R T3 th3 sm3 sf3 R3 kf rf qr1 kh1 (N + 1) := by
  have h' := kd_Rel_up h
  obtain ⟨⟨a1, a2, a3, a4, a5, a6⟩, ⟨b1, b2, b3, b4, b5, b6⟩, ⟨z1, z2⟩, c⟩ := h'
  unfold sp_X10_image at ha
  unfold sp_X11_image at hb
  rcases kd_lacks a5 with ⟨-, c1, d1⟩ | ⟨-, c1, d1⟩
  · rw [if_pos d1] at ha
    rw [if_neg (kd_n1 c1)] at hb
    cases ha
    cases hb
    exact ⟨rfl, rfl, rfl, rfl, rfl, ⟨a1, a2, a3, a4, a5, a6⟩, ⟨b1, b2, b3, b4, b5, b6⟩, ⟨z1, z2⟩, c⟩
  · rw [if_neg (kd_n1 d1)] at ha
    rw [if_pos c1] at hb
    have ha : (ra, ik1, T3, go3, th3, sm3, sf3, R3) = (nI th, 1, T, go, th, sm, kd_cs sf2 sf 8, kd_cp R2 R 6) := ha
    cases ha
    cases hb
    exact ⟨rfl, rfl, rfl, rfl, rfl, ⟨a1, a2, a3, a4, a5, a6⟩, ⟨b1, b2, b3, b4, b5, b6⟩, ⟨z1, kd_Z_cp z1⟩, a5, Or.inr ⟨rfl, rfl, rfl, b1, b2, kd_Sn_cs b2 b3, kd_S1_cp a5 b5, kd_Rw_cp a5 b4⟩⟩
theorem kd_c_restore {go1 gp1 : Int32} {T1 th1 sm1 tj1 sn1 : Nat} {sf1 uf1 rf1 : Nat → Int32} {R1 : Nat → Nat → Int32} (h : kd_Rel k0 k1 ik nh pf pn wf wt T th sm sf R T2 th2 sm2 sf2 R2 kf rf qr kh N) (hN : N ≤ 1000) (ha : (ra, T1, go1, th1, sm1, sf1, R1) = sp_X10_restore ik T go th sm sf R T2 go2 th2 sm2 sf2 R2) (hb : (rb, gp1, tj1, sn1, rf1, uf1) = sp_X11_restore go th nh sm kh go2 th2 sm2 rf sf qr sf2) : ra = rb ∧ T = T1 ∧ go1 = gp1 ∧ th1 = tj1 ∧ sm1 = sn1 ∧ sf1 = uf1 ∧ kd_Rel k0 k1 ik nh pf pn wf wt T1 th1 sm1 sf1 R1 T2 th2 sm2 sf2 R2 kf rf1 qr kh (N + 1) := by
  have h' := kd_Rel_up h
  obtain ⟨⟨a1, a2, a3, a4, a5, a6⟩, ⟨b1, b2, b3, b4, b5, b6, b7⟩, ⟨z1, z2⟩, c3, c2⟩ := h'
  unfold sp_X10_restore at ha
  unfold sp_X11_restore at hb
  rcases c2 with ⟨d1, d2⟩ | ⟨d1, d2, d3, d4, d5, d6, d7, d8⟩
  · have hne : ¬ kh = nI nh := by
      rcases d2 with e | ⟨i, hi, e⟩
      · rw [e]
        intro q
        have h1 := nI_toInt (n := nh) (by omega)
        rw [← q] at h1
        have : ((-1 : Int32)).toInt = -1 := by decide
        omega
      · rw [e]; exact kd_nq (by omega) (by omega) (by omega)
    rw [if_pos d1] at ha
    rw [if_neg hne] at hb
    cases ha
    cases hb
    exact ⟨rfl, rfl, rfl, rfl, rfl, rfl, ⟨a1, a2, a3, a4, a5, a6⟩, ⟨b1, b2, b3, b4, b5, b6, b7⟩, ⟨z1, z2⟩, c3, Or.inl ⟨d1, d2⟩⟩
  · rw [if_neg (kd_n1 d1)] at ha
    rw [if_pos d2] at hb
    have ha : (ra, T1, go1, th1, sm1, sf1, R1) = (nI th2, T2, go2, th2, sm2, kd_cs sf sf2 8, kd_cp R R2 6) := ha
    cases ha
    cases hb
    subst d3
    exact ⟨rfl, rfl, rfl, rfl, rfl, rfl, ⟨a1, a2, a3, a4, a5, a6⟩, ⟨d4, d5, kd_Sn_cs d5 d6, kd_Rw_cp a5 d8, kd_S1_cp a5 d7, b6, b7⟩, ⟨kd_Z_cp z2, z2⟩, c3, Or.inr ⟨d1, d2, rfl, d4, d5, d6, d7, d8⟩⟩
theorem kd_hhq (h : kd_Rel k0 k1 ik nh pf pn wf wt T th sm sf R T2 th2 sm2 sf2 R2 kf rf qr kh N) : ¬ sp_X6_isHall pf pn = 0 → pn = 3 * (pn / 3) + 2 ∧ pn / 3 ≤ 6 := fun q => by
  obtain ⟨⟨a1, a2, a3, a4, a5, a6⟩, -, -⟩ := h
  rcases kd_hall_cases a3 a4 (fun _ => 0) (fun _ => 0) with ⟨z, -⟩ | ⟨-, -, -, i, e1, -, e3, -⟩
  · exact absurd z q
  · exact ⟨by omega, by omega⟩
theorem kd_c_hall {k01 k11 : Nat} {ik1 : Int32} {nh1 pn1 : Nat} {wf1 : Nat → Int32} {wt1 : Int32} {T1 : Nat} {go1 : Int32} {th1 sm1 : Nat} {R1 : Nat → Nat → Int32} {rm1 : Nat} {rs1 : Int32} {zt1 : Nat} {ef gf ef1 gf1 kf1 rf1 : Nat → Int32} {Tm : Nat} {gm : Int32} {tm smm nm qm : Nat} (h : kd_Rel k0 k1 ik nh pf pn wf wt T th sm sf R T2 th2 sm2 sf2 R2 kf rf qr kh N) (ha : (ra, k01, k11, ik1, nh1, pn1, wf1, wt1, T1, go1, th1, sm1, R1) = sp_X10_hall k0 k1 ik nh pf pn wf wt T go th sm R) (hb : (rb, rm1, rs1, zt1, ef1, gf1, Tm, gm, tm, smm, nm, qm, kf1, rf1) = kd_mhall pf pn ef gf T go th sm nh kf rf) : ra = rb ∧ T1 = Tm ∧ go1 = gm ∧ th1 = tm ∧ sm1 = smm ∧ nh1 = nm ∧ pn1 = qm ∧ kd_Rel k01 k11 ik1 nh1 pf pn1 wf1 wt1 T1 th1 sm1 sf R1 T2 th2 sm2 sf2 R2 kf1 rf1 qr kh (N + 1) := by
  obtain ⟨⟨a1, a2, a3, a4, a5, a6⟩, ⟨b1, b2, b3, b4, b5, b6, b7, b8⟩, ⟨z1, z2⟩, c3, c2⟩ := id h
  rcases kd_e_hall a3 a4 z1 k0 k1 ik nh wf wt T go th sm ef gf kf with ⟨-, e1, x1, x2, x3, x4, x5, e2⟩ | ⟨-, -, q, k0', k1', R', rf', kf', q1, q6, l0, l1, f0, f1, hw, hs, hz, e1, x1, x2, x3, x4, x5, e2⟩
  · rw [e1] at ha
    rw [e2] at hb
    cases ha
    cases hb
    exact ⟨rfl, rfl, rfl, rfl, rfl, rfl, rfl, kd_Rel_up h⟩
  · rw [e1] at ha
    rw [e2] at hb
    cases ha
    cases hb
    refine ⟨rfl, rfl, rfl, rfl, rfl, rfl, rfl, ⟨l0, l1, Nat.zero_le _, fun i hi => absurd hi (Nat.not_lt_zero i), q6, fun _ => kd_Od_new l0 l1 wf⟩, ⟨Nat.zero_le _, Nat.zero_le _, fun i hi => absurd hi (Nat.not_lt_zero i), hw, hs, by omega, f0, f1⟩, ⟨hz, z2⟩, c3, Or.inl ⟨rfl, ?_⟩⟩
    rcases c2 with ⟨-, d | ⟨i, hi, d⟩⟩ | ⟨-, d, -⟩
    · exact Or.inl d
    · exact Or.inr ⟨i, by omega, d⟩
    · exact Or.inr ⟨nh, by omega, d⟩
theorem kd_Rel0 : kd_Rel 0 0 0 0 (fun _ => 0) 0 (fun _ => 0) 1 0 0 0 (fun _ => 0) kd_R0 0 0 0 (fun _ => 0) kd_R0 (fun _ => 0) (fun _ => 0) (fun _ => 0) (-1) 0 :=
  ⟨⟨by decide, by decide, by decide, fun i hi => absurd hi (Nat.not_lt_zero i), by decide, fun h => absurd h (by decide)⟩, ⟨by decide, by decide, fun i hi => absurd hi (Nat.not_lt_zero i), fun t ht => absurd ht (Nat.not_lt_zero t), fun t u ht => absurd ht (Nat.not_lt_zero t), Nat.le_refl 0, rfl, rfl⟩, ⟨fun _ _ => Or.inr rfl, fun _ _ => Or.inr rfl⟩, by decide, Or.inl ⟨rfl, Or.inl rfl⟩⟩
end KDREL

section KDW
variable {p : Program} {l : Launch} {e : Env} {s : State} {m : MethodId} {below : List Frame} {meth : Method} {c : Code} {b L : Nat} {xs : Nat → Int32} {g : kd_G} {x pg pc ka od ow dr so sa sn so2 sa2 sn2 mo mt mb mp mr mk mw mc mn mx ms mv mq mu : Nat} {dq tq tq2 : Nat → Nat} {tf bf : Nat → Int32}
set_option maxHeartbeats 4000000 in
set_option maxRecDepth 100000 in
theorem kd_loop (hL : L ≤ 320) (C0 : lw_At p s m meth c b L xs) (hK : va_K g.1 vwCl (kd_ty g) s) (hE : kd_E g (fun q : Nat => s.heap.size ≤ q) s) (hB : kd_Tb tf bf) : ∀ (n N : Nat), N ≤ 64 → 65 - N < n → ∀ (k0 : Nat) (k1 : Nat) (ik : Int32) (nh : Nat) (pf : Nat → Int32) (pn : Nat) (wf : Nat → Int32) (wt : Int32) (T : Nat) (go : Int32) (th : Nat) (sm : Nat) (sf : Nat → Int32) (R : Nat → Nat → Int32) (T2 : Nat) (go2 : Int32) (th2 : Nat) (sm2 : Nat) (sf2 : Nat → Int32) (R2 : Nat → Nat → Int32) (sd : Int64) (rm : Nat) (rs : Int32) (zt : Nat) (ef : Nat → Int32) (gf : Nat → Int32) (rf : Nat → Int32) (kf : Nat → Int32) (nf : Nat → Int64) (xf : Nat → Int64) (se : Int32) (vf : Nat → Int32) (kh : Int32) (qr : Nat → Int32) (hsh : Int64), kd_Rel k0 k1 ik nh pf pn wf wt T th sm sf R T2 th2 sm2 sf2 R2 kf rf qr kh N → ∀ (H : Heap) (locs : List Loc), va_P g.1 vwCl (([(x, .inr (10, [.ref pg, .ref ka, .ref od, .ref dr, .ref so, .ref so2, .ref (dq k0), .ref (dq k1), .int ik, .int (nI nh)])), (pg, .inr (6, [.ref pc, .int (nI pn)])), (pc, .inl (g.2.1 0, 22, .inl pf)), (ka, .inl (g.2.1 2, 5, .inr (.inr (.inr (.inr (fun j => some (dq j)))))))] : va_W) ++ (kd_dc dq ++ (([(od, .inr (5, [.ref ow, .int wt])), (ow, .inl (g.2.1 0, 3, .inl wf)), (dr, .inr (2, [.long sd])), (so, .inr (7, [.ref sa, .ref sn, .int (nI T), .int go, .int (nI th), .int (nI sm)])), (sa, .inl (g.2.1 3, 6, .inr (.inr (.inr (.inr (fun j => some (tq j))))))), (sn, .inl (g.2.1 0, 8, .inl sf))] : va_W) ++ (kd_th tq R ++ (([(so2, .inr (7, [.ref sa2, .ref sn2, .int (nI T2), .int go2, .int (nI th2), .int (nI sm2)])), (sa2, .inl (g.2.1 3, 6, .inr (.inr (.inr (.inr (fun j => some (tq2 j))))))), (sn2, .inl (g.2.1 0, 8, .inl sf2))] : va_W) ++ (kd_th tq2 R2 ++ ([(mo, .inr (11, [.ref mt, .ref mb, .ref mp, .int (nI pn), .ref mr, .int (nI rm), .int rs, .ref mk, .int (nI zt), .int (nI T), .int go, .int (nI th), .int (nI nh), .ref mw, .ref mc, .ref mn, .ref mx, .int (nI sm), .ref ms, .int se, .ref mv, .int kh, .int go2, .int (nI th2), .int (nI sm2), .ref mq, .ref mu, .long hsh])), (mt, .inl (g.2.1 0, 64, .inl tf)), (mb, .inl (g.2.1 0, 13, .inl bf)), (mp, .inl (g.2.1 0, 22, .inl pf)), (mr, .inl (g.2.1 0, 12, .inl ef)), (mk, .inl (g.2.1 0, 2, .inl gf)), (mw, .inl (g.2.1 0, 36, .inl rf)), (mc, .inl (g.2.1 0, 2, .inl kf)), (mn, .inl (g.2.1 1, 7, .inr (.inl nf))), (mx, .inl (g.2.1 1, 7, .inr (.inl xf))), (ms, .inl (g.2.1 0, 8, .inl sf)), (mv, .inl (g.2.1 0, 36, .inl vf)), (mq, .inl (g.2.1 0, 36, .inl qr)), (mu, .inl (g.2.1 0, 8, .inl sf2))] : va_W))))))) H → va_D (fun q : Nat => s.heap.size ≤ q) (([(x, .inr (10, [.ref pg, .ref ka, .ref od, .ref dr, .ref so, .ref so2, .ref (dq k0), .ref (dq k1), .int ik, .int (nI nh)])), (pg, .inr (6, [.ref pc, .int (nI pn)])), (pc, .inl (g.2.1 0, 22, .inl pf)), (ka, .inl (g.2.1 2, 5, .inr (.inr (.inr (.inr (fun j => some (dq j)))))))] : va_W) ++ (kd_dc dq ++ (([(od, .inr (5, [.ref ow, .int wt])), (ow, .inl (g.2.1 0, 3, .inl wf)), (dr, .inr (2, [.long sd])), (so, .inr (7, [.ref sa, .ref sn, .int (nI T), .int go, .int (nI th), .int (nI sm)])), (sa, .inl (g.2.1 3, 6, .inr (.inr (.inr (.inr (fun j => some (tq j))))))), (sn, .inl (g.2.1 0, 8, .inl sf))] : va_W) ++ (kd_th tq R ++ (([(so2, .inr (7, [.ref sa2, .ref sn2, .int (nI T2), .int go2, .int (nI th2), .int (nI sm2)])), (sa2, .inl (g.2.1 3, 6, .inr (.inr (.inr (.inr (fun j => some (tq2 j))))))), (sn2, .inl (g.2.1 0, 8, .inl sf2))] : va_W) ++ (kd_th tq2 R2 ++ ([(mo, .inr (11, [.ref mt, .ref mb, .ref mp, .int (nI pn), .ref mr, .int (nI rm), .int rs, .ref mk, .int (nI zt), .int (nI T), .int go, .int (nI th), .int (nI nh), .ref mw, .ref mc, .ref mn, .ref mx, .int (nI sm), .ref ms, .int se, .ref mv, .int kh, .int go2, .int (nI th2), .int (nI sm2), .ref mq, .ref mu, .long hsh])), (mt, .inl (g.2.1 0, 64, .inl tf)), (mb, .inl (g.2.1 0, 13, .inl bf)), (mp, .inl (g.2.1 0, 22, .inl pf)), (mr, .inl (g.2.1 0, 12, .inl ef)), (mk, .inl (g.2.1 0, 2, .inl gf)), (mw, .inl (g.2.1 0, 36, .inl rf)), (mc, .inl (g.2.1 0, 2, .inl kf)), (mn, .inl (g.2.1 1, 7, .inr (.inl nf))), (mx, .inl (g.2.1 1, 7, .inr (.inl xf))), (ms, .inl (g.2.1 0, 8, .inl sf)), (mv, .inl (g.2.1 0, 36, .inl vf)), (mq, .inl (g.2.1 0, 36, .inl qr)), (mu, .inl (g.2.1 0, 8, .inl sf2))] : va_W))))))) → va_S (fun q : Nat => s.heap.size ≤ q) s.heap H locs → ∀ (ls : Array Slot), lv_has ls 4 [(0, .ref b), (1, .ref x), (2, .ref mo), (3, .int (nI (5 * N)))] → W p l e room_1 s m #[Value.ref b] below meth c H locs 44 453 (lw_Z below #[Value.ref b] s) (F0 m 18 ls []) := by
  obtain ⟨hx, hb, hr, hml, hown, htb, hX, hbl, hlocks, hgv⟩ := id C0
  have hA : ∀ q : Nat, s.heap.size ≤ q → (fun q : Nat => s.heap.size ≤ q) q := fun _ h => h
  have hbA : ¬ (fun q : Nat => s.heap.size ≤ q) b := Nat.not_le.mpr hbl
  intro n
  induction n with
  | zero => intro N _ h; exact absurd h (Nat.not_lt_zero _)
  | succ n ih =>
    intro N hN64 hm k0 k1 ik nh pf pn wf wt T go th sm sf R T2 go2 th2 sm2 sf2 R2 sd rm rs zt ef gf rf kf nf xf se vf kh qr hsh hR H locs hP hD hS ls hl
    refine lv_iload_n hx hb dL_law_18 rfl (lv_at hl 3 rfl) ?_
    refine lv_aload_n hx hb dL_law_19 rfl (lv_at hl 0 rfl) ?_
    refine va_slen hx hb hX hbl hbA hS dL_law_20 ?_
    refine lv_iconst (v := 5) hx hb dL_law_21 (by decide) ?_
    refine lv_isub hx hb dL_law_22 ?_
    refine lv_icmp_gt (tgt := 653) hx hb dL_law_23 (by decide) (fun c_23 => ?_) (fun c_23 => ?_)
    · refine lv_iconst (v := 1) hx hb dL_law_653 (by decide) ?_
      refine va_forget hS.2.2 ?_
      refine W.widen (k := 600000) (n := 7302250) (by omega) (by omega) ?_
      exact lw_ret hx hb hr hlocks dL_law_654
    · have hN : 5 * N + 5 ≤ L := by
        have h1 : (nI L - nI 5).toInt = (L : Int) - 5 := pk_sub_toInt (a := L) (b := 5) (by omega) (by decide)
        have h2 : ¬ (nI L - nI 5).toInt < (nI (5 * N)).toInt := fun q => c_23 (Int32.lt_iff_toInt_lt.mpr q)
        rw [h1, nI_toInt (by omega)] at h2
        omega
      have K647 : ∀ (k0 : Nat) (k1 : Nat) (ik : Int32) (nh : Nat) (pf : Nat → Int32) (pn : Nat) (wf : Nat → Int32) (wt : Int32) (T : Nat) (go : Int32) (th : Nat) (sm : Nat) (sf : Nat → Int32) (R : Nat → Nat → Int32) (T2 : Nat) (go2 : Int32) (th2 : Nat) (sm2 : Nat) (sf2 : Nat → Int32) (R2 : Nat → Nat → Int32) (sd : Int64) (rm : Nat) (rs : Int32) (zt : Nat) (ef : Nat → Int32) (gf : Nat → Int32) (rf : Nat → Int32) (kf : Nat → Int32) (nf : Nat → Int64) (xf : Nat → Int64) (se : Int32) (vf : Nat → Int32) (kh : Int32) (qr : Nat → Int32) (hsh : Int64), kd_Rel k0 k1 ik nh pf pn wf wt T th sm sf R T2 th2 sm2 sf2 R2 kf rf qr kh (N + 1) → ∀ (H : Heap) (locs : List Loc), va_P g.1 vwCl (([(x, .inr (10, [.ref pg, .ref ka, .ref od, .ref dr, .ref so, .ref so2, .ref (dq k0), .ref (dq k1), .int ik, .int (nI nh)])), (pg, .inr (6, [.ref pc, .int (nI pn)])), (pc, .inl (g.2.1 0, 22, .inl pf)), (ka, .inl (g.2.1 2, 5, .inr (.inr (.inr (.inr (fun j => some (dq j)))))))] : va_W) ++ (kd_dc dq ++ (([(od, .inr (5, [.ref ow, .int wt])), (ow, .inl (g.2.1 0, 3, .inl wf)), (dr, .inr (2, [.long sd])), (so, .inr (7, [.ref sa, .ref sn, .int (nI T), .int go, .int (nI th), .int (nI sm)])), (sa, .inl (g.2.1 3, 6, .inr (.inr (.inr (.inr (fun j => some (tq j))))))), (sn, .inl (g.2.1 0, 8, .inl sf))] : va_W) ++ (kd_th tq R ++ (([(so2, .inr (7, [.ref sa2, .ref sn2, .int (nI T2), .int go2, .int (nI th2), .int (nI sm2)])), (sa2, .inl (g.2.1 3, 6, .inr (.inr (.inr (.inr (fun j => some (tq2 j))))))), (sn2, .inl (g.2.1 0, 8, .inl sf2))] : va_W) ++ (kd_th tq2 R2 ++ ([(mo, .inr (11, [.ref mt, .ref mb, .ref mp, .int (nI pn), .ref mr, .int (nI rm), .int rs, .ref mk, .int (nI zt), .int (nI T), .int go, .int (nI th), .int (nI nh), .ref mw, .ref mc, .ref mn, .ref mx, .int (nI sm), .ref ms, .int se, .ref mv, .int kh, .int go2, .int (nI th2), .int (nI sm2), .ref mq, .ref mu, .long hsh])), (mt, .inl (g.2.1 0, 64, .inl tf)), (mb, .inl (g.2.1 0, 13, .inl bf)), (mp, .inl (g.2.1 0, 22, .inl pf)), (mr, .inl (g.2.1 0, 12, .inl ef)), (mk, .inl (g.2.1 0, 2, .inl gf)), (mw, .inl (g.2.1 0, 36, .inl rf)), (mc, .inl (g.2.1 0, 2, .inl kf)), (mn, .inl (g.2.1 1, 7, .inr (.inl nf))), (mx, .inl (g.2.1 1, 7, .inr (.inl xf))), (ms, .inl (g.2.1 0, 8, .inl sf)), (mv, .inl (g.2.1 0, 36, .inl vf)), (mq, .inl (g.2.1 0, 36, .inl qr)), (mu, .inl (g.2.1 0, 8, .inl sf2))] : va_W))))))) H → va_D (fun q : Nat => s.heap.size ≤ q) (([(x, .inr (10, [.ref pg, .ref ka, .ref od, .ref dr, .ref so, .ref so2, .ref (dq k0), .ref (dq k1), .int ik, .int (nI nh)])), (pg, .inr (6, [.ref pc, .int (nI pn)])), (pc, .inl (g.2.1 0, 22, .inl pf)), (ka, .inl (g.2.1 2, 5, .inr (.inr (.inr (.inr (fun j => some (dq j)))))))] : va_W) ++ (kd_dc dq ++ (([(od, .inr (5, [.ref ow, .int wt])), (ow, .inl (g.2.1 0, 3, .inl wf)), (dr, .inr (2, [.long sd])), (so, .inr (7, [.ref sa, .ref sn, .int (nI T), .int go, .int (nI th), .int (nI sm)])), (sa, .inl (g.2.1 3, 6, .inr (.inr (.inr (.inr (fun j => some (tq j))))))), (sn, .inl (g.2.1 0, 8, .inl sf))] : va_W) ++ (kd_th tq R ++ (([(so2, .inr (7, [.ref sa2, .ref sn2, .int (nI T2), .int go2, .int (nI th2), .int (nI sm2)])), (sa2, .inl (g.2.1 3, 6, .inr (.inr (.inr (.inr (fun j => some (tq2 j))))))), (sn2, .inl (g.2.1 0, 8, .inl sf2))] : va_W) ++ (kd_th tq2 R2 ++ ([(mo, .inr (11, [.ref mt, .ref mb, .ref mp, .int (nI pn), .ref mr, .int (nI rm), .int rs, .ref mk, .int (nI zt), .int (nI T), .int go, .int (nI th), .int (nI nh), .ref mw, .ref mc, .ref mn, .ref mx, .int (nI sm), .ref ms, .int se, .ref mv, .int kh, .int go2, .int (nI th2), .int (nI sm2), .ref mq, .ref mu, .long hsh])), (mt, .inl (g.2.1 0, 64, .inl tf)), (mb, .inl (g.2.1 0, 13, .inl bf)), (mp, .inl (g.2.1 0, 22, .inl pf)), (mr, .inl (g.2.1 0, 12, .inl ef)), (mk, .inl (g.2.1 0, 2, .inl gf)), (mw, .inl (g.2.1 0, 36, .inl rf)), (mc, .inl (g.2.1 0, 2, .inl kf)), (mn, .inl (g.2.1 1, 7, .inr (.inl nf))), (mx, .inl (g.2.1 1, 7, .inr (.inl xf))), (ms, .inl (g.2.1 0, 8, .inl sf)), (mv, .inl (g.2.1 0, 36, .inl vf)), (mq, .inl (g.2.1 0, 36, .inl qr)), (mu, .inl (g.2.1 0, 8, .inl sf2))] : va_W))))))) → va_S (fun q : Nat => s.heap.size ≤ q) s.heap H locs → ∀ (ls : Array Slot), lv_has ls 4 [(0, .ref b), (1, .ref x), (2, .ref mo), (3, .int (nI (5 * N)))] → W p l e room_1 s m #[Value.ref b] below meth c H locs 44 453 (lw_Z below #[Value.ref b] s) (F0 m 647 ls []) := by
        intro k0 k1 ik nh pf pn wf wt T go th sm sf R T2 go2 th2 sm2 sf2 R2 sd rm rs zt ef gf rf kf nf xf se vf kh qr hsh hR H locs hP hD hS ls hl
        refine lv_iinc (v := nI (5 * (N + 1))) (lv' := [(3, .int (nI (5 * (N + 1)))), (0, .ref b), (1, .ref x), (2, .ref mo)]) hx hb dL_law_647 hl (k := 3) rfl (by rw [show 5 * (N + 1) = 5 * N + 5 by omega]; exact nI_add (5 * N) 5) (by decide) rfl (fun ls hl => ?_)
        refine lv_goto (tgt := 18) hx hb dL_law_650 (by decide) ?_
        exact ih (N + 1) (by omega) (by omega) k0 k1 ik nh pf pn wf wt T go th sm sf R T2 go2 th2 sm2 sf2 R2 sd rm rs zt ef gf rf kf nf xf se vf kh qr hsh hR H locs hP hD hS ls (lv_sub hl [1, 2, 3, 0] rfl)
      refine lv_aload_n hx hb dL_law_26 rfl (lv_at hl 0 rfl) ?_
      refine lv_iload_n hx hb dL_law_27 rfl (lv_at hl 3 rfl) ?_
      refine kd_sld (k := 5 * N) hx hb hX hbl hbA hS (by omega) (by omega) dL_law_28 ?_
      refine lv_bipush (v := 31) hx hb dL_law_29 (by decide) ?_
      refine lv_iand hx hb dL_law_31 ?_
      by_cases c_32_0 : ((xs (5 * N)) &&& 31) = 0
      · refine lv_tableIn (off := 100) (tgt := 132) hx hb dL_law_32 (by rw [c_32_0]; decide) (by rw [c_32_0]; decide) (by rw [c_32_0]; rfl) (by decide) ?_
        exact kd_case_0 hA hbA hL C0 hK hE hB hN hR hP hD hS hl K647
      by_cases c_32_1 : ((xs (5 * N)) &&& 31) = 1
      · refine lv_tableIn (off := 123) (tgt := 155) hx hb dL_law_32 (by rw [c_32_1]; decide) (by rw [c_32_1]; decide) (by rw [c_32_1]; rfl) (by decide) ?_
        exact kd_case_1 hA hbA hL C0 hK hE hB hN hR hP hD hS hl K647
      by_cases c_32_2 : ((xs (5 * N)) &&& 31) = 2
      · refine lv_tableIn (off := 136) (tgt := 168) hx hb dL_law_32 (by rw [c_32_2]; decide) (by rw [c_32_2]; decide) (by rw [c_32_2]; rfl) (by decide) ?_
        exact kd_case_2 hA hbA hL C0 hK hE hB hN hR hP hD hS hl K647
      by_cases c_32_3 : ((xs (5 * N)) &&& 31) = 3
      · refine lv_tableIn (off := 149) (tgt := 181) hx hb dL_law_32 (by rw [c_32_3]; decide) (by rw [c_32_3]; decide) (by rw [c_32_3]; rfl) (by decide) ?_
        exact kd_case_3 hA hbA hL C0 hK hE hB hN hR hP hD hS hl K647
      by_cases c_32_4 : ((xs (5 * N)) &&& 31) = 4
      · refine lv_tableIn (off := 162) (tgt := 194) hx hb dL_law_32 (by rw [c_32_4]; decide) (by rw [c_32_4]; decide) (by rw [c_32_4]; rfl) (by decide) ?_
        exact kd_case_4 hA hbA hL C0 hK hE hB hN hR hP hD hS hl K647
      by_cases c_32_5 : ((xs (5 * N)) &&& 31) = 5
      · refine lv_tableIn (off := 195) (tgt := 227) hx hb dL_law_32 (by rw [c_32_5]; decide) (by rw [c_32_5]; decide) (by rw [c_32_5]; rfl) (by decide) ?_
        exact kd_case_5 hA hbA hL C0 hK hE hB hN hR hP hD hS hl K647
      by_cases c_32_6 : ((xs (5 * N)) &&& 31) = 6
      · refine lv_tableIn (off := 228) (tgt := 260) hx hb dL_law_32 (by rw [c_32_6]; decide) (by rw [c_32_6]; decide) (by rw [c_32_6]; rfl) (by decide) ?_
        exact kd_case_6 hA hbA hL C0 hK hE hB hN hR hP hD hS hl K647
      by_cases c_32_7 : ((xs (5 * N)) &&& 31) = 7
      · refine lv_tableIn (off := 261) (tgt := 293) hx hb dL_law_32 (by rw [c_32_7]; decide) (by rw [c_32_7]; decide) (by rw [c_32_7]; rfl) (by decide) ?_
        exact kd_case_7 hA hbA hL C0 hK hE hB hN hR hP hD hS hl K647
      by_cases c_32_8 : ((xs (5 * N)) &&& 31) = 8
      · refine lv_tableIn (off := 294) (tgt := 326) hx hb dL_law_32 (by rw [c_32_8]; decide) (by rw [c_32_8]; decide) (by rw [c_32_8]; rfl) (by decide) ?_
        exact kd_case_8 hA hbA hL C0 hK hE hB hN hR hP hD hS hl K647
      by_cases c_32_9 : ((xs (5 * N)) &&& 31) = 9
      · refine lv_tableIn (off := 347) (tgt := 379) hx hb dL_law_32 (by rw [c_32_9]; decide) (by rw [c_32_9]; decide) (by rw [c_32_9]; rfl) (by decide) ?_
        exact kd_case_9 hA hbA hL C0 hK hE hB hN hR hP hD hS hl K647
      by_cases c_32_10 : ((xs (5 * N)) &&& 31) = 10
      · refine lv_tableIn (off := 370) (tgt := 402) hx hb dL_law_32 (by rw [c_32_10]; decide) (by rw [c_32_10]; decide) (by rw [c_32_10]; rfl) (by decide) ?_
        exact kd_case_10 hA hbA hL C0 hK hE hB hN hR hP hD hS hl K647
      by_cases c_32_11 : ((xs (5 * N)) &&& 31) = 11
      · refine lv_tableIn (off := 414) (tgt := 446) hx hb dL_law_32 (by rw [c_32_11]; decide) (by rw [c_32_11]; decide) (by rw [c_32_11]; rfl) (by decide) ?_
        exact kd_case_11 hA hbA hL C0 hK hE hB hN hR hP hD hS hl K647
      by_cases c_32_12 : ((xs (5 * N)) &&& 31) = 12
      · refine lv_tableIn (off := 447) (tgt := 479) hx hb dL_law_32 (by rw [c_32_12]; decide) (by rw [c_32_12]; decide) (by rw [c_32_12]; rfl) (by decide) ?_
        exact kd_case_12 hA hbA hL C0 hK hE hB hN hR hP hD hS hl K647
      by_cases c_32_13 : ((xs (5 * N)) &&& 31) = 13
      · refine lv_tableIn (off := 470) (tgt := 502) hx hb dL_law_32 (by rw [c_32_13]; decide) (by rw [c_32_13]; decide) (by rw [c_32_13]; rfl) (by decide) ?_
        exact kd_case_13 hA hbA hL C0 hK hE hB hN hR hP hD hS hl K647
      by_cases c_32_14 : ((xs (5 * N)) &&& 31) = 14
      · refine lv_tableIn (off := 483) (tgt := 515) hx hb dL_law_32 (by rw [c_32_14]; decide) (by rw [c_32_14]; decide) (by rw [c_32_14]; rfl) (by decide) ?_
        exact kd_case_14 hA hbA hL C0 hK hE hB hN hR hP hD hS hl K647
      by_cases c_32_15 : ((xs (5 * N)) &&& 31) = 15
      · refine lv_tableIn (off := 496) (tgt := 528) hx hb dL_law_32 (by rw [c_32_15]; decide) (by rw [c_32_15]; decide) (by rw [c_32_15]; rfl) (by decide) ?_
        exact kd_case_15 hA hbA hL C0 hK hE hB hN hR hP hD hS hl K647
      by_cases c_32_16 : ((xs (5 * N)) &&& 31) = 16
      · refine lv_tableIn (off := 509) (tgt := 541) hx hb dL_law_32 (by rw [c_32_16]; decide) (by rw [c_32_16]; decide) (by rw [c_32_16]; rfl) (by decide) ?_
        exact kd_case_16 hA hbA hL C0 hK hE hB hN hR hP hD hS hl K647
      by_cases c_32_17 : ((xs (5 * N)) &&& 31) = 17
      · refine lv_tableIn (off := 552) (tgt := 584) hx hb dL_law_32 (by rw [c_32_17]; decide) (by rw [c_32_17]; decide) (by rw [c_32_17]; rfl) (by decide) ?_
        exact kd_case_17 hA hbA hL C0 hK hE hB hN hR hP hD hS hl K647
      by_cases c_32_18 : ((xs (5 * N)) &&& 31) = 18
      · refine lv_tableIn (off := 565) (tgt := 597) hx hb dL_law_32 (by rw [c_32_18]; decide) (by rw [c_32_18]; decide) (by rw [c_32_18]; rfl) (by decide) ?_
        exact kd_case_18 hA hbA hL C0 hK hE hB hN hR hP hD hS hl K647
      by_cases c_32_19 : ((xs (5 * N)) &&& 31) = 19
      · refine lv_tableIn (off := 578) (tgt := 610) hx hb dL_law_32 (by rw [c_32_19]; decide) (by rw [c_32_19]; decide) (by rw [c_32_19]; rfl) (by decide) ?_
        exact kd_case_19 hA hbA hL C0 hK hE hB hN hR hP hD hS hl K647
      by_cases c_32_20 : ((xs (5 * N)) &&& 31) = 20
      · refine lv_tableIn (off := 601) (tgt := 633) hx hb dL_law_32 (by rw [c_32_20]; decide) (by rw [c_32_20]; decide) (by rw [c_32_20]; rfl) (by decide) ?_
        exact kd_case_20 hA hbA hL C0 hK hE hB hN hR hP hD hS hl K647
      refine lv_tableOut (tgt := 647) hx hb dL_law_32 (by have z0 := kd_ne2 c_32_0 (k := 0) (by decide); have z1 := kd_ne2 c_32_1 (k := 1) (by decide); have z2 := kd_ne2 c_32_2 (k := 2) (by decide); have z3 := kd_ne2 c_32_3 (k := 3) (by decide); have z4 := kd_ne2 c_32_4 (k := 4) (by decide); have z5 := kd_ne2 c_32_5 (k := 5) (by decide); have z6 := kd_ne2 c_32_6 (k := 6) (by decide); have z7 := kd_ne2 c_32_7 (k := 7) (by decide); have z8 := kd_ne2 c_32_8 (k := 8) (by decide); have z9 := kd_ne2 c_32_9 (k := 9) (by decide); have z10 := kd_ne2 c_32_10 (k := 10) (by decide); have z11 := kd_ne2 c_32_11 (k := 11) (by decide); have z12 := kd_ne2 c_32_12 (k := 12) (by decide); have z13 := kd_ne2 c_32_13 (k := 13) (by decide); have z14 := kd_ne2 c_32_14 (k := 14) (by decide); have z15 := kd_ne2 c_32_15 (k := 15) (by decide); have z16 := kd_ne2 c_32_16 (k := 16) (by decide); have z17 := kd_ne2 c_32_17 (k := 17) (by decide); have z18 := kd_ne2 c_32_18 (k := 18) (by decide); have z19 := kd_ne2 c_32_19 (k := 19) (by decide); have z20 := kd_ne2 c_32_20 (k := 20) (by decide); omega) (by decide) ?_
      exact K647 k0 k1 ik nh pf pn wf wt T go th sm sf R T2 go2 th2 sm2 sf2 R2 sd rm rs zt ef gf rf kf nf xf se vf kh qr hsh (kd_Rel_up hR) H locs hP hD hS ls hl
end KDW

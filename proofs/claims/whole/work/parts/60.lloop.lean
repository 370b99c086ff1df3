set_option maxHeartbeats 16000000 in
set_option maxRecDepth 100000 in
theorem l_loop {Rel : Nat → TS → TS → Prop} (hops : opAll Rel) {p : Program} {l : Launch} {e : Env} {s : State} {m : MethodId} {args : Array Value} {below : List Frame} {meth : Method} {c : Code} {Q : State → Prop} {b L : Nat} {xs : Nat → Int32} {D : va_G} {cy : Nat → ClassId} {q q2 : Nat → Nat} {o : Nat} (F1 : lF p l s m args c b L xs D cy q q2 o) (kend : ∀ (j : Nat) (H1 : Heap) (locs1 : List Loc) (ls1 : Array Slot), j ≤ 512 → va_S (fun a => s.heap.size ≤ a) s.heap H1 locs1 → W p l e room_1 s m args below meth c H1 locs1 (200 + 4 * j) (20000 + 24 * j) Q (F0 m 2416 ls1 [])) : ∀ (n j : Nat), L ≤ 5 * (j + n) → j ≤ 512 → ∀ (σ μ : TS) (fo : Nat → Int64) (H : Heap) (locs : List Loc) (ls : Array Slot), Rel j σ μ → va_P D vwCl (gS 78 q (TX cy q) σ) H → va_P D vwCl (gS 39 q2 (MX cy q2) μ) H → va_P D vwCl (oW o cy fo) H → va_S (fun a => s.heap.size ≤ a) s.heap H locs → lv_has ls 9 [(0, .ref b), (1, .ref (q (0))), (2, .ref (q2 (0))), (3, .ref o), (4, .int (nI (5 * j)))] → W p l e room_1 s m args below meth c H locs (200 + 4 * j) (20000 + 24 * j) Q (F0 m 23 ls []) := by
  have F2 := F1
  obtain ⟨hx, hb, hml, hown, hts, hXs, hbl, hL0, hK, hX, hNt, hlf, hJ, hJ2, hAT, hAM, hAo, hdis, hoT, hoM⟩ := F1
  obtain ⟨hskip, o0, o1, o2, o3, o4, o5, o6, o7, o8, o9, o10, o11, o12, o13, o14, o15, o16, o17, o18, o19, o20, o21, o22, o23, o24, o25, o26, o27, o28, o29, o30, o31, o32, o33, o34, o35, o36, o37⟩ := hops
  intro n
  induction n with
  | zero =>
    intro j hn hj0 σ μ fo H locs ls hR hP hM hO hS hl
    refine lv_iload hx hb dL_law_23 (lv_at hl 4 rfl) ?_
    refine lv_aload_n hx hb dL_law_25 rfl (lv_at hl 0 rfl) ?_
    refine va_slen hx hb hXs hbl (Nat.not_le.mpr hbl) hS dL_law_26 ?_
    refine lv_iconst (v := nI 5) hx hb dL_law_27 (by decide) ?_
    refine lv_isub hx hb dL_law_28 ?_
    have hcmp : nI L - nI 5 < nI (5 * j) ↔ (L : Int) - 5 < 5 * j := by
      rw [Int32.lt_iff_toInt_lt, pk_sub_toInt (by omega) (by omega), nI_toInt (by omega)]
      omega
    refine lv_icmp_gt (tgt := 2416) hx hb dL_law_29 (by decide) (fun _ => kend j H locs ls hj0 hS) (fun hgt => ?_)
    have hgt2 : ¬ (L : Int) - 5 < 5 * j := fun h => hgt (hcmp.mpr h)
    exfalso
    omega
  | succ n ih =>
    intro j hn hj0 σ μ fo H locs ls hR hP hM hO hS hl
    refine lv_iload hx hb dL_law_23 (lv_at hl 4 rfl) ?_
    refine lv_aload_n hx hb dL_law_25 rfl (lv_at hl 0 rfl) ?_
    refine va_slen hx hb hXs hbl (Nat.not_le.mpr hbl) hS dL_law_26 ?_
    refine lv_iconst (v := nI 5) hx hb dL_law_27 (by decide) ?_
    refine lv_isub hx hb dL_law_28 ?_
    have hcmp : nI L - nI 5 < nI (5 * j) ↔ (L : Int) - 5 < 5 * j := by
      rw [Int32.lt_iff_toInt_lt, pk_sub_toInt (by omega) (by omega), nI_toInt (by omega)]
      omega
    refine lv_icmp_gt (tgt := 2416) hx hb dL_law_29 (by decide) (fun _ => kend j H locs ls hj0 hS) (fun hgt => ?_)
    have hgt2 : ¬ (L : Int) - 5 < 5 * j := fun h => hgt (hcmp.mpr h)
    have hj : 5 * j + 5 ≤ L := by omega
    have hj1 : j < 512 := by omega
    have hend : ∀ (σ1 μ1 : TS), Rel (j + 1) σ1 μ1 → ∀ (fo1 : Nat → Int64) (H1 : Heap) (locs1 : List Loc) (ls1 : Array Slot), va_P D vwCl (gS 78 q (TX cy q) σ1) H1 → va_P D vwCl (gS 39 q2 (MX cy q2) μ1) H1 → va_P D vwCl (oW o cy fo1) H1 → va_S (fun a => s.heap.size ≤ a) s.heap H1 locs1 → lv_has ls1 9 [(0, .ref b), (1, .ref (q (0))), (2, .ref (q2 (0))), (3, .ref o), (4, .int (nI (5 * j)))] → W p l e room_1 s m args below meth c H1 locs1 (200 + 4 * j + 4) (20000 + 24 * j + 24) Q (F0 m 2410 ls1 []) := by
      intro σ1 μ1 hR1 fo1 H1 locs1 ls1 hP1 hM1 hO1 hS1 hl1
      refine lv_iinc (v := nI (5 * (j + 1))) (lv' := [(4, .int (nI (5 * (j + 1)))), (0, .ref b), (1, .ref (q (0))), (2, .ref (q2 (0))), (3, .ref o)]) hx hb dL_law_2410 hl1 (k := 4) rfl (by rw [show Int32.ofInt 5 = nI 5 by decide, nI_add]; rfl) (by decide) rfl (fun ls hl => ?_)
      refine lv_goto (tgt := 23) hx hb dL_law_2413 (by decide) ?_
      have hI := ih (j + 1) (by omega) (by omega) σ1 μ1 fo1 H1 locs1 ls hR1 hP1 hM1 hO1 hS1 (lv_sub hl [1, 2, 3, 4, 0] rfl)
      rw [show 200 + 4 * (j + 1) = 200 + 4 * j + 4 by omega, show 20000 + 24 * (j + 1) = 20000 + 24 * j + 24 by omega] at hI
      exact hI
    refine lv_aload_n hx hb dL_law_32 rfl (lv_at hl 0 rfl) ?_
    refine lv_iload hx hb dL_law_33 (lv_at hl 4 rfl) ?_
    refine va_sld hx hb hXs hbl (Nat.not_le.mpr hbl) hS (vp_in_nI (n := 5 * j) (by omega) (by omega)) dL_law_35 ?_
    rw [nI_clamp (n := 5 * j) (by omega)]
    refine lv_bipush (v := (63 : Int32)) hx hb dL_law_36 (by decide) ?_
    refine lv_iand hx hb dL_law_38 ?_
    generalize xs (5 * j) &&& 63 = y
    by_cases c0 : y = (0 : Int32)
    · subst c0
      refine g_sw (off := 165) (tgt := 204) hx hb dL_law_39 (by decide) (by decide) (by decide) ?_
      obtain ⟨z, u, bb, v, h8, h9, hI, hR1⟩ := o0 j σ μ (xs (5 * j + 1)) (xs (5 * j + 2)) (xs (5 * j + 3)) (xs (5 * j + 4)) hj1 hR
      exact lc_code F2 hP hM hO hS hj hl h8 h9 hI (by omega) (by omega) (hend u v hR1)
    by_cases c1 : y = (1 : Int32)
    · subst c1
      refine g_sw (off := 259) (tgt := 298) hx hb dL_law_39 (by decide) (by decide) (by decide) ?_
      obtain ⟨z, u, bb, v, h8, h9, hI, hR1⟩ := o1 j σ μ (xs (5 * j + 1)) hj1 hR
      exact lc_clear F2 hP hM hO hS hj hl h8 h9 hI (by omega) (by omega) (hend u v hR1)
    by_cases c2 : y = (2 : Int32)
    · subst c2
      refine g_sw (off := 315) (tgt := 354) hx hb dL_law_39 (by decide) (by decide) (by decide) ?_
      obtain ⟨z, u, bb, v, h8, h9, hI, hR1⟩ := o2 j σ μ (xs (5 * j + 1)) (xs (5 * j + 2)) (xs (5 * j + 3)) hj1 hR
      exact lc_slot F2 hP hM hO hS hj hl h8 h9 hI (by omega) (by omega) (hend u v hR1)
    by_cases c3 : y = (3 : Int32)
    · subst c3
      refine g_sw (off := 395) (tgt := 434) hx hb dL_law_39 (by decide) (by decide) (by decide) ?_
      obtain ⟨bb, u, v, h8, h9, hR1⟩ := o3 j σ μ hj1 hR
      exact lc_frame F2 hP hM hO hS hj hl h8 h9 (by omega) (by omega) (hend u v hR1)
    by_cases c4 : y = (4 : Int32)
    · subst c4
      refine g_sw (off := 408) (tgt := 447) hx hb dL_law_39 (by decide) (by decide) (by decide) ?_
      obtain ⟨bb, u, v, h8, h9, hR1⟩ := o4 j σ μ hj1 hR
      exact lc_time F2 hP hM hO hS hj hl h8 h9 (by omega) (by omega) (hend u v hR1)
    by_cases c5 : y = (5 : Int32)
    · subst c5
      refine g_sw (off := 421) (tgt := 460) hx hb dL_law_39 (by decide) (by decide) (by decide) ?_
      obtain ⟨bb, u, v, h8, h9, hR1⟩ := o5 j σ μ hj1 hR
      exact lc_mode F2 hP hM hO hS hj hl h8 h9 (by omega) (by omega) (hend u v hR1)
    by_cases c6 : y = (6 : Int32)
    · subst c6
      refine g_sw (off := 434) (tgt := 473) hx hb dL_law_39 (by decide) (by decide) (by decide) ?_
      obtain ⟨z, u, bb, v, h8, h9, hI, hR1⟩ := o6 j σ μ (xs (5 * j + 1)) hj1 hR
      exact lc_output F2 hP hM hO hS hj hl h8 h9 hI (by omega) (by omega) (hend u v hR1)
    by_cases c7 : y = (7 : Int32)
    · subst c7
      refine g_sw (off := 490) (tgt := 529) hx hb dL_law_39 (by decide) (by decide) (by decide) ?_
      obtain ⟨z, u, bb, v, h8, h9, hI, hR1⟩ := o7 j σ μ (xs (5 * j + 1)) hj1 hR
      exact lc_plain F2 hP hM hO hS hj hl h8 h9 hI (by omega) (by omega) (hend u v hR1)
    by_cases c8 : y = (8 : Int32)
    · subst c8
      refine g_sw (off := 546) (tgt := 585) hx hb dL_law_39 (by decide) (by decide) (by decide) ?_
      obtain ⟨bb, u, v, h8, h9, hR1⟩ := o8 j σ μ hj1 hR
      exact lc_isPlain F2 hP hM hO hS hj hl h8 h9 (by omega) (by omega) (hend u v hR1)
    by_cases c9 : y = (9 : Int32)
    · subst c9
      refine g_sw (off := 559) (tgt := 598) hx hb dL_law_39 (by decide) (by decide) (by decide) ?_
      obtain ⟨z, u, bb, v, h8, h9, hI, hR1⟩ := o9 j σ μ (xs (5 * j + 1)) (xs (5 * j + 2)) (xs (5 * j + 3)) hj1 hR
      exact lc_word F2 hP hM hO hS hj hl h8 h9 hI (by omega) (by omega) (hend u v hR1)
    by_cases c10 : y = (10 : Int32)
    · subst c10
      refine g_sw (off := 639) (tgt := 678) hx hb dL_law_39 (by decide) (by decide) (by decide) ?_
      obtain ⟨z, u, bb, v, h8, h9, hI, hR1⟩ := o10 j σ μ (xs (5 * j + 1)) (xs (5 * j + 2)) (xs (5 * j + 3)) (xs (5 * j + 4)) hj1 hR
      exact lc_flip F2 hP hM hO hS hj hl h8 h9 hI (by omega) (by omega) (hend u v hR1)
    by_cases c11 : y = (11 : Int32)
    · subst c11
      refine g_sw (off := 731) (tgt := 770) hx hb dL_law_39 (by decide) (by decide) (by decide) ?_
      obtain ⟨z, u, bb, v, h8, h9, hI, hR1⟩ := o11 j σ μ (xs (5 * j + 1)) (xs (5 * j + 2)) (xs (5 * j + 3)) (xs (5 * j + 4)) hj1 hR
      exact lc_stick F2 hP hM hO hS hj hl h8 h9 hI (by omega) (by omega) (hend u v hR1)
    by_cases c12 : y = (12 : Int32)
    · subst c12
      refine g_sw (off := 846) (tgt := 885) hx hb dL_law_39 (by decide) (by decide) (by decide) ?_
      obtain ⟨z, u, bb, v, h8, h9, hI, hR1⟩ := o12 j σ μ (xs (5 * j + 1)) hj1 hR
      exact lc_fix F2 hP hM hO hS hj hl h8 h9 hI (by omega) (by omega) (hend u v hR1)
    by_cases c13 : y = (13 : Int32)
    · subst c13
      refine g_sw (off := 909) (tgt := 948) hx hb dL_law_39 (by decide) (by decide) (by decide) ?_
      obtain ⟨z, u, bb, v, h8, h9, hI, hR1⟩ := o13 j σ μ (xs (5 * j + 1)) hj1 hR
      exact lc_isOn F2 hP hM hO hS hj hl h8 h9 hI (by omega) (by omega) (hend u v hR1)
    by_cases c14 : y = (14 : Int32)
    · subst c14
      refine g_sw (off := 972) (tgt := 1011) hx hb dL_law_39 (by decide) (by decide) (by decide) ?_
      obtain ⟨z, u, bb, v, h8, h9, hI, hR1⟩ := o14 j σ μ (xs (5 * j + 1)) hj1 hR
      exact lc_strikes F2 hP hM hO hS hj hl h8 h9 hI (by omega) (by omega) (hend u v hR1)
    by_cases c15 : y = (15 : Int32)
    · subst c15
      refine g_sw (off := 1028) (tgt := 1067) hx hb dL_law_39 (by decide) (by decide) (by decide) ?_
      obtain ⟨z, u, bb, v, h8, h9, hI, hR1⟩ := o15 j σ μ (xs (5 * j + 1)) hj1 hR
      exact lc_shut F2 hP hM hO hS hj hl h8 h9 hI (by omega) (by omega) (hend u v hR1)
    by_cases c16 : y = (16 : Int32)
    · subst c16
      refine g_sw (off := 1084) (tgt := 1123) hx hb dL_law_39 (by decide) (by decide) (by decide) ?_
      obtain ⟨z, u, bb, v, h8, h9, hI, hR1⟩ := o16 j σ μ (xs (5 * j + 1)) hj1 hR
      exact lc_test F2 hP hM hO hS hj hl h8 h9 hI (by omega) (by omega) (hend u v hR1)
    by_cases c17 : y = (17 : Int32)
    · subst c17
      refine g_sw (off := 1147) (tgt := 1186) hx hb dL_law_39 (by decide) (by decide) (by decide) ?_
      obtain ⟨z, u, bb, v, h8, h9, hI, hR1⟩ := o17 j σ μ (xs (5 * j + 1)) hj1 hR
      exact lc_back F2 hP hM hO hS hj hl h8 h9 hI (by omega) (by omega) (hend u v hR1)
    by_cases c18 : y = (18 : Int32)
    · subst c18
      refine g_sw (off := 1203) (tgt := 1242) hx hb dL_law_39 (by decide) (by decide) (by decide) ?_
      obtain ⟨z, u, bb, v, h8, h9, hI, hR1⟩ := o18 j σ μ (xs (5 * j + 1)) hj1 hR
      exact lc_mended F2 hP hM hO hS hj hl h8 h9 hI (by omega) (by omega) (hend u v hR1)
    by_cases c19 : y = (19 : Int32)
    · subst c19
      refine g_sw (off := 1259) (tgt := 1298) hx hb dL_law_39 (by decide) (by decide) (by decide) ?_
      obtain ⟨z, u, bb, v, h8, h9, hI, hR1⟩ := o19 j σ μ (xs (5 * j + 1)) hj1 hR
      exact lc_overruns F2 hP hM hO hS hj hl h8 h9 hI (by omega) (by omega) (hend u v hR1)
    by_cases c20 : y = (20 : Int32)
    · subst c20
      refine g_sw (off := 1315) (tgt := 1354) hx hb dL_law_39 (by decide) (by decide) (by decide) ?_
      obtain ⟨z, u, bb, v, h8, h9, hI, hR1⟩ := o20 j σ μ (xs (5 * j + 1)) (xs (5 * j + 2)) (xs (5 * j + 3)) (xs (5 * j + 4)) hj1 hR
      exact lc_read F2 hP hM hO hS hj hl h8 h9 hI (by omega) (by omega) (hend u v hR1)
    by_cases c21 : y = (21 : Int32)
    · subst c21
      refine g_sw (off := 1407) (tgt := 1446) hx hb dL_law_39 (by decide) (by decide) (by decide) ?_
      obtain ⟨z, u, bb, v, h8, h9, hI, hR1⟩ := o21 j σ μ (xs (5 * j + 1)) (xs (5 * j + 2)) hj1 hR
      exact lc_limit F2 hP hM hO hS hj hl h8 h9 hI (by omega) (by omega) (hend u v hR1)
    by_cases c22 : y = (22 : Int32)
    · subst c22
      refine g_sw (off := 1475) (tgt := 1514) hx hb dL_law_39 (by decide) (by decide) (by decide) ?_
      obtain ⟨z, u, bb, v, h8, h9, hI, hR1⟩ := o22 j σ μ (xs (5 * j + 1)) hj1 hR
      exact lc_agreed F2 hP hM hO hS hj hl h8 h9 hI (by omega) (by omega) (hend u v hR1)
    by_cases c23 : y = (23 : Int32)
    · subst c23
      refine g_sw (off := 1531) (tgt := 1570) hx hb dL_law_39 (by decide) (by decide) (by decide) ?_
      obtain ⟨z, u, bb, v, h8, h9, hI, hR1⟩ := o23 j σ μ (xs (5 * j + 1)) (xs (5 * j + 2)) hj1 hR
      exact lc_drift F2 hP hM hO hS hj hl h8 h9 hI (by omega) (by omega) (hend u v hR1)
    by_cases c24 : y = (24 : Int32)
    · subst c24
      refine g_sw (off := 1599) (tgt := 1638) hx hb dL_law_39 (by decide) (by decide) (by decide) ?_
      obtain ⟨z, u, bb, v, h8, h9, hI, hR1⟩ := o24 j σ μ (xs (5 * j + 1)) (xs (5 * j + 2)) (xs (5 * j + 3)) hj1 hR
      exact lc_lie F2 hP hM hO hS hj hl h8 h9 hI (by omega) (by omega) (hend u v hR1)
    by_cases c25 : y = (25 : Int32)
    · subst c25
      refine g_sw (off := 1679) (tgt := 1718) hx hb dL_law_39 (by decide) (by decide) (by decide) ?_
      obtain ⟨z, u, bb, v, h8, h9, hI, hR1⟩ := o25 j σ μ (xs (5 * j + 1)) hj1 hR
      exact lc_clock F2 hP hM hO hS hj hl h8 h9 hI (by omega) (by omega) (hend u v hR1)
    by_cases c26 : y = (26 : Int32)
    · subst c26
      refine g_sw (off := 1735) (tgt := 1774) hx hb dL_law_39 (by decide) (by decide) (by decide) ?_
      obtain ⟨z, u, bb, v, h8, h9, hI, hR1⟩ := o26 j σ μ (xs (5 * j + 1)) (xs (5 * j + 2)) hj1 hR
      exact lc_save F2 hP hM hO hS hj hl h8 h9 hI (by omega) (by omega) (hend u v hR1)
    by_cases c27 : y = (27 : Int32)
    · subst c27
      refine g_sw (off := 1819) (tgt := 1858) hx hb dL_law_39 (by decide) (by decide) (by decide) ?_
      obtain ⟨z, u, bb, v, h8, h9, hI, hR1⟩ := o27 j σ μ (xs (5 * j + 1)) hj1 hR
      exact lc_load F2 hP hM hO hS hj hl h8 h9 hI (by omega) (by omega) (hend u v hR1)
    by_cases c28 : y = (28 : Int32)
    · subst c28
      refine g_sw (off := 1875) (tgt := 1914) hx hb dL_law_39 (by decide) (by decide) (by decide) ?_
      obtain ⟨z, u, bb, v, h8, h9, hI, hR1⟩ := o28 j σ μ (xs (5 * j + 1)) (xs (5 * j + 2)) (xs (5 * j + 3)) hj1 hR
      exact lc_fault F2 hP hM hO hS hj hl h8 h9 hI (by omega) (by omega) (hend u v hR1)
    by_cases c29 : y = (29 : Int32)
    · subst c29
      refine g_sw (off := 1955) (tgt := 1994) hx hb dL_law_39 (by decide) (by decide) (by decide) ?_
      obtain ⟨z, u, bb, v, h8, h9, hI, hR1⟩ := o29 j σ μ (xs (5 * j + 1)) hj1 hR
      exact lc_position F2 hP hM hO hS hj hl h8 h9 hI (by omega) (by omega) (hend u v hR1)
    by_cases c30 : y = (30 : Int32)
    · subst c30
      refine g_sw (off := 2011) (tgt := 2050) hx hb dL_law_39 (by decide) (by decide) (by decide) ?_
      obtain ⟨z, u, bb, v, h8, h9, hI, hR1⟩ := o30 j σ μ (xs (5 * j + 1)) hj1 hR
      exact lc_hasLetGo F2 hP hM hO hS hj hl h8 h9 hI (by omega) (by omega) (hend u v hR1)
    by_cases c31 : y = (31 : Int32)
    · subst c31
      refine g_sw (off := 2074) (tgt := 2113) hx hb dL_law_39 (by decide) (by decide) (by decide) ?_
      obtain ⟨z, u, bb, v, h8, h9, hI, hR1⟩ := o31 j σ μ (xs (5 * j + 1)) hj1 hR
      exact lc_arm F2 hP hM hO hS hj hl h8 h9 hI (by omega) (by omega) (hend u v hR1)
    by_cases c32 : y = (32 : Int32)
    · subst c32
      refine g_sw (off := 2132) (tgt := 2171) hx hb dL_law_39 (by decide) (by decide) (by decide) ?_
      obtain ⟨z, u, bb, v, h8, h9, hI, hR1⟩ := o32 j σ μ (xs (5 * j + 1)) hj1 hR
      exact lc_give F2 hP hM hO hS hj hl h8 h9 hI (by omega) (by omega) (hend u v hR1)
    by_cases c33 : y = (33 : Int32)
    · subst c33
      refine g_sw (off := 2190) (tgt := 2229) hx hb dL_law_39 (by decide) (by decide) (by decide) ?_
      obtain ⟨z, u, bb, v, h8, h9, hI, hR1⟩ := o33 j σ μ (xs (5 * j + 1)) (xs (5 * j + 2)) hj1 hR
      exact lc_line F2 hP hM hO hS hj hl h8 h9 hI (by omega) (by omega) (hend u v hR1)
    by_cases c34 : y = (34 : Int32)
    · subst c34
      refine g_sw (off := 2260) (tgt := 2299) hx hb dL_law_39 (by decide) (by decide) (by decide) ?_
      obtain ⟨bb, u, v, h8, h9, hn, hc, hR1⟩ := o34 j σ μ hj1 hR
      exact lc_onShare F2 hP hM hO hS hj hl h8 h9 hn hc (by omega) (by omega) (hend u v hR1)
    by_cases c35 : y = (35 : Int32)
    · subst c35
      refine g_sw (off := 2303) (tgt := 2342) hx hb dL_law_39 (by decide) (by decide) (by decide) ?_
      obtain ⟨bb, u, v, h8, h9, hc, hR1⟩ := o35 j σ μ hj1 hR
      exact lc_meanOutput F2 hP hM hO hS hj hl h8 h9 hc (by omega) (by omega) (hend u v hR1)
    by_cases c36 : y = (36 : Int32)
    · subst c36
      refine g_sw (off := 2344) (tgt := 2383) hx hb dL_law_39 (by decide) (by decide) (by decide) ?_
      obtain ⟨bb, u, v, h8, h9, hR1⟩ := o36 j σ μ hj1 hR
      exact lc_checksum F2 hP hM hO hS hj hl h8 h9 (by omega) (by omega) (hend u v hR1)
    by_cases c37 : y = (37 : Int32)
    · subst c37
      refine g_sw (off := 2358) (tgt := 2397) hx hb dL_law_39 (by decide) (by decide) (by decide) ?_
      obtain ⟨bb, u, v, h8, h9, hR1⟩ := o37 j σ μ hj1 hR
      exact lc_isTrue F2 hP hM hO hS hj hl h8 h9 (by omega) (by omega) (hend u v hR1)
    refine g_sw (off := 2371) (tgt := 2410) hx hb dL_law_39 (by decide) (g_swd (vs := [(0 : Int32), (1 : Int32), (2 : Int32), (3 : Int32), (4 : Int32), (5 : Int32), (6 : Int32), (7 : Int32), (8 : Int32), (9 : Int32), (10 : Int32), (11 : Int32), (12 : Int32), (13 : Int32), (14 : Int32), (15 : Int32), (16 : Int32), (17 : Int32), (18 : Int32), (19 : Int32), (20 : Int32), (21 : Int32), (22 : Int32), (23 : Int32), (24 : Int32), (25 : Int32), (26 : Int32), (27 : Int32), (28 : Int32), (29 : Int32), (30 : Int32), (31 : Int32), (32 : Int32), (33 : Int32), (34 : Int32), (35 : Int32), (36 : Int32), (37 : Int32)]) (by decide +kernel) ?_) (by decide) ?_
    · simp only [List.mem_cons, List.not_mem_nil, or_false, not_or]
      exact ⟨c0, c1, c2, c3, c4, c5, c6, c7, c8, c9, c10, c11, c12, c13, c14, c15, c16, c17, c18, c19, c20, c21, c22, c23, c24, c25, c26, c27, c28, c29, c30, c31, c32, c33, c34, c35, c36, c37⟩
    · exact W.widen (k := 200 + 4 * j + 4) (n := 20000 + 24 * j + 24) (by omega) (by omega) (hend σ μ (hskip j σ μ hR) fo H locs ls hP hM hO hS hl)

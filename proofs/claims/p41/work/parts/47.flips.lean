theorem mwnL_flips_1 : Cond.classLink RL 8 RX8 ∈ wsL_flips := by decide +kernel
theorem mwnL_flips_2 : Cond.instantiable RX8 16 ∈ wsL_flips := by decide +kernel
theorem mwnL_flips_3 : Cond.initialized RX8 ∈ wsL_flips := by decide +kernel
theorem mwnL_flips_4 : Cond.methodLink RL 138 yX8_init ∈ wsL_flips := by decide +kernel
theorem mwnL_flips_5 : Cond.instanceMethod yX8_init ∈ wsL_flips := by decide +kernel
theorem mwbL_flips_182 : Cond.constant RL 182 (nI 1000000) ∈ wsL_flips := by decide +kernel
theorem mwbL_flips_176 : Cond.classLink RL 176 "[[I" ∈ wsL_flips := by decide +kernel
theorem mwbL_flips_z : Cond.arrayClass .boolean ∈ wsL_flips := by decide +kernel
abbrev rmL_flips : Room := { frames := 12, cells := 2590, slots := 14700, locals := 460 }
theorem nVL_flips : yL_flips.cls ≠ "java/lang/invoke/MethodHandle" ∧ yL_flips.cls ≠ "java/lang/invoke/VarHandle" ∧ (parseMethodDescriptor yL_flips.desc).map (fun d => d.parameters.length) = some 1 := by decide +kernel
section FLP
variable {p : Program} {l : Launch} {e : Env} {s : State} {m : MethodId} {args : Array Value} {below : List Frame} {meth : Method} {c : Code} {H : Heap} {locs : List Loc} {Q : State → Prop} {ls : Array Slot} {D : va_G} {cy : Nat → ClassId} {b L : Nat} {xs : Nat → Int32} {q q2 r : Nat → Nat} {σ ρ : TS} {C S : Nat}
set_option maxHeartbeats 8000000 in
set_option maxRecDepth 100000 in
theorem fl_chk (F : lG p l s m args c cL_flips 14 wsL_flips D cy b L xs) (hq : ∀ i, i < 3 → r i = q2 (1 + i)) {τ n row t k : Nat} (hFL : FLs τ n ρ σ) (hrow : row < 18) (hk : k < 3) (hC : C + 15 ≤ 2590) (hSl : S + 84 ≤ 14700) (hP : va_P D vwCl (gS 78 q (TX cy q) σ ++ gS 6 q2 (BX cy r) ρ) H) (hD : va_D (fun a => s.heap.size ≤ a) (gS 78 q (TX cy q) σ ++ gS 6 q2 (BX cy r) ρ)) (hS : va_S (fun a => s.heap.size ≤ a) s.heap H locs) (hl : lv_has ls 14 [(11, .int (nI k)), (9, .int (nI row)), (6, .int (nI t)), (5, .int (nI τ)), (4, .ref (q2 5)), (3, .ref (q2 4)), (2, .ref (q2 0)), (1, .ref (q 0)), (0, .ref b)])
    (kk : ∀ (ls1 : Array Slot) (H1 : Heap) (locs1 : List Loc), lv_has ls1 14 [(11, .int (nI (k + 1))), (9, .int (nI row)), (6, .int (nI t)), (5, .int (nI τ)), (4, .ref (q2 5)), (3, .ref (q2 4)), (2, .ref (q2 0)), (1, .ref (q 0)), (0, .ref b)] → va_P D vwCl (gS 78 q (TX cy q) σ ++ gS 6 q2 (BX cy r) ρ) H1 → va_D (fun a => s.heap.size ≤ a) (gS 78 q (TX cy q) σ ++ gS 6 q2 (BX cy r) ρ) → va_S (fun a => s.heap.size ≤ a) s.heap H1 locs1 → W p l e rmL_flips s m args below meth c H1 locs1 (C + 15) (S + 84) Q (F0 m 276 ls1 [])) : W p l e rmL_flips s m args below meth c H locs (C) (S) Q (F0 m 276 ls []) := by
  obtain ⟨hx, hb, hml, hown, hts, hK, hX, hNt, hlf, hN8, hXs, hbl⟩ := id F
  refine lv_iload hx hb dL_flips_276 (lv_at hl 0 rfl) ?_
  refine lv_iconst (v := (3 : Int32)) hx hb dL_flips_278 (by decide) ?_
  refine lv_icmp_ge (tgt := 382) hx hb dL_flips_279 (by decide) (fun h => absurd h (nI_ge (b := 3) hk (by decide))) (fun _ => ?_)
  refine sgL_flips_282 F hP hD hS hl.1 (lv_at hl 7 rfl) (lv_at hl 0 rfl) (FL_m hk hFL) (okZ_l _) ⟨Nat.le_of_ble_eq_true rfl, Nat.le_of_ble_eq_true rfl⟩ (by show _ ≤ 2590; omega) (by show _ ≤ 14700; omega) (fun H locs hP hD hS => ?_)
  refine lv_aload_n hx hb dL_flips_296 rfl (lv_at hl 5 rfl) ?_
  refine lv_iload hx hb dL_flips_297 (lv_at hl 0 rfl) ?_
  refine w2_iald (k := 4) (j := k) hx hb hK hP (by decide) (fun _ => rfl) 0 rfl (vin_nI hk (by decide)) (nI_clamp (by omega)) dL_flips_299 ?_
  refine lv_icmp_ne (tgt := 374) hx hb dL_flips_300 (by decide) (fun h => (h rfl).elim) (fun _ => ?_)
  obtain ⟨v, hv, ev⟩ := FL_n hk hFL
  refine sgL_flips_303 F hP hD hS hl.1 (lv_at hl 7 rfl) (lv_at hl 0 rfl) hv (okZ_l _) ⟨Nat.le_of_ble_eq_true rfl, Nat.le_of_ble_eq_true rfl⟩ (by show _ ≤ 2590; omega) (by show _ ≤ 14700; omega) (fun H locs hP hD hS => ?_)
  have key : ∀ x : Int32, (if ρ 5 k = 0 then (1 : Int32) else 0) = x → W p l e rmL_flips s m args below meth c H locs (C + 5 + 5) (S + 28 + 28) Q (F0 m 330 ls [.int x, .int (askR (zB (.inl v)))]) := fun x hx1 => by
    refine lv_icmp_ne (tgt := 374) hx hb dL_flips_330 (by decide) (fun h => (h (ev.trans hx1)).elim) (fun _ => ?_)
    refine sgL_flips_333 F hP hD hS hl.1 (lv_at hl 7 rfl) (lv_at hl 1 rfl) (lv_at hl 0 rfl) (FL_w hk hrow hFL) (okZ_l _) ⟨Nat.le_of_ble_eq_true rfl, Nat.le_of_ble_eq_true rfl⟩ (by show _ ≤ 2590; omega) (by show _ ≤ 14700; omega) (fun H locs hP hD hS => ?_)
    refine lv_aload_n hx hb dL_flips_363 rfl (lv_at hl 6 rfl) ?_
    refine lv_iload hx hb dL_flips_364 (lv_at hl 0 rfl) ?_
    refine w2_aald (k := 0) (j := k) hx hb hK hP (by decide) (fun _ => rfl) 6 rfl rfl (vin_nI hk (by decide)) (nI_clamp (by omega)) dL_flips_366 ?_
    rw [hq k hk]
    refine lv_iload hx hb dL_flips_367 (lv_at hl 1 rfl) ?_
    refine w2_iald (k := (1 + k)) (j := row) hx hb hK hP (by omega) (fun f => bx_row cy r hk f) 0 rfl (vin_nI hrow (by decide)) (nI_clamp (by omega)) dL_flips_369 ?_
    refine lv_i2s hx hb dL_flips_370 rfl ?_
    refine lv_icmp_eq (tgt := 376) hx hb dL_flips_371 (by decide) (fun _ => ?_) (fun h => (h rfl).elim)
    refine lv_iinc (k := 0) (v := nI (k + 1)) (lv' := [(11, .int (nI (k + 1))), (9, .int (nI row)), (6, .int (nI t)), (5, .int (nI τ)), (4, .ref (q2 5)), (3, .ref (q2 4)), (2, .ref (q2 0)), (1, .ref (q 0)), (0, .ref b)]) hx hb dL_flips_376 hl rfl (nI_1 k) (by decide) rfl (fun ls hl => ?_)
    refine lv_goto (tgt := 276) hx hb dL_flips_379 (by decide) ?_
    exact kk _ _ _ hl hP hD hS
  refine lv_aload hx hb dL_flips_317 (lv_at hl 4 rfl) ?_
  refine lv_iload hx hb dL_flips_319 (lv_at hl 0 rfl) ?_
  refine w2_zald (k := 5) (j := k) hx hb hK hP (by decide) (fun _ => rfl) 1 rfl (vin_nI hk (by decide)) (nI_clamp (by omega)) dL_flips_321 ?_
  refine lv_if_eq (tgt := 329) hx hb dL_flips_322 (by decide) (fun h5 => ?_) (fun h5 => ?_)
  · refine lv_iconst (v := (1 : Int32)) hx hb dL_flips_329 (by decide) ?_
    exact key 1 (if_pos h5)
  · refine lv_iconst (v := (0 : Int32)) hx hb dL_flips_325 (by decide) ?_
    refine lv_goto (tgt := 330) hx hb dL_flips_326 (by decide) ?_
    exact key 0 (if_neg h5)
set_option maxHeartbeats 8000000 in
set_option maxRecDepth 100000 in
theorem fl_273 (F : lG p l s m args c cL_flips 14 wsL_flips D cy b L xs) (hq : ∀ i, i < 3 → r i = q2 (1 + i)) {τ n row t : Nat} (hFL : FLs τ n ρ σ) (hrow : row < 18) (hC : C + 45 ≤ 2590) (hSl : S + 252 ≤ 14700) (hP : va_P D vwCl (gS 78 q (TX cy q) σ ++ gS 6 q2 (BX cy r) ρ) H) (hD : va_D (fun a => s.heap.size ≤ a) (gS 78 q (TX cy q) σ ++ gS 6 q2 (BX cy r) ρ)) (hS : va_S (fun a => s.heap.size ≤ a) s.heap H locs) (hl : lv_has ls 14 [(9, .int (nI row)), (6, .int (nI t)), (5, .int (nI τ)), (4, .ref (q2 5)), (3, .ref (q2 4)), (2, .ref (q2 0)), (1, .ref (q 0)), (0, .ref b)])
    (kk : ∀ (ls1 : Array Slot) (H1 : Heap) (locs1 : List Loc), lv_has ls1 14 [(6, .int (nI (t + 1))), (5, .int (nI τ)), (4, .ref (q2 5)), (3, .ref (q2 4)), (2, .ref (q2 0)), (1, .ref (q 0)), (0, .ref b)] → va_P D vwCl (gS 78 q (TX cy q) σ ++ gS 6 q2 (BX cy r) ρ) H1 → va_D (fun a => s.heap.size ≤ a) (gS 78 q (TX cy q) σ ++ gS 6 q2 (BX cy r) ρ) → va_S (fun a => s.heap.size ≤ a) s.heap H1 locs1 → W p l e rmL_flips s m args below meth c H1 locs1 (C + 45) (S + 252) Q (F0 m 31 ls1 [])) : W p l e rmL_flips s m args below meth c H locs (C) (S) Q (F0 m 273 ls []) := by
  obtain ⟨hx, hb, hml, hown, hts, hK, hX, hNt, hlf, hN8, hXs, hbl⟩ := id F
  refine lv_iconst (v := nI 0) hx hb dL_flips_273 (by decide) ?_
  refine lv_istore (lv' := [(11, .int (nI 0)), (9, .int (nI row)), (6, .int (nI t)), (5, .int (nI τ)), (4, .ref (q2 5)), (3, .ref (q2 4)), (2, .ref (q2 0)), (1, .ref (q 0)), (0, .ref b)]) hx hb dL_flips_274 hl (by decide) rfl (fun ls hl => ?_)
  refine fl_chk F hq hFL hrow (k := 0) (by decide) (by omega) (by omega) hP hD hS hl (fun ls H locs hl hP hD hS => ?_)
  refine fl_chk F hq hFL hrow (k := 1) (by decide) (by omega) (by omega) hP hD hS hl (fun ls H locs hl hP hD hS => ?_)
  refine fl_chk F hq hFL hrow (k := 2) (by decide) (by omega) (by omega) hP hD hS hl (fun ls H locs hl hP hD hS => ?_)
  refine lv_iload hx hb dL_flips_276 (lv_at hl 0 rfl) ?_
  refine lv_iconst (v := (3 : Int32)) hx hb dL_flips_278 (by decide) ?_
  refine lv_icmp_ge (tgt := 382) hx hb dL_flips_279 (by decide) (fun _ => ?_) (fun h => (h (by decide)).elim)
  refine lv_iinc (k := 2) (v := nI (t + 1)) (lv' := [(6, .int (nI (t + 1))), (11, .int (nI (2 + 1))), (9, .int (nI row)), (5, .int (nI τ)), (4, .ref (q2 5)), (3, .ref (q2 4)), (2, .ref (q2 0)), (1, .ref (q 0)), (0, .ref b)]) hx hb dL_flips_382 hl rfl (nI_1 t) (by decide) rfl (fun ls hl => ?_)
  refine lv_goto (tgt := 31) hx hb dL_flips_385 (by decide) ?_
  exact kk _ _ _ (lv_sub hl [0, 3, 4, 5, 6, 7, 8] rfl) hP hD hS
set_option maxHeartbeats 8000000 in
set_option maxRecDepth 100000 in
theorem fl_87 (F : lG p l s m args c cL_flips 14 wsL_flips D cy b L xs) (hq : ∀ i, i < 3 → r i = q2 (1 + i)) {τ n row t ci bit : Nat} (hFL : FLs τ n ρ σ) (hrow : row < 18) (hci : ci < 3) (hbit : bit < 16) (hC : C + 50 ≤ 2590) (hSl : S + 280 ≤ 14700) (hP : va_P D vwCl (gS 78 q (TX cy q) σ ++ gS 6 q2 (BX cy r) ρ) H) (hD : va_D (fun a => s.heap.size ≤ a) (gS 78 q (TX cy q) σ ++ gS 6 q2 (BX cy r) ρ)) (hS : va_S (fun a => s.heap.size ≤ a) s.heap H locs) (hl : lv_has ls 14 [(10, .int (nI bit)), (9, .int (nI row)), (8, .int (nI ci)), (6, .int (nI t)), (5, .int (nI τ)), (4, .ref (q2 5)), (3, .ref (q2 4)), (2, .ref (q2 0)), (1, .ref (q 0)), (0, .ref b)])
    (kk : ∀ (u ρ1 : TS) (ls1 : Array Slot) (H1 : Heap) (locs1 : List Loc), FLs τ n ρ1 u → lv_has ls1 14 [(6, .int (nI (t + 1))), (5, .int (nI τ)), (4, .ref (q2 5)), (3, .ref (q2 4)), (2, .ref (q2 0)), (1, .ref (q 0)), (0, .ref b)] → va_P D vwCl (gS 78 q (TX cy q) u ++ gS 6 q2 (BX cy r) ρ1) H1 → va_D (fun a => s.heap.size ≤ a) (gS 78 q (TX cy q) u ++ gS 6 q2 (BX cy r) ρ1) → va_S (fun a => s.heap.size ≤ a) s.heap H1 locs1 → W p l e rmL_flips s m args below meth c H1 locs1 (C + 50) (S + 280) Q (F0 m 31 ls1 [])) : W p l e rmL_flips s m args below meth c H locs (C) (S) Q (F0 m 87 ls []) := by
  obtain ⟨hx, hb, hml, hown, hts, hK, hX, hNt, hlf, hN8, hXs, hbl⟩ := id F
  obtain ⟨u, hf, hFu⟩ := FL_flip hci hrow hbit hFL
  have hcu := (hFu.2.2.1 ci hci row hrow).1.2
  refine lv_aload_n hx hb dL_flips_87 rfl (lv_at hl 7 rfl) ?_
  refine lv_iload hx hb dL_flips_88 (lv_at hl 2 rfl) ?_
  refine w2_aald (k := 0) (j := ci) hx hb hK hP (by decide) (fun _ => rfl) 6 rfl rfl (vin_nI hci (by decide)) (nI_clamp (by omega)) dL_flips_90 ?_
  rw [hq ci hci]
  refine lv_iload hx hb dL_flips_91 (lv_at hl 1 rfl) ?_
  refine lv_dup2_11 hx hb dL_flips_93 rfl rfl ?_
  refine w2_iald (k := (1 + ci)) (j := row) hx hb hK hP (by omega) (fun f => bx_row cy r hci f) 0 rfl (vin_nI hrow (by decide)) (nI_clamp (by omega)) dL_flips_94 ?_
  refine lv_iconst (v := (1 : Int32)) hx hb dL_flips_95 (by decide) ?_
  refine lv_iload hx hb dL_flips_96 (lv_at hl 0 rfl) ?_
  refine lv_ishl hx hb dL_flips_98 ?_
  refine lv_ixor hx hb dL_flips_99 ?_
  refine w2_iast (k := (1 + ci)) (j := row) hx hb hK hP hD hS (by omega) (fun f => bx_row cy r hci f) 0 rfl (vin_nI hrow (by decide)) (nI_clamp (by omega)) dL_flips_100 (fun H locs hP hD hS => ?_)
  have hP : va_P D vwCl (gS 78 q (TX cy q) σ ++ gS 6 q2 (BX cy r) (fbX ci row bit ρ)) H := hP
  have hD : va_D (fun a => s.heap.size ≤ a) (gS 78 q (TX cy q) σ ++ gS 6 q2 (BX cy r) (fbX ci row bit ρ)) := hD
  refine sgL_flips_101 F hP hD hS hl.1 (lv_at hl 8 rfl) (lv_at hl 2 rfl) (lv_at hl 1 rfl) (lv_at hl 0 rfl) hf (okZ_l _) ⟨Nat.le_of_ble_eq_true rfl, Nat.le_of_ble_eq_true rfl⟩ (by show _ ≤ 2590; omega) (by show _ ≤ 14700; omega) (fun H locs hP hD hS => ?_)
  refine lv_aload_n hx hb dL_flips_136 rfl (lv_at hl 7 rfl) ?_
  refine lv_iload hx hb dL_flips_137 (lv_at hl 2 rfl) ?_
  refine w2_aald (k := 0) (j := ci) hx hb hK hP (by decide) (fun _ => rfl) 6 rfl rfl (vin_nI hci (by decide)) (nI_clamp (by omega)) dL_flips_139 ?_
  rw [hq ci hci]
  refine lv_iload hx hb dL_flips_140 (lv_at hl 1 rfl) ?_
  refine w2_iald (k := (1 + ci)) (j := row) hx hb hK hP (by omega) (fun f => bx_row cy r hci f) 0 rfl (vin_nI hrow (by decide)) (nI_clamp (by omega)) dL_flips_142 ?_
  refine ar_cSi (As := [.int ((fbX ci row bit ρ) (1 + ci) row)]) (rest := [.int (askR (.inl (nI (cntb (fbX ci row bit ρ (1 + ci) row)))))]) hx hb hml hown hts hK hP hD hS (fun hJ => mJ6_bitCount_0f7a4 l hJ (cnt_T hcu u)) (va_cwS 1 hts gL_flips_J6_bitCount_0f7a4 rfl rfl rfl nVJ6_bitCount_0f7a4 ⟨Nat.le_of_ble_eq_true rfl, Nat.le_of_ble_eq_true rfl⟩) rfl hl.1 rfl (Nat.le_of_ble_eq_true rfl) dL_flips_143 ⟨by show C + 5 ≤ 2590; omega, by show S + 28 ≤ 14700; omega⟩ (fun H locs hP hD hS => ?_)
  refine lv_icmp_eq (tgt := 273) hx hb dL_flips_146 (by decide) (fun _ => ?_) (fun h => (h rfl).elim)
  refine fl_273 F hq hFu hrow (by omega) (by omega) hP hD hS (lv_sub hl [1, 3, 4, 5, 6, 7, 8, 9] rfl) (fun ls H locs hl hP hD hS => ?_)
  refine W.widen (k := C + 50) (n := S + 280) (by omega) (by omega) ?_
  exact kk _ _ _ _ _ hFu hl hP hD hS
set_option maxHeartbeats 8000000 in
set_option maxRecDepth 100000 in
theorem fl_160 (F : lG p l s m args c cL_flips 14 wsL_flips D cy b L xs) (hq : ∀ i, i < 3 → r i = q2 (1 + i)) {τ row t k a : Nat} (hτ : τ < 2 ^ 31) (hk : k < 3) (hcu : 0 ≤ (ρ (1 + k) (τ % 18)).toInt ∧ (ρ (1 + k) (τ % 18)).toInt ≤ 65535) (hC : C ≤ 2590) (hSl : S ≤ 14700) (hP : va_P D vwCl (gS 78 q (TX cy q) σ ++ gS 6 q2 (BX cy r) ρ) H) (hD : va_D (fun a => s.heap.size ≤ a) (gS 78 q (TX cy q) σ ++ gS 6 q2 (BX cy r) ρ)) (hS : va_S (fun a => s.heap.size ≤ a) s.heap H locs) (hl : lv_has ls 14 [(12, .int (nI k)), (11, .int (nI a)), (9, .int (nI row)), (6, .int (nI t)), (5, .int (nI τ)), (4, .ref (q2 5)), (3, .ref (q2 4)), (2, .ref (q2 0)), (1, .ref (q 0)), (0, .ref b)])
    (kk : ∀ (ls1 : Array Slot) (H1 : Heap) (locs1 : List Loc), lv_has ls1 14 [(12, .int (nI (k + 1))), (11, .int (nI (a + (if lkT (τ % 18) k ρ 5 k = 0 then 1 else 0)))), (9, .int (nI row)), (6, .int (nI t)), (5, .int (nI τ)), (4, .ref (q2 5)), (3, .ref (q2 4)), (2, .ref (q2 0)), (1, .ref (q 0)), (0, .ref b)] → va_P D vwCl (gS 78 q (TX cy q) σ ++ gS 6 q2 (BX cy r) (lkT (τ % 18) k ρ)) H1 → va_D (fun a => s.heap.size ≤ a) (gS 78 q (TX cy q) σ ++ gS 6 q2 (BX cy r) (lkT (τ % 18) k ρ)) → va_S (fun a => s.heap.size ≤ a) s.heap H1 locs1 → W p l e rmL_flips s m args below meth c H1 locs1 (C) (S) Q (F0 m 160 ls1 [])) : W p l e rmL_flips s m args below meth c H locs (C) (S) Q (F0 m 160 ls []) := by
  obtain ⟨hx, hb, hml, hown, hts, hK, hX, hNt, hlf, hN8, hXs, hbl⟩ := id F
  have hi : τ % 18 < 18 := Nat.mod_lt _ (by decide)
  refine lv_iload hx hb dL_flips_160 (lv_at hl 0 rfl) ?_
  refine lv_iconst (v := (3 : Int32)) hx hb dL_flips_162 (by decide) ?_
  refine lv_icmp_ge (tgt := 262) hx hb dL_flips_163 (by decide) (fun h => absurd h (nI_ge (b := 3) hk (by decide))) (fun _ => ?_)
  refine lv_aload_n hx hb dL_flips_166 rfl (lv_at hl 7 rfl) ?_
  refine lv_iload hx hb dL_flips_167 (lv_at hl 0 rfl) ?_
  refine w2_aald (k := 0) (j := k) hx hb hK hP (by decide) (fun _ => rfl) 6 rfl rfl (vin_nI hk (by decide)) (nI_clamp (by omega)) dL_flips_169 ?_
  rw [hq k hk]
  refine lv_iload hx hb dL_flips_170 (lv_at hl 4 rfl) ?_
  refine lv_bipush (v := (18 : Int32)) hx hb dL_flips_172 (by decide) ?_
  refine lv_irem hx hb dL_flips_174 (by decide) ?_
  rw [show nI τ - nI τ / (18 : Int32) * (18 : Int32) = nI (τ % 18) from pk_rem (d := 18) (by omega) (by decide) (by decide)]
  refine w2_iald (k := (1 + k)) (j := (τ % 18)) hx hb hK hP (by omega) (fun f => bx_row cy r hk f) 0 rfl (vin_nI hi (by decide)) (nI_clamp (by omega)) dL_flips_175 ?_
  refine ar_cSi (As := [.int (ρ (1 + k) (τ % 18))]) (rest := []) hx hb hml hown hts hK hP hD hS (fun hJ => mJ6_bitCount_0f7a4 l hJ (cnt_T hcu σ)) (va_cwS 1 hts gL_flips_J6_bitCount_0f7a4 rfl rfl rfl nVJ6_bitCount_0f7a4 ⟨Nat.le_of_ble_eq_true rfl, Nat.le_of_ble_eq_true rfl⟩) rfl hl.1 rfl (Nat.le_of_ble_eq_true rfl) dL_flips_176 ⟨by show C ≤ 2590; omega, by show S ≤ 14700; omega⟩ (fun H locs hP hD hS => ?_)
  refine lv_istore (lv' := [(13, .int (nI (cntb ((ρ (1 + k) (τ % 18)))))), (12, .int (nI k)), (11, .int (nI a)), (9, .int (nI row)), (6, .int (nI t)), (5, .int (nI τ)), (4, .ref (q2 5)), (3, .ref (q2 4)), (2, .ref (q2 0)), (1, .ref (q 0)), (0, .ref b)]) hx hb dL_flips_179 hl (by decide) rfl (fun ls hl => ?_)
  have key253 : ∀ (z : Nat) (ls : Array Slot) (H : Heap) (locs : List Loc), (if lkT (τ % 18) k ρ 5 k = 0 then 1 else 0) = z → va_P D vwCl (gS 78 q (TX cy q) σ ++ gS 6 q2 (BX cy r) (lkT (τ % 18) k ρ)) H → va_D (fun a => s.heap.size ≤ a) (gS 78 q (TX cy q) σ ++ gS 6 q2 (BX cy r) (lkT (τ % 18) k ρ)) → va_S (fun a => s.heap.size ≤ a) s.heap H locs → lv_has ls 14 [(13, .int (nI (cntb ((ρ (1 + k) (τ % 18)))))), (12, .int (nI k)), (11, .int (nI a)), (9, .int (nI row)), (6, .int (nI t)), (5, .int (nI τ)), (4, .ref (q2 5)), (3, .ref (q2 4)), (2, .ref (q2 0)), (1, .ref (q 0)), (0, .ref b)] → W p l e rmL_flips s m args below meth c H locs (C) (S) Q (F0 m 253 ls [.int (nI z), .int (nI a)]) := fun z ls H locs hz hP hD hS hl => by
    subst hz
    refine lv_iadd hx hb dL_flips_253 ?_
    rw [nI_add]
    refine lv_istore (lv' := [(11, .int (nI (a + (if lkT (τ % 18) k ρ 5 k = 0 then 1 else 0)))), (13, .int (nI (cntb ((ρ (1 + k) (τ % 18)))))), (12, .int (nI k)), (9, .int (nI row)), (6, .int (nI t)), (5, .int (nI τ)), (4, .ref (q2 5)), (3, .ref (q2 4)), (2, .ref (q2 0)), (1, .ref (q 0)), (0, .ref b)]) hx hb dL_flips_254 hl (by decide) rfl (fun ls hl => ?_)
    refine lv_iinc (k := 2) (v := nI (k + 1)) (lv' := [(12, .int (nI (k + 1))), (11, .int (nI (a + (if lkT (τ % 18) k ρ 5 k = 0 then 1 else 0)))), (13, .int (nI (cntb ((ρ (1 + k) (τ % 18)))))), (9, .int (nI row)), (6, .int (nI t)), (5, .int (nI τ)), (4, .ref (q2 5)), (3, .ref (q2 4)), (2, .ref (q2 0)), (1, .ref (q 0)), (0, .ref b)]) hx hb dL_flips_256 hl rfl (nI_1 k) (by decide) rfl (fun ls hl => ?_)
    refine lv_goto (tgt := 160) hx hb dL_flips_259 (by decide) ?_
    exact kk _ _ _ (lv_sub hl [0, 1, 3, 4, 5, 6, 7, 8, 9, 10] rfl) hP hD hS
  have key237 : ∀ (y : Int32) (ρ1 : TS) (H : Heap) (locs : List Loc), lk1 (τ % 18) k ρ = ρ1 → (if ρ1 5 k = 0 then (if nI (cntb (ρ (1 + k) (τ % 18))) ≤ 1 then (0 : Int32) else 1) else 1) = y → va_P D vwCl (gS 78 q (TX cy q) σ ++ gS 6 q2 (BX cy r) ρ1) H → va_D (fun a => s.heap.size ≤ a) (gS 78 q (TX cy q) σ ++ gS 6 q2 (BX cy r) ρ1) → va_S (fun a => s.heap.size ≤ a) s.heap H locs → W p l e rmL_flips s m args below meth c H locs (C) (S) Q (F0 m 237 ls [.int y, .int (nI k), .ref (q2 5)]) := fun y ρ1 H locs h1 hy hP hD hS => by
    have hb1 : vp_nar .boolean y = y := by
      rw [← hy]
      split
      · split
        · decide
        · decide
      · decide
    refine w2_zast (k := 5) (j := k) hx hb hK hP hD hS (by decide) (fun _ => rfl) 1 rfl (vin_nI hk (by decide)) (nI_clamp (by omega)) hb1 dL_flips_237 (fun H locs hP hD hS => ?_)
    have e2 : st2 ρ1 5 k y = lkT (τ % 18) k ρ := by
      unfold lkT lk2
      rw [h1, hy]
    rw [e2] at hP hD
    refine lv_iload hx hb dL_flips_238 (lv_at hl 2 rfl) ?_
    refine lv_aload hx hb dL_flips_240 (lv_at hl 6 rfl) ?_
    refine lv_iload hx hb dL_flips_242 (lv_at hl 1 rfl) ?_
    refine w2_zald (k := 5) (j := k) hx hb hK hP (by decide) (fun _ => rfl) 1 rfl (vin_nI hk (by decide)) (nI_clamp (by omega)) dL_flips_244 ?_
    refine lv_if_eq (tgt := 252) hx hb dL_flips_245 (by decide) (fun h5 => ?_) (fun h5 => ?_)
    · refine lv_iconst (v := nI 1) hx hb dL_flips_252 (by decide) ?_
      exact key253 1 _ _ _ (if_pos h5) hP hD hS hl
    · refine lv_iconst (v := nI 0) hx hb dL_flips_248 (by decide) ?_
      refine lv_goto (tgt := 253) hx hb dL_flips_249 (by decide) ?_
      exact key253 0 _ _ _ (if_neg h5) hP hD hS hl
  have key214 : ∀ (ρ1 : TS) (H : Heap) (locs : List Loc), lk1 (τ % 18) k ρ = ρ1 → va_P D vwCl (gS 78 q (TX cy q) σ ++ gS 6 q2 (BX cy r) ρ1) H → va_D (fun a => s.heap.size ≤ a) (gS 78 q (TX cy q) σ ++ gS 6 q2 (BX cy r) ρ1) → va_S (fun a => s.heap.size ≤ a) s.heap H locs → W p l e rmL_flips s m args below meth c H locs (C) (S) Q (F0 m 214 ls []) := fun ρ1 H locs h1 hP hD hS => by
    refine lv_aload hx hb dL_flips_214 (lv_at hl 6 rfl) ?_
    refine lv_iload hx hb dL_flips_216 (lv_at hl 1 rfl) ?_
    refine lv_aload hx hb dL_flips_218 (lv_at hl 6 rfl) ?_
    refine lv_iload hx hb dL_flips_220 (lv_at hl 1 rfl) ?_
    refine w2_zald (k := 5) (j := k) hx hb hK hP (by decide) (fun _ => rfl) 1 rfl (vin_nI hk (by decide)) (nI_clamp (by omega)) dL_flips_222 ?_
    refine lv_if_ne (tgt := 232) hx hb dL_flips_223 (by decide) (fun h5 => ?_) (fun h5 => ?_)
    · skip
      refine lv_iconst (v := (1 : Int32)) hx hb dL_flips_232 (by decide) ?_
      refine lv_goto (tgt := 237) hx hb dL_flips_233 (by decide) ?_
      exact key237 1 ρ1 _ _ h1 (if_neg h5) hP hD hS
    · skip
      refine lv_iload hx hb dL_flips_226 (lv_at hl 0 rfl) ?_
      refine lv_iconst (v := (1 : Int32)) hx hb dL_flips_228 (by decide) ?_
      refine lv_icmp_le (tgt := 236) hx hb dL_flips_229 (by decide) (fun h6 => ?_) (fun h6 => ?_)
      · refine lv_iconst (v := (0 : Int32)) hx hb dL_flips_236 (by decide) ?_
        exact key237 0 ρ1 _ _ h1 (by rw [if_pos h5, if_pos h6]) hP hD hS
      · skip
        refine lv_iconst (v := (1 : Int32)) hx hb dL_flips_232 (by decide) ?_
        refine lv_goto (tgt := 237) hx hb dL_flips_233 (by decide) ?_
        exact key237 1 ρ1 _ _ h1 (by rw [if_pos h5, if_neg h6]) hP hD hS
  refine lv_aload hx hb dL_flips_181 (lv_at hl 6 rfl) ?_
  refine lv_iload hx hb dL_flips_183 (lv_at hl 1 rfl) ?_
  refine w2_zald (k := 5) (j := k) hx hb hK hP (by decide) (fun _ => rfl) 1 rfl (vin_nI hk (by decide)) (nI_clamp (by omega)) dL_flips_185 ?_
  refine lv_if_ne (tgt := 214) hx hb dL_flips_186 (by decide) (fun h5 => ?_) (fun h5 => ?_)
  · exact key214 ρ _ _ (by unfold lk1; rw [if_neg h5]) hP hD hS
  · skip
    refine lv_iload hx hb dL_flips_189 (lv_at hl 0 rfl) ?_
    refine lv_iconst (v := (1 : Int32)) hx hb dL_flips_191 (by decide) ?_
    refine lv_icmp_ne (tgt := 214) hx hb dL_flips_192 (by decide) (fun h6 => ?_) (fun h6 => ?_)
    · exact key214 ρ _ _ (by unfold lk1; rw [if_pos h5, if_neg h6]) hP hD hS
    · skip
      refine lv_aload_n hx hb dL_flips_195 rfl (lv_at hl 7 rfl) ?_
      refine lv_iload hx hb dL_flips_196 (lv_at hl 1 rfl) ?_
      refine lv_dup2_11 hx hb dL_flips_198 rfl rfl ?_
      refine w2_iald (k := 4) (j := k) hx hb hK hP (by decide) (fun _ => rfl) 0 rfl (vin_nI hk (by decide)) (nI_clamp (by omega)) dL_flips_199 ?_
      refine lv_iconst (v := (1 : Int32)) hx hb dL_flips_200 (by decide) ?_
      refine lv_iadd hx hb dL_flips_201 ?_
      refine w2_iast (k := 4) (j := k) hx hb hK hP hD hS (by decide) (fun _ => rfl) 0 rfl (vin_nI hk (by decide)) (nI_clamp (by omega)) dL_flips_202 (fun H locs hP hD hS => ?_)
      refine lv_aload_n hx hb dL_flips_203 rfl (lv_at hl 8 rfl) ?_
      refine lv_iload hx hb dL_flips_204 (lv_at hl 1 rfl) ?_
      refine w2_aald (k := 0) (j := k) hx hb hK hP (by decide) (fun _ => rfl) 6 rfl rfl (vin_nI hk (by decide)) (nI_clamp (by omega)) dL_flips_206 ?_
      rw [hq k hk]
      refine lv_iload hx hb dL_flips_207 (lv_at hl 5 rfl) ?_
      refine lv_bipush (v := (18 : Int32)) hx hb dL_flips_209 (by decide) ?_
      refine lv_irem hx hb dL_flips_211 (by decide) ?_
      rw [show nI τ - nI τ / (18 : Int32) * (18 : Int32) = nI (τ % 18) from pk_rem (d := 18) (by omega) (by decide) (by decide)]
      refine lv_iconst (v := (0 : Int32)) hx hb dL_flips_212 (by decide) ?_
      refine w2_iast (k := (1 + k)) (j := (τ % 18)) hx hb hK hP hD hS (by omega) (fun f => bx_row cy r hk f) 0 rfl (vin_nI hi (by decide)) (nI_clamp (by omega)) dL_flips_213 (fun H locs hP hD hS => ?_)
      exact key214 _ _ _ (by unfold lk1; rw [if_pos h5, if_pos h6]) hP hD hS
set_option maxHeartbeats 8000000 in
set_option maxRecDepth 100000 in
theorem fl_151 (F : lG p l s m args c cL_flips 14 wsL_flips D cy b L xs) (hq : ∀ i, i < 3 → r i = q2 (1 + i)) {τ n row t : Nat} (hτ : τ < 1000) (hFL : FLs τ n ρ σ) (hrow : row < 18) (hC : C + 50 ≤ 2590) (hSl : S + 280 ≤ 14700) (hP : va_P D vwCl (gS 78 q (TX cy q) σ ++ gS 6 q2 (BX cy r) ρ) H) (hD : va_D (fun a => s.heap.size ≤ a) (gS 78 q (TX cy q) σ ++ gS 6 q2 (BX cy r) ρ)) (hS : va_S (fun a => s.heap.size ≤ a) s.heap H locs) (hl : lv_has ls 14 [(9, .int (nI row)), (6, .int (nI t)), (5, .int (nI τ)), (4, .ref (q2 5)), (3, .ref (q2 4)), (2, .ref (q2 0)), (1, .ref (q 0)), (0, .ref b)])
    (kk : ∀ (n1 : Nat) (u ρ1 : TS) (ls1 : Array Slot) (H1 : Heap) (locs1 : List Loc), FLs (τ + 1) n1 ρ1 u → lv_has ls1 14 [(6, .int (nI (t + 1))), (5, .int (nI (τ + 1))), (4, .ref (q2 5)), (3, .ref (q2 4)), (2, .ref (q2 0)), (1, .ref (q 0)), (0, .ref b)] → va_P D vwCl (gS 78 q (TX cy q) u ++ gS 6 q2 (BX cy r) ρ1) H1 → va_D (fun a => s.heap.size ≤ a) (gS 78 q (TX cy q) u ++ gS 6 q2 (BX cy r) ρ1) → va_S (fun a => s.heap.size ≤ a) s.heap H1 locs1 → W p l e rmL_flips s m args below meth c H1 locs1 (C + 50) (S + 280) Q (F0 m 31 ls1 [])) : W p l e rmL_flips s m args below meth c H locs (C) (S) Q (F0 m 151 ls []) := by
  obtain ⟨hx, hb, hml, hown, hts, hK, hX, hNt, hlf, hN8, hXs, hbl⟩ := id F
  have hi : (τ + 1) % 18 < 18 := Nat.mod_lt _ (by decide)
  obtain ⟨n1, u, hf, hFu⟩ := FL_frame (by omega) hFL
  have hc0 := (hFL.2.2.1 0 (by decide) _ hi).1.2
  have hc1 : 0 ≤ (lkT ((τ + 1) % 18) 0 ρ (1 + 1) ((τ + 1) % 18)).toInt ∧ (lkT ((τ + 1) % 18) 0 ρ (1 + 1) ((τ + 1) % 18)).toInt ≤ 65535 := by
    rw [lkT_r _ (by decide) (by decide) (by decide)]
    exact (hFL.2.2.1 1 (by decide) _ hi).1.2
  have hc2 : 0 ≤ (lkT ((τ + 1) % 18) 1 (lkT ((τ + 1) % 18) 0 ρ) (1 + 2) ((τ + 1) % 18)).toInt ∧ (lkT ((τ + 1) % 18) 1 (lkT ((τ + 1) % 18) 0 ρ) (1 + 2) ((τ + 1) % 18)).toInt ≤ 65535 := by
    rw [lkT_r _ (by decide) (by decide) (by decide), lkT_r _ (by decide) (by decide) (by decide)]
    exact (hFL.2.2.1 2 (by decide) _ hi).1.2
  refine lv_iinc (k := 2) (v := nI (τ + 1)) (lv' := [(5, .int (nI (τ + 1))), (9, .int (nI row)), (6, .int (nI t)), (4, .ref (q2 5)), (3, .ref (q2 4)), (2, .ref (q2 0)), (1, .ref (q 0)), (0, .ref b)]) hx hb dL_flips_151 hl rfl (nI_1 τ) (by decide) rfl (fun ls hl => ?_)
  refine lv_iconst (v := nI 0) hx hb dL_flips_154 (by decide) ?_
  refine lv_istore (lv' := [(11, .int (nI 0)), (5, .int (nI (τ + 1))), (9, .int (nI row)), (6, .int (nI t)), (4, .ref (q2 5)), (3, .ref (q2 4)), (2, .ref (q2 0)), (1, .ref (q 0)), (0, .ref b)]) hx hb dL_flips_155 hl (by decide) rfl (fun ls hl => ?_)
  refine lv_iconst (v := nI 0) hx hb dL_flips_157 (by decide) ?_
  refine lv_istore (lv' := [(12, .int (nI 0)), (11, .int (nI 0)), (5, .int (nI (τ + 1))), (9, .int (nI row)), (6, .int (nI t)), (4, .ref (q2 5)), (3, .ref (q2 4)), (2, .ref (q2 0)), (1, .ref (q 0)), (0, .ref b)]) hx hb dL_flips_158 hl (by decide) rfl (fun ls hl => ?_)
  refine fl_160 F hq (τ := τ + 1) (by omega) (show 0 < 3 by decide) hc0 (by omega) (by omega) hP hD hS (lv_sub hl [0, 1, 3, 4, 2, 5, 6, 7, 8, 9] rfl) (fun ls H locs hl hP hD hS => ?_)
  refine fl_160 F hq (τ := τ + 1) (by omega) (show 1 < 3 by decide) hc1 (by omega) (by omega) hP hD hS hl (fun ls H locs hl hP hD hS => ?_)
  refine fl_160 F hq (τ := τ + 1) (by omega) (show 2 < 3 by decide) hc2 (by omega) (by omega) hP hD hS hl (fun ls H locs hl hP hD hS => ?_)
  have hl : lv_has ls 14 [(12, .int (nI (2 + 1))), (11, .int (nI (lkN ((τ + 1) % 18) ρ))), (9, .int (nI row)), (6, .int (nI t)), (5, .int (nI (τ + 1))), (4, .ref (q2 5)), (3, .ref (q2 4)), (2, .ref (q2 0)), (1, .ref (q 0)), (0, .ref b)] := hl
  have hP : va_P D vwCl (gS 78 q (TX cy q) σ ++ gS 6 q2 (BX cy r) (lkR ((τ + 1) % 18) ρ)) H := hP
  have hD : va_D (fun a => s.heap.size ≤ a) (gS 78 q (TX cy q) σ ++ gS 6 q2 (BX cy r) (lkR ((τ + 1) % 18) ρ)) := hD
  refine lv_iload hx hb dL_flips_160 (lv_at hl 0 rfl) ?_
  refine lv_iconst (v := (3 : Int32)) hx hb dL_flips_162 (by decide) ?_
  refine lv_icmp_ge (tgt := 262) hx hb dL_flips_163 (by decide) (fun _ => ?_) (fun h => (h (by decide)).elim)
  refine lv_aload_n hx hb dL_flips_262 rfl (lv_at hl 8 rfl) ?_
  refine ar_cVi (As := []) (rest := []) hx hb hml hown hts hK hP hD hS (fun hJ => mX8_frame l hJ hf) (cwV 0 hts gL_flips_X8_frame rfl rfl rfl nVX8_frame ⟨Nat.le_of_ble_eq_true rfl, Nat.le_of_ble_eq_true rfl⟩) (g_recv hK (w_first hP) kk_Tri ce_Tri rfl) rfl hl.1 rfl (Nat.le_of_ble_eq_true rfl) dL_flips_263 ⟨by show C ≤ 2590; omega, by show S ≤ 14700; omega⟩ (fun H locs hP hD hS => ?_)
  refine lv_iload hx hb dL_flips_266 (lv_at hl 1 rfl) ?_
  refine lv_icmp_eq (tgt := 273) hx hb dL_flips_268 (by decide) (fun _ => ?_) (fun h => (h rfl).elim)
  refine fl_273 F hq hFu hrow (by omega) (by omega) hP hD hS (lv_sub hl [2, 3, 4, 5, 6, 7, 8, 9] rfl) (fun ls H locs hl hP hD hS => ?_)
  refine W.widen (k := C + 50) (n := S + 280) (by omega) (by omega) ?_
  exact kk _ _ _ _ _ _ hFu hl hP hD hS
set_option maxHeartbeats 8000000 in
set_option maxRecDepth 100000 in
theorem fl_31 (F : lG p l s m args c cL_flips 14 wsL_flips D cy b L xs) (hq : ∀ i, i < 3 → r i = q2 (1 + i)) (hL : L < 2 ^ 31) {τ n t : Nat} (hτ : τ < 1000) (ht : t < 50) (hFL : FLs τ n ρ σ) (hC : C + 50 ≤ 2590) (hSl : S + 280 ≤ 14700) (hP : va_P D vwCl (gS 78 q (TX cy q) σ ++ gS 6 q2 (BX cy r) ρ) H) (hD : va_D (fun a => s.heap.size ≤ a) (gS 78 q (TX cy q) σ ++ gS 6 q2 (BX cy r) ρ)) (hS : va_S (fun a => s.heap.size ≤ a) s.heap H locs) (hl : lv_has ls 14 [(6, .int (nI t)), (5, .int (nI τ)), (4, .ref (q2 5)), (3, .ref (q2 4)), (2, .ref (q2 0)), (1, .ref (q 0)), (0, .ref b)])
    (kk : ∀ (τ1 n1 : Nat) (u ρ1 : TS) (ls1 : Array Slot) (H1 : Heap) (locs1 : List Loc), τ1 ≤ τ + 1 → FLs τ1 n1 ρ1 u → lv_has ls1 14 [(6, .int (nI (t + 1))), (5, .int (nI τ1)), (4, .ref (q2 5)), (3, .ref (q2 4)), (2, .ref (q2 0)), (1, .ref (q 0)), (0, .ref b)] → va_P D vwCl (gS 78 q (TX cy q) u ++ gS 6 q2 (BX cy r) ρ1) H1 → va_D (fun a => s.heap.size ≤ a) (gS 78 q (TX cy q) u ++ gS 6 q2 (BX cy r) ρ1) → va_S (fun a => s.heap.size ≤ a) s.heap H1 locs1 → W p l e rmL_flips s m args below meth c H1 locs1 (C + 50) (S + 280) Q (F0 m 31 ls1 [])) : W p l e rmL_flips s m args below meth c H locs (C) (S) Q (F0 m 31 ls []) := by
  obtain ⟨hx, hb, hml, hown, hts, hK, hX, hNt, hlf, hN8, hXs, hbl⟩ := id F
  obtain ⟨j, hj, ej⟩ := some_nI (if t < L then xs t else 0) (d := 1000000) (by decide) (by decide)
  refine lv_iload hx hb dL_flips_31 (lv_at hl 0 rfl) ?_
  refine lv_bipush (v := (50 : Int32)) hx hb dL_flips_33 (by decide) ?_
  refine lv_icmp_ge (tgt := 388) hx hb dL_flips_35 (by decide) (fun h => absurd h (nI_ge (b := 50) ht (by decide))) (fun _ => ?_)
  refine lv_aload_n hx hb dL_flips_38 rfl (lv_at hl 6 rfl) ?_
  refine lv_iload hx hb dL_flips_39 (lv_at hl 0 rfl) ?_
  refine ar_at (k := t) (rest := []) hx hb hml hown hts hXs hbl hL (by omega) hP hS (va_cwS 2 hts gL_flips_L_at rfl rfl rfl nVL_at ⟨Nat.le_of_ble_eq_true rfl, Nat.le_of_ble_eq_true rfl⟩) hl.1 (Nat.le_of_ble_eq_true rfl) dL_flips_41 ⟨by show C ≤ 2590; omega, by show S ≤ 14700; omega⟩ (fun H locs hP hS => ?_)
  refine lv_ldc (v := nI 1000000) hx hb hown (hts _ mwbL_flips_182) dL_flips_44 ?_
  refine ar_some (rest := []) hx hb hml hown hts (by decide) hP hS (va_cwS 2 hts gL_flips_L_some rfl rfl rfl nVL_some ⟨Nat.le_of_ble_eq_true rfl, Nat.le_of_ble_eq_true rfl⟩) hl.1 (Nat.le_of_ble_eq_true rfl) dL_flips_46 ⟨by show C ≤ 2590; omega, by show S ≤ 14700; omega⟩ (fun H locs hP hS => ?_)
  rw [ej]
  refine lv_istore (lv' := [(7, .int (nI j)), (6, .int (nI t)), (5, .int (nI τ)), (4, .ref (q2 5)), (3, .ref (q2 4)), (2, .ref (q2 0)), (1, .ref (q 0)), (0, .ref b)]) hx hb dL_flips_49 hl (by decide) rfl (fun ls hl => ?_)
  refine lv_iload hx hb dL_flips_51 (lv_at hl 0 rfl) ?_
  refine lv_iconst (v := (3 : Int32)) hx hb dL_flips_53 (by decide) ?_
  refine lv_idiv hx hb dL_flips_54 (by decide) ?_
  rw [show nI j / (3 : Int32) = nI (j / 3) from pk_div (d := 3) (by omega) (by decide) (by decide)]
  refine lv_iconst (v := (3 : Int32)) hx hb dL_flips_55 (by decide) ?_
  refine lv_irem hx hb dL_flips_56 (by decide) ?_
  rw [show nI (j / 3) - nI (j / 3) / (3 : Int32) * (3 : Int32) = nI ((j / 3) % 3) from pk_rem (d := 3) (by omega) (by decide) (by decide)]
  refine lv_istore (lv' := [(8, .int (nI ((j / 3) % 3))), (7, .int (nI j)), (6, .int (nI t)), (5, .int (nI τ)), (4, .ref (q2 5)), (3, .ref (q2 4)), (2, .ref (q2 0)), (1, .ref (q 0)), (0, .ref b)]) hx hb dL_flips_57 hl (by decide) rfl (fun ls hl => ?_)
  refine lv_iload hx hb dL_flips_59 (lv_at hl 1 rfl) ?_
  refine lv_bipush (v := (9 : Int32)) hx hb dL_flips_61 (by decide) ?_
  refine lv_idiv hx hb dL_flips_63 (by decide) ?_
  rw [show nI j / (9 : Int32) = nI (j / 9) from pk_div (d := 9) (by omega) (by decide) (by decide)]
  refine lv_bipush (v := (18 : Int32)) hx hb dL_flips_64 (by decide) ?_
  refine lv_irem hx hb dL_flips_66 (by decide) ?_
  rw [show nI (j / 9) - nI (j / 9) / (18 : Int32) * (18 : Int32) = nI ((j / 9) % 18) from pk_rem (d := 18) (by omega) (by decide) (by decide)]
  refine lv_istore (lv' := [(9, .int (nI ((j / 9) % 18))), (8, .int (nI ((j / 3) % 3))), (7, .int (nI j)), (6, .int (nI t)), (5, .int (nI τ)), (4, .ref (q2 5)), (3, .ref (q2 4)), (2, .ref (q2 0)), (1, .ref (q 0)), (0, .ref b)]) hx hb dL_flips_67 hl (by decide) rfl (fun ls hl => ?_)
  refine lv_iload hx hb dL_flips_69 (lv_at hl 2 rfl) ?_
  refine lv_sipush (v := (162 : Int32)) hx hb dL_flips_71 (by decide) ?_
  refine lv_idiv hx hb dL_flips_74 (by decide) ?_
  rw [show nI j / (162 : Int32) = nI (j / 162) from pk_div (d := 162) (by omega) (by decide) (by decide)]
  refine lv_bipush (v := (16 : Int32)) hx hb dL_flips_75 (by decide) ?_
  refine lv_irem hx hb dL_flips_77 (by decide) ?_
  rw [show nI (j / 162) - nI (j / 162) / (16 : Int32) * (16 : Int32) = nI ((j / 162) % 16) from pk_rem (d := 16) (by omega) (by decide) (by decide)]
  refine lv_istore (lv' := [(10, .int (nI ((j / 162) % 16))), (9, .int (nI ((j / 9) % 18))), (8, .int (nI ((j / 3) % 3))), (7, .int (nI j)), (6, .int (nI t)), (5, .int (nI τ)), (4, .ref (q2 5)), (3, .ref (q2 4)), (2, .ref (q2 0)), (1, .ref (q 0)), (0, .ref b)]) hx hb dL_flips_78 hl (by decide) rfl (fun ls hl => ?_)
  refine lv_iload hx hb dL_flips_80 (lv_at hl 3 rfl) ?_
  refine lv_iconst (v := (3 : Int32)) hx hb dL_flips_82 (by decide) ?_
  refine lv_irem hx hb dL_flips_83 (by decide) ?_
  rw [show nI j - nI j / (3 : Int32) * (3 : Int32) = nI (j % 3) from pk_rem (d := 3) (by omega) (by decide) (by decide)]
  refine lv_if_ne (tgt := 151) hx hb dL_flips_84 (by decide) (fun h0 => ?_) (fun h0 => ?_)
  · refine fl_151 F hq hτ hFL (row := j / 9 % 18) (Nat.mod_lt _ (by decide)) hC hSl hP hD hS (lv_sub hl [1, 4, 5, 6, 7, 8, 9, 10] rfl) (fun n1 u ρ1 ls H locs hFu hl hP hD hS => ?_)
    exact kk _ _ _ _ _ _ _ (Nat.le_refl _) hFu hl hP hD hS
  · refine fl_87 F hq hFL (row := j / 9 % 18) (ci := j / 3 % 3) (bit := j / 162 % 16) (Nat.mod_lt _ (by decide)) (Nat.mod_lt _ (by decide)) (Nat.mod_lt _ (by decide)) hC hSl hP hD hS (lv_sub hl [0, 1, 2, 4, 5, 6, 7, 8, 9, 10] rfl) (fun u ρ1 ls H locs hFu hl hP hD hS => ?_)
    exact kk _ _ _ _ _ _ _ (by omega) hFu hl hP hD hS
set_option maxHeartbeats 8000000 in
set_option maxRecDepth 100000 in
theorem fl_loop (F : lG p l s m args c cL_flips 14 wsL_flips D cy b L xs) (hq : ∀ i, i < 3 → r i = q2 (1 + i)) (hL : L < 2 ^ 31) (hr : meth.sig.returnType = some .boolean) (hlocks : meth.locks = false) : ∀ (f t τ n : Nat) (σ ρ : TS) (H : Heap) (locs : List Loc) (ls : Array Slot), t + f = 50 → τ ≤ t → FLs τ n ρ σ → va_P D vwCl (gS 78 q (TX cy q) σ ++ gS 6 q2 (BX cy r) ρ) H → va_D (fun a => s.heap.size ≤ a) (gS 78 q (TX cy q) σ ++ gS 6 q2 (BX cy r) ρ) → va_S (fun a => s.heap.size ≤ a) s.heap H locs → lv_has ls 14 [(6, .int (nI t)), (5, .int (nI τ)), (4, .ref (q2 5)), (3, .ref (q2 4)), (2, .ref (q2 0)), (1, .ref (q 0)), (0, .ref b)] → W p l e rmL_flips s m args below meth c H locs (90 + 50 * t) (700 + 280 * t) (MQ below (pQ 1) args s 2590 14700 yN) (F0 m 31 ls [])
  | 0, t, τ, n, σ, ρ, H, locs, ls, ht, hτ, hFL, hP, hD, hS, hl => by
    obtain ⟨hx, hb, hml, hown, hts, hK, hX, hNt, hlf, hN8, hXs, hbl⟩ := id F
    obtain rfl : t = 50 := by omega
    refine lv_iload hx hb dL_flips_31 (lv_at hl 0 rfl) ?_
    refine lv_bipush (v := (50 : Int32)) hx hb dL_flips_33 (by decide) ?_
    refine lv_icmp_ge (tgt := 388) hx hb dL_flips_35 (by decide) (fun _ => ?_) (fun h => (h (by decide)).elim)
    refine lv_aload_n hx hb dL_flips_388 rfl (lv_at hl 5 rfl) ?_
    refine ar_cVi (As := []) (rest := []) hx hb hml hown hts hK hP hD hS (fun hJ => mX8_isTrue l hJ (FL_true hFL)) (cwV 0 hts gL_flips_X8_isTrue rfl rfl rfl nVX8_isTrue ⟨Nat.le_of_ble_eq_true rfl, Nat.le_of_ble_eq_true rfl⟩) (g_recv hK (w_first hP) kk_Tri ce_Tri rfl) rfl hl.1 rfl (Nat.le_of_ble_eq_true rfl) dL_flips_389 ⟨Nat.le_of_ble_eq_true rfl, Nat.le_of_ble_eq_true rfl⟩ (fun H locs hP hD hS => ?_)
    exact law_ret hx hb hr hlocks hS rfl dL_flips_392
  | f + 1, t, τ, n, σ, ρ, H, locs, ls, ht, hτ, hFL, hP, hD, hS, hl => by
    refine fl_31 F hq hL (τ := τ) (t := t) (by omega) (by omega) hFL (by omega) (by omega) hP hD hS hl (fun τ1 n1 u ρ1 ls H locs h1 hFu hl hP hD hS => ?_)
    refine W.widen (k := 90 + 50 * (t + 1)) (n := 700 + 280 * (t + 1)) (by omega) (by omega) ?_
    exact fl_loop F hq hL hr hlocks f (t + 1) τ1 n1 u ρ1 H locs ls (by omega) (by omega) hFu hP hD hS hl
end FLP
set_option maxHeartbeats 8000000 in
set_option maxRecDepth 100000 in
theorem mL_flips (l : Launch) (hlf : l.stackTraces = false) {D : va_G} {cy : Nat → ClassId} {b L : Nat} {xs : Nat → Int32} (hL : L < 2 ^ 31) : Met l yL_flips wsL_flips rmL_flips (va_Pc [.ref b] (fPre D cy b L xs)) (pQ 1) 2590 14700 yN := by
  refine Met.ofW (cc := cL_flips) (maxL := 14) (ret := (some .boolean)) (by decide +kernel) rfl ?_
  intro p e s m args below meth c s₁ B hml hv
  obtain ⟨rfl, ⟨hK, hN8⟩, ⟨hX, hNt⟩, hXs, hbl⟩ := hv
  have hx := B.exec
  have hb := B.bytes
  have hr := B.returns
  have hlocks := B.notSynchronized
  have hown : s.vm.findClass RL = some m.cls := findClass_of_methodNamed B.named
  have hts := atoms_spec (ws := wsL_flips) B.pre
  have F : lG p l s m _ c cL_flips 14 wsL_flips D cy b L xs := ⟨hx, hb, hml, hown, hts, hK, hX, hNt, hlf, hN8, hXs, hbl⟩
  have hS : va_S (fun a : Nat => s.heap.size ≤ a) s.heap s.heap [] := va_S.rf
  have hP : va_P D vwCl [] s.heap := fun k q h => by simp at h
  have hD : va_D (fun a : Nat => s.heap.size ≤ a) [] := ⟨fun i j p q h => by simp at h, fun k q h => by simp at h⟩
  have hl := lv_entry ([.ref b]) (n := 14) (Nat.le_of_ble_eq_true rfl)
  rw [lg_entry_eq]
  generalize (lg_sl ([.ref b]) ++ List.replicate (14 - (lg_sl ([.ref b])).length) Slot.unset).toArray = ls at hl ⊢
  have hl : lv_has ls 14 [(0, .ref b)] := hl
  refine ar_tri (WO := []) (ic := 8) (ii := 138) hx hb hml hown hts hK hN8 (fun _ h => h) hP hD hS (fun w h => (gx_flips_ask_0 w h).1) mwnL_flips_1 mwnL_flips_2 mwnL_flips_3 mwnL_flips_4 mwnL_flips_5 gL_flips_X8_init ⟨Nat.le_of_ble_eq_true rfl, Nat.le_of_ble_eq_true rfl⟩ hl.1 (Nat.le_of_ble_eq_true rfl) (Nat.le_of_ble_eq_true rfl) dL_flips_0 dL_flips_3 dL_flips_4 (fun q H locs hP hD hS => ?_)
  have hP : va_P D vwCl (gS 78 q (TX cy q) T0) H := hP
  have hD : va_D (fun a => s.heap.size ≤ a) (gS 78 q (TX cy q) T0) := hD
  refine lv_astore_n (lv' := [(1, .ref (q 0)), (0, .ref b)]) hx hb dL_flips_7 rfl hl (by decide) rfl (fun ls hl => ?_)
  refine lv_iconst (v := (3 : Int32)) hx hb dL_flips_8 (by decide) ?_
  refine lv_bipush (v := (18 : Int32)) hx hb dL_flips_9 (by decide) ?_
  refine n_mna3 (K' := 18) hx hb hown (hts _ mwbL_flips_176) (hN8 _ (List.mem_of_getElem? (i := 10) rfl)) (hts _ mwarL_flips) hK hP hD hS (fun _ h => h) 0 6 rfl rfl (by decide) rfl (by decide) (Nat.le_of_ble_eq_true rfl) (Nat.le_of_ble_eq_true rfl) dL_flips_11 (fun q0 r H hP hD hS => ?_)
  refine lv_astore_n (lv' := [(2, .ref q0), (1, .ref (q 0)), (0, .ref b)]) hx hb dL_flips_15 rfl hl (by decide) rfl (fun ls hl => ?_)
  refine lv_iconst (v := (3 : Int32)) hx hb dL_flips_16 (by decide) ?_
  refine n_newa (atype := .int) (ty := .int) (N' := 3) (a0 := (3, .inl (fun _ => 0))) hx hb (hts _ mwarL_flips) rfl hK hP hD hS (fun _ h => h) 0 rfl (fun _ => rfl) (by decide) rfl (by decide) (Nat.le_of_ble_eq_true rfl) (Nat.le_of_ble_eq_true rfl) dL_flips_17 (fun a4 H hP hD hS => ?_)
  refine lv_astore_n (lv' := [(3, .ref a4), (2, .ref q0), (1, .ref (q 0)), (0, .ref b)]) hx hb dL_flips_19 rfl hl (by decide) rfl (fun ls hl => ?_)
  refine lv_iconst (v := (3 : Int32)) hx hb dL_flips_20 (by decide) ?_
  refine n_newa (atype := .boolean) (ty := .boolean) (N' := 3) (a0 := (3, .inl (fun _ => 0))) hx hb (hts _ mwbL_flips_z) rfl hK hP hD hS (fun _ h => h) 1 rfl (fun _ => rfl) (by decide) rfl (by decide) (Nat.le_of_ble_eq_true rfl) (Nat.le_of_ble_eq_true rfl) dL_flips_21 (fun a5 H hP hD hS => ?_)
  refine lv_astore (lv' := [(4, .ref a5), (3, .ref a4), (2, .ref q0), (1, .ref (q 0)), (0, .ref b)]) hx hb dL_flips_23 hl (by decide) rfl (fun ls hl => ?_)
  refine lv_iconst (v := nI 0) hx hb dL_flips_25 (by decide) ?_
  refine lv_istore (lv' := [(5, .int (nI 0)), (4, .ref a5), (3, .ref a4), (2, .ref q0), (1, .ref (q 0)), (0, .ref b)]) hx hb dL_flips_26 hl (by decide) rfl (fun ls hl => ?_)
  refine lv_iconst (v := nI 0) hx hb dL_flips_28 (by decide) ?_
  refine lv_istore (lv' := [(6, .int (nI 0)), (5, .int (nI 0)), (4, .ref a5), (3, .ref a4), (2, .ref q0), (1, .ref (q 0)), (0, .ref b)]) hx hb dL_flips_29 hl (by decide) rfl (fun ls hl => ?_)
  have hP : va_P D vwCl (gS 78 q (TX cy q) T0 ++ gS 6 (qB q0 a4 a5 r) (BX cy r) (fun _ _ => 0)) H := by
    rw [List.append_assoc, List.append_assoc] at hP
    exact hP
  have hD : va_D (fun a => s.heap.size ≤ a) (gS 78 q (TX cy q) T0 ++ gS 6 (qB q0 a4 a5 r) (BX cy r) (fun _ _ => 0)) := by
    rw [List.append_assoc, List.append_assoc] at hD
    exact hD
  refine W.widen (k := 90 + 50 * 0) (n := 700 + 280 * 0) (Nat.le_of_ble_eq_true rfl) (Nat.le_of_ble_eq_true rfl) ?_
  exact fl_loop F (q2 := qB q0 a4 a5 r) (r := r) (fun i hi => qB_r hi) hL hr hlocks 50 0 0 0 T0 (fun _ _ => 0) H _ ls (by decide) (by decide) FL_0 hP hD hS hl

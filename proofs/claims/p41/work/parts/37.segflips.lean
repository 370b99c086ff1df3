theorem mwarL_flips : Cond.arrayClass .int ∈ wsL_flips := by decide +kernel
set_option maxHeartbeats 4000000 in
set_option maxRecDepth 100000 in
theorem sgL_flips_101 {p : Program} {l : Launch} {e : Env} {R : Room} {s : State} {m : MethodId} {args : Array Value} {below : List Frame} {meth : Method} {c : Code} {H : Heap} {locs : List Loc} {Q : State → Prop} {ls : Array Slot} {D : va_G} {cy : Nat → ClassId} {b L : Nat} {xs : Nat → Int32} {WO : va_W} {q : Nat → Nat} {σ u : TS} {z : Int32 ⊕ Nat} {C S : Nat} (F : lG p l s m args c cL_flips 14 wsL_flips D cy b L xs) (hP : va_P D vwCl (gS 78 q (TX cy q) σ ++ WO) H) (hD : va_D (fun a => s.heap.size ≤ a) (gS 78 q (TX cy q) σ ++ WO)) (hS : va_S (fun a => s.heap.size ≤ a) s.heap H locs) (hsz : ls.size = 14) (l1 : ls[1]? = some (.val (.ref (q 0)))) {x8 : Int32} (l8 : ls[8]? = some (.val (.int x8))) {x9 : Int32} (l9 : ls[9]? = some (.val (.int x9))) {x10 : Int32} (l10 : ls[10]? = some (.val (.int x10))) (hp : sX8_flip x8 (x9 / (6 : Int32)) (x9 - x9 / (6 : Int32) * (6 : Int32)) x10 σ = some (z, u)) (hz : okZ z) (hR : rmL_ask.frames + 1 ≤ R.frames ∧ 8 + (4 + 11) + rmL_ask.locals ≤ R.locals) (hC : C + 5 ≤ R.cells) (hSl : S + 28 ≤ R.slots) (kk : ∀ (H1 : Heap) (locs1 : List Loc), va_P D vwCl (gS 78 q (TX cy q) u ++ WO) H1 → va_D (fun a => s.heap.size ≤ a) (gS 78 q (TX cy q) u ++ WO) → va_S (fun a => s.heap.size ≤ a) s.heap H1 locs1 → W p l e R s m args below meth c H1 locs1 (C + 5) (S + 28) Q (F0 m 136 ls [.int (askR z)])) : W p l e R s m args below meth c H locs C S Q (F0 m 101 ls []) := by
  obtain ⟨hx, hb, hml, hown, hts, hK, hX, hNt, hlf, hN8, hXs, hbl⟩ := F
  refine lv_aload_n hx hb dL_flips_101 rfl l1 ?_
  refine lv_bipush (v := (102 : Int32)) hx hb dL_flips_102 (by decide) ?_
  refine lv_iconst (v := (4 : Int32)) hx hb dL_flips_104 (by decide) ?_
  refine ar_new (N' := 4) hx hb (hts _ mwarL_flips) hK hP hD hS (fun _ h => h) (by decide) rfl (Nat.le_of_ble_eq_true rfl) (by omega) (by omega) dL_flips_105 (fun a H hP hD hS => ?_)
  refine lv_dup hx hb dL_flips_107 rfl ?_
  refine lv_iconst (v := (0 : Int32)) hx hb dL_flips_108 (by decide) ?_
  refine lv_iload hx hb dL_flips_109 l8 ?_
  refine ar_st (j := 0) hx hb hK hP hD hS (by decide) rfl dL_flips_111 (fun H locs hP hD hS => ?_)
  refine lv_dup hx hb dL_flips_112 rfl ?_
  refine lv_iconst (v := (1 : Int32)) hx hb dL_flips_113 (by decide) ?_
  refine lv_iload hx hb dL_flips_114 l9 ?_
  refine lv_bipush (v := (6 : Int32)) hx hb dL_flips_116 (by decide) ?_
  refine lv_idiv hx hb dL_flips_118 (by decide) ?_
  refine ar_st (j := 1) hx hb hK hP hD hS (by decide) rfl dL_flips_119 (fun H locs hP hD hS => ?_)
  refine lv_dup hx hb dL_flips_120 rfl ?_
  refine lv_iconst (v := (2 : Int32)) hx hb dL_flips_121 (by decide) ?_
  refine lv_iload hx hb dL_flips_122 l9 ?_
  refine lv_bipush (v := (6 : Int32)) hx hb dL_flips_124 (by decide) ?_
  refine lv_irem hx hb dL_flips_126 (by decide) ?_
  refine ar_st (j := 2) hx hb hK hP hD hS (by decide) rfl dL_flips_127 (fun H locs hP hD hS => ?_)
  refine lv_dup hx hb dL_flips_128 rfl ?_
  refine lv_iconst (v := (3 : Int32)) hx hb dL_flips_129 (by decide) ?_
  refine lv_iload hx hb dL_flips_130 l10 ?_
  refine ar_st (j := 3) hx hb hK hP hD hS (by decide) rfl dL_flips_132 (fun H locs hP hD hS => ?_)
  refine ar_ask (As := [.ref (q 0), .int (102 : Int32), .ref a]) (rest := []) hx hb hml hown hts hK hX hNt hP hD hS (fun hJ ha => mL_ask_flip l hlf hJ ha hp hz) (vx_cwSW 3 hts gL_flips_L_ask rfl rfl rfl nVL_ask hR) rfl hsz rfl (Nat.le_of_ble_eq_true rfl) dL_flips_133 ⟨by have := hR.1; omega, by have := hR.1; omega⟩ (fun H locs hP hD hS => ?_)
  refine W.widen (k := C + 5) (n := S + 28) (by omega) (by omega) ?_
  exact kk H locs hP hD hS
set_option maxHeartbeats 4000000 in
set_option maxRecDepth 100000 in
theorem sgL_flips_282 {p : Program} {l : Launch} {e : Env} {R : Room} {s : State} {m : MethodId} {args : Array Value} {below : List Frame} {meth : Method} {c : Code} {H : Heap} {locs : List Loc} {Q : State → Prop} {ls : Array Slot} {D : va_G} {cy : Nat → ClassId} {b L : Nat} {xs : Nat → Int32} {WO : va_W} {q : Nat → Nat} {σ u : TS} {z : Int32 ⊕ Nat} {C S : Nat} (F : lG p l s m args c cL_flips 14 wsL_flips D cy b L xs) (hP : va_P D vwCl (gS 78 q (TX cy q) σ ++ WO) H) (hD : va_D (fun a => s.heap.size ≤ a) (gS 78 q (TX cy q) σ ++ WO)) (hS : va_S (fun a => s.heap.size ≤ a) s.heap H locs) (hsz : ls.size = 14) (l1 : ls[1]? = some (.val (.ref (q 0)))) {x11 : Int32} (l11 : ls[11]? = some (.val (.int x11))) (hp : sX8_mended x11 σ = some (z, u)) (hz : okZ z) (hR : rmL_ask.frames + 1 ≤ R.frames ∧ 8 + (4 + 11) + rmL_ask.locals ≤ R.locals) (hC : C + 5 ≤ R.cells) (hSl : S + 28 ≤ R.slots) (kk : ∀ (H1 : Heap) (locs1 : List Loc), va_P D vwCl (gS 78 q (TX cy q) u ++ WO) H1 → va_D (fun a => s.heap.size ≤ a) (gS 78 q (TX cy q) u ++ WO) → va_S (fun a => s.heap.size ≤ a) s.heap H1 locs1 → W p l e R s m args below meth c H1 locs1 (C + 5) (S + 28) Q (F0 m 296 ls [.int (askR z)])) : W p l e R s m args below meth c H locs C S Q (F0 m 282 ls []) := by
  obtain ⟨hx, hb, hml, hown, hts, hK, hX, hNt, hlf, hN8, hXs, hbl⟩ := F
  refine lv_aload_n hx hb dL_flips_282 rfl l1 ?_
  refine lv_bipush (v := (109 : Int32)) hx hb dL_flips_283 (by decide) ?_
  refine lv_iconst (v := (1 : Int32)) hx hb dL_flips_285 (by decide) ?_
  refine ar_new (N' := 1) hx hb (hts _ mwarL_flips) hK hP hD hS (fun _ h => h) (by decide) rfl (Nat.le_of_ble_eq_true rfl) (by omega) (by omega) dL_flips_286 (fun a H hP hD hS => ?_)
  refine lv_dup hx hb dL_flips_288 rfl ?_
  refine lv_iconst (v := (0 : Int32)) hx hb dL_flips_289 (by decide) ?_
  refine lv_iload hx hb dL_flips_290 l11 ?_
  refine ar_st (j := 0) hx hb hK hP hD hS (by decide) rfl dL_flips_292 (fun H locs hP hD hS => ?_)
  refine ar_ask (As := [.ref (q 0), .int (109 : Int32), .ref a]) (rest := []) hx hb hml hown hts hK hX hNt hP hD hS (fun hJ ha => mL_ask_mended l hlf hJ ha hp hz) (vx_cwSW 3 hts gL_flips_L_ask rfl rfl rfl nVL_ask hR) rfl hsz rfl (Nat.le_of_ble_eq_true rfl) dL_flips_293 ⟨by have := hR.1; omega, by have := hR.1; omega⟩ (fun H locs hP hD hS => ?_)
  refine W.widen (k := C + 5) (n := S + 28) (by omega) (by omega) ?_
  exact kk H locs hP hD hS
set_option maxHeartbeats 4000000 in
set_option maxRecDepth 100000 in
theorem sgL_flips_303 {p : Program} {l : Launch} {e : Env} {R : Room} {s : State} {m : MethodId} {args : Array Value} {below : List Frame} {meth : Method} {c : Code} {H : Heap} {locs : List Loc} {Q : State → Prop} {ls : Array Slot} {D : va_G} {cy : Nat → ClassId} {b L : Nat} {xs : Nat → Int32} {WO : va_W} {q : Nat → Nat} {σ u : TS} {z : Int32 ⊕ Nat} {C S : Nat} (F : lG p l s m args c cL_flips 14 wsL_flips D cy b L xs) (hP : va_P D vwCl (gS 78 q (TX cy q) σ ++ WO) H) (hD : va_D (fun a => s.heap.size ≤ a) (gS 78 q (TX cy q) σ ++ WO)) (hS : va_S (fun a => s.heap.size ≤ a) s.heap H locs) (hsz : ls.size = 14) (l1 : ls[1]? = some (.val (.ref (q 0)))) {x11 : Int32} (l11 : ls[11]? = some (.val (.int x11))) (hp : sX8_isOn x11 σ = some (z, u)) (hz : okZ z) (hR : rmL_ask.frames + 1 ≤ R.frames ∧ 8 + (4 + 11) + rmL_ask.locals ≤ R.locals) (hC : C + 5 ≤ R.cells) (hSl : S + 28 ≤ R.slots) (kk : ∀ (H1 : Heap) (locs1 : List Loc), va_P D vwCl (gS 78 q (TX cy q) u ++ WO) H1 → va_D (fun a => s.heap.size ≤ a) (gS 78 q (TX cy q) u ++ WO) → va_S (fun a => s.heap.size ≤ a) s.heap H1 locs1 → W p l e R s m args below meth c H1 locs1 (C + 5) (S + 28) Q (F0 m 317 ls [.int (askR (zB z))])) : W p l e R s m args below meth c H locs C S Q (F0 m 303 ls []) := by
  obtain ⟨hx, hb, hml, hown, hts, hK, hX, hNt, hlf, hN8, hXs, hbl⟩ := F
  refine lv_aload_n hx hb dL_flips_303 rfl l1 ?_
  refine lv_bipush (v := (110 : Int32)) hx hb dL_flips_304 (by decide) ?_
  refine lv_iconst (v := (1 : Int32)) hx hb dL_flips_306 (by decide) ?_
  refine ar_new (N' := 1) hx hb (hts _ mwarL_flips) hK hP hD hS (fun _ h => h) (by decide) rfl (Nat.le_of_ble_eq_true rfl) (by omega) (by omega) dL_flips_307 (fun a H hP hD hS => ?_)
  refine lv_dup hx hb dL_flips_309 rfl ?_
  refine lv_iconst (v := (0 : Int32)) hx hb dL_flips_310 (by decide) ?_
  refine lv_iload hx hb dL_flips_311 l11 ?_
  refine ar_st (j := 0) hx hb hK hP hD hS (by decide) rfl dL_flips_313 (fun H locs hP hD hS => ?_)
  refine ar_ask (As := [.ref (q 0), .int (110 : Int32), .ref a]) (rest := []) hx hb hml hown hts hK hX hNt hP hD hS (fun hJ ha => mL_ask_isOn l hlf hJ ha hp hz) (vx_cwSW 3 hts gL_flips_L_ask rfl rfl rfl nVL_ask hR) rfl hsz rfl (Nat.le_of_ble_eq_true rfl) dL_flips_314 ⟨by have := hR.1; omega, by have := hR.1; omega⟩ (fun H locs hP hD hS => ?_)
  refine W.widen (k := C + 5) (n := S + 28) (by omega) (by omega) ?_
  exact kk H locs hP hD hS
set_option maxHeartbeats 4000000 in
set_option maxRecDepth 100000 in
theorem sgL_flips_333 {p : Program} {l : Launch} {e : Env} {R : Room} {s : State} {m : MethodId} {args : Array Value} {below : List Frame} {meth : Method} {c : Code} {H : Heap} {locs : List Loc} {Q : State → Prop} {ls : Array Slot} {D : va_G} {cy : Nat → ClassId} {b L : Nat} {xs : Nat → Int32} {WO : va_W} {q : Nat → Nat} {σ u : TS} {z : Int32 ⊕ Nat} {C S : Nat} (F : lG p l s m args c cL_flips 14 wsL_flips D cy b L xs) (hP : va_P D vwCl (gS 78 q (TX cy q) σ ++ WO) H) (hD : va_D (fun a => s.heap.size ≤ a) (gS 78 q (TX cy q) σ ++ WO)) (hS : va_S (fun a => s.heap.size ≤ a) s.heap H locs) (hsz : ls.size = 14) (l1 : ls[1]? = some (.val (.ref (q 0)))) {x9 : Int32} (l9 : ls[9]? = some (.val (.int x9))) {x11 : Int32} (l11 : ls[11]? = some (.val (.int x11))) (hp : sX8_word x11 (x9 / (6 : Int32)) (x9 - x9 / (6 : Int32) * (6 : Int32)) σ = some (z, u)) (hz : okZ z) (hR : rmL_ask.frames + 1 ≤ R.frames ∧ 8 + (4 + 11) + rmL_ask.locals ≤ R.locals) (hC : C + 5 ≤ R.cells) (hSl : S + 28 ≤ R.slots) (kk : ∀ (H1 : Heap) (locs1 : List Loc), va_P D vwCl (gS 78 q (TX cy q) u ++ WO) H1 → va_D (fun a => s.heap.size ≤ a) (gS 78 q (TX cy q) u ++ WO) → va_S (fun a => s.heap.size ≤ a) s.heap H1 locs1 → W p l e R s m args below meth c H1 locs1 (C + 5) (S + 28) Q (F0 m 363 ls [.int (askR z)])) : W p l e R s m args below meth c H locs C S Q (F0 m 333 ls []) := by
  obtain ⟨hx, hb, hml, hown, hts, hK, hX, hNt, hlf, hN8, hXs, hbl⟩ := F
  refine lv_aload_n hx hb dL_flips_333 rfl l1 ?_
  refine lv_bipush (v := (119 : Int32)) hx hb dL_flips_334 (by decide) ?_
  refine lv_iconst (v := (3 : Int32)) hx hb dL_flips_336 (by decide) ?_
  refine ar_new (N' := 3) hx hb (hts _ mwarL_flips) hK hP hD hS (fun _ h => h) (by decide) rfl (Nat.le_of_ble_eq_true rfl) (by omega) (by omega) dL_flips_337 (fun a H hP hD hS => ?_)
  refine lv_dup hx hb dL_flips_339 rfl ?_
  refine lv_iconst (v := (0 : Int32)) hx hb dL_flips_340 (by decide) ?_
  refine lv_iload hx hb dL_flips_341 l11 ?_
  refine ar_st (j := 0) hx hb hK hP hD hS (by decide) rfl dL_flips_343 (fun H locs hP hD hS => ?_)
  refine lv_dup hx hb dL_flips_344 rfl ?_
  refine lv_iconst (v := (1 : Int32)) hx hb dL_flips_345 (by decide) ?_
  refine lv_iload hx hb dL_flips_346 l9 ?_
  refine lv_bipush (v := (6 : Int32)) hx hb dL_flips_348 (by decide) ?_
  refine lv_idiv hx hb dL_flips_350 (by decide) ?_
  refine ar_st (j := 1) hx hb hK hP hD hS (by decide) rfl dL_flips_351 (fun H locs hP hD hS => ?_)
  refine lv_dup hx hb dL_flips_352 rfl ?_
  refine lv_iconst (v := (2 : Int32)) hx hb dL_flips_353 (by decide) ?_
  refine lv_iload hx hb dL_flips_354 l9 ?_
  refine lv_bipush (v := (6 : Int32)) hx hb dL_flips_356 (by decide) ?_
  refine lv_irem hx hb dL_flips_358 (by decide) ?_
  refine ar_st (j := 2) hx hb hK hP hD hS (by decide) rfl dL_flips_359 (fun H locs hP hD hS => ?_)
  refine ar_ask (As := [.ref (q 0), .int (119 : Int32), .ref a]) (rest := []) hx hb hml hown hts hK hX hNt hP hD hS (fun hJ ha => mL_ask_word l hlf hJ ha hp hz) (vx_cwSW 3 hts gL_flips_L_ask rfl rfl rfl nVL_ask hR) rfl hsz rfl (Nat.le_of_ble_eq_true rfl) dL_flips_360 ⟨by have := hR.1; omega, by have := hR.1; omega⟩ (fun H locs hP hD hS => ?_)
  refine W.widen (k := C + 5) (n := S + 28) (by omega) (by omega) ?_
  exact kk H locs hP hD hS

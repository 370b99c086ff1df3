theorem mwnL_sticks_1 : Cond.classLink RL 8 RX8 ∈ wsL_sticks := by decide +kernel
theorem mwnL_sticks_2 : Cond.instantiable RX8 16 ∈ wsL_sticks := by decide +kernel
theorem mwnL_sticks_3 : Cond.initialized RX8 ∈ wsL_sticks := by decide +kernel
theorem mwnL_sticks_4 : Cond.methodLink RL 138 yX8_init ∈ wsL_sticks := by decide +kernel
theorem mwnL_sticks_5 : Cond.instanceMethod yX8_init ∈ wsL_sticks := by decide +kernel
theorem mwbL_sticks_80 : Cond.constant RL 80 (-2000000004) ∈ wsL_sticks := by decide +kernel
abbrev rmL_sticks : Room := { frames := 12, cells := 221, slots := 1387, locals := 460 }
theorem nVL_sticks : yL_sticks.cls ≠ "java/lang/invoke/MethodHandle" ∧ yL_sticks.cls ≠ "java/lang/invoke/VarHandle" ∧ (parseMethodDescriptor yL_sticks.desc).map (fun d => d.parameters.length) = some 1 := by decide +kernel
set_option maxHeartbeats 8000000 in
set_option maxRecDepth 100000 in
theorem kL_sticks_59 {p : Program} {l : Launch} {e : Env} {s : State} {m : MethodId} {args : Array Value} {below : List Frame} {meth : Method} {c : Code} {H : Heap} {locs : List Loc} {ls : Array Slot} {D : va_G} {cy : Nat → ClassId} {b L : Nat} {xs : Nat → Int32} (F : lG p l s m args c cL_sticks 7 wsL_sticks D cy b L xs) (hr : meth.sig.returnType = some .boolean) (hlocks : meth.locks = false) {q : Nat → Nat} {w bt n : Nat} {v : Int32} (hw : w < 3) (hbt : bt < 14) (hn : n < 8000) (hv : v = if (nI n >>> (nI bt &&& 31)) &&& 1 = 0 then 1 else 0) (hP : va_P D vwCl (gS 78 q (TX cy q) T0 ++ []) H) (hD : va_D (fun a => s.heap.size ≤ a) (gS 78 q (TX cy q) T0 ++ [])) (hS : va_S (fun a => s.heap.size ≤ a) s.heap H locs) (hl : lv_has ls 7 [(4, .int (nI n)), (3, .int (nI bt)), (2, .int (nI w)), (1, .ref (q 0)), (0, .ref b)]) : W p l e rmL_sticks s m args below meth c H locs 78 585 (MQ below (pQ 1) args s 221 1387 yN) (F0 m 59 ls [.int v]) := by
  obtain ⟨hx, hb, hml, hown, hts, hK, hX, hNt, hlf, hN8, hXs, hbl⟩ := id F
  have v01 : v = 0 ∨ v = 1 := by
    rw [hv]
    split
    · exact Or.inr rfl
    · exact Or.inl rfl
  obtain ⟨σ1, σ2, σ3, σ4, σ5, σ6, σ7, σ8, σ9, σ10, σ11, σ12, σ13, σ14, y, ⟨c1, c2, c3, c4⟩, ⟨c5, c6⟩, ⟨f7, g7, o7, w7⟩, ⟨f8, g8, o8, w8⟩, ⟨f9, g9, o9, w9⟩, ⟨l1, l2, l3⟩, ⟨m1, m2, m3, m4, m5, m6⟩, n1, n2, n3, n4, n5, n6, n7⟩ := sticks_all hn hbt hw hv
  refine lv_istore (lv' := [(5, .int v), (4, .int (nI n)), (3, .int (nI bt)), (2, .int (nI w)), (1, .ref (q 0)), (0, .ref b)]) hx hb dL_sticks_59 hl (by decide) rfl (fun ls hl => ?_)
  refine sgL_sticks_61 F hP hD hS hl.1 (lv_at hl 4 rfl) (lv_at hl 1 rfl) c1 (okZ_l _) ⟨Nat.le_of_ble_eq_true rfl, Nat.le_of_ble_eq_true rfl⟩ (Nat.le_of_ble_eq_true rfl) (Nat.le_of_ble_eq_true rfl) (fun H locs hP hD hS => ?_)
  refine lv_iconst (v := (1 : Int32)) hx hb dL_sticks_88 (by decide) ?_
  refine lv_icmp_ne (tgt := 252) hx hb dL_sticks_89 (by decide) (fun h => (h rfl).elim) (fun _ => ?_)
  refine sgL_sticks_92 F hP hD hS hl.1 (lv_at hl 4 rfl) c2 (okZ_l _) ⟨Nat.le_of_ble_eq_true rfl, Nat.le_of_ble_eq_true rfl⟩ (Nat.le_of_ble_eq_true rfl) (Nat.le_of_ble_eq_true rfl) (fun H locs hP hD hS => ?_)
  refine lv_iconst (v := (2 : Int32)) hx hb dL_sticks_118 (by decide) ?_
  refine lv_icmp_ne (tgt := 252) hx hb dL_sticks_119 (by decide) (fun h => (h rfl).elim) (fun _ => ?_)
  refine sgL_sticks_122 F hP hD hS hl.1 (lv_at hl 4 rfl) c3 (okZ_l _) ⟨Nat.le_of_ble_eq_true rfl, Nat.le_of_ble_eq_true rfl⟩ (Nat.le_of_ble_eq_true rfl) (Nat.le_of_ble_eq_true rfl) (fun H locs hP hD hS => ?_)
  refine lv_iconst (v := (3 : Int32)) hx hb dL_sticks_148 (by decide) ?_
  refine lv_icmp_ne (tgt := 252) hx hb dL_sticks_149 (by decide) (fun h => (h rfl).elim) (fun _ => ?_)
  refine sgL_sticks_152 F hP hD hS hl.1 (lv_at hl 4 rfl) c4 (okZ_l _) ⟨Nat.le_of_ble_eq_true rfl, Nat.le_of_ble_eq_true rfl⟩ (Nat.le_of_ble_eq_true rfl) (Nat.le_of_ble_eq_true rfl) (fun H locs hP hD hS => ?_)
  refine lv_iconst (v := (-1 : Int32)) hx hb dL_sticks_173 (by decide) ?_
  refine lv_icmp_ne (tgt := 252) hx hb dL_sticks_174 (by decide) (fun h => (h rfl).elim) (fun _ => ?_)
  refine sgL_sticks_177 F hP hD hS hl.1 (lv_at hl 4 rfl) (lv_at hl 3 rfl) (lv_at hl 2 rfl) (lv_at hl 0 rfl) (fun h => by have e : v = (if (0 : Int32) = 1 then 1 else 0) := h.trans (by decide); rw [← e]; exact c5) (fun h => by have e : v = (if (1 : Int32) = 1 then 1 else 0) := (v01.resolve_left h).trans (by decide); rw [← e]; exact c5) (okZ_l _) ⟨Nat.le_of_ble_eq_true rfl, Nat.le_of_ble_eq_true rfl⟩ (Nat.le_of_ble_eq_true rfl) (Nat.le_of_ble_eq_true rfl) (fun H locs hP hD hS => ?_)
  refine lv_if_ne (tgt := 252) hx hb dL_sticks_211 (by decide) (fun h => (h (by decide)).elim) (fun _ => ?_)
  refine sgL_sticks_214 F hP hD hS hl.1 (lv_at hl 4 rfl) (lv_at hl 3 rfl) (lv_at hl 2 rfl) (lv_at hl 0 rfl) (fun h => by have e : v = (if (0 : Int32) = 1 then 1 else 0) := h.trans (by decide); rw [← e]; exact c6) (fun h => by have e : v = (if (1 : Int32) = 1 then 1 else 0) := (v01.resolve_left h).trans (by decide); rw [← e]; exact c6) (okZ_l _) ⟨Nat.le_of_ble_eq_true rfl, Nat.le_of_ble_eq_true rfl⟩ (Nat.le_of_ble_eq_true rfl) (Nat.le_of_ble_eq_true rfl) (fun H locs hP hD hS => ?_)
  refine lv_iconst (v := (1 : Int32)) hx hb dL_sticks_248 (by decide) ?_
  refine lv_icmp_eq (tgt := 254) hx hb dL_sticks_249 (by decide) (fun _ => ?_) (fun h => (h (by decide)).elim)
  refine lv_iconst (v := (1 : Int32)) hx hb dL_sticks_254 (by decide) ?_
  refine lv_istore (lv' := [(6, .int (1 : Int32)), (5, .int v), (4, .int (nI n)), (3, .int (nI bt)), (2, .int (nI w)), (1, .ref (q 0)), (0, .ref b)]) hx hb dL_sticks_255 hl (by decide) rfl (fun ls hl => ?_)
  refine lv_iload hx hb dL_sticks_257 (lv_at hl 0 rfl) ?_
  refine lv_iconst (v := (3 : Int32)) hx hb dL_sticks_259 (by decide) ?_
  refine lv_icmp_gt (tgt := 371) hx hb dL_sticks_260 (by decide) (fun h => absurd h (by decide)) (fun _ => ?_)
  refine lv_aload_n hx hb dL_sticks_263 rfl (lv_at hl 5 rfl) ?_
  refine ar_cVi (As := []) (rest := []) hx hb hml hown hts hK hP hD hS (fun hJ => mX8_frame l hJ f7) (cwV 0 hts gL_sticks_X8_frame rfl rfl rfl nVX8_frame ⟨Nat.le_of_ble_eq_true rfl, Nat.le_of_ble_eq_true rfl⟩) (g_recv hK (w_first hP) kk_Tri ce_Tri rfl) rfl hl.1 rfl (Nat.le_of_ble_eq_true rfl) dL_sticks_264 ⟨Nat.le_of_ble_eq_true rfl, Nat.le_of_ble_eq_true rfl⟩ (fun H locs hP hD hS => ?_)
  refine lv_iload hx hb dL_sticks_267 (lv_at hl 0 rfl) ?_
  refine lv_iconst (v := (3 : Int32)) hx hb dL_sticks_269 (by decide) ?_
  refine lv_icmp_ge (tgt := 277) hx hb dL_sticks_270 (by decide) (fun h => absurd h (by decide)) (fun _ => ?_)
  refine lv_iconst (v := (3 : Int32)) hx hb dL_sticks_273 (by decide) ?_
  refine lv_goto (tgt := 278) hx hb dL_sticks_274 (by decide) ?_
  refine lv_icmp_ne (tgt := 363) hx hb dL_sticks_278 (by decide) (fun h => (h rfl).elim) (fun _ => ?_)
  refine sgL_sticks_281 F hP hD hS hl.1 (lv_at hl 5 rfl) (lv_at hl 4 rfl) g7 (okZ_l _) ⟨Nat.le_of_ble_eq_true rfl, Nat.le_of_ble_eq_true rfl⟩ (Nat.le_of_ble_eq_true rfl) (Nat.le_of_ble_eq_true rfl) (fun H locs hP hD hS => ?_)
  refine lv_iload hx hb dL_sticks_294 (lv_at hl 0 rfl) ?_
  refine lv_icmp_ne (tgt := 363) hx hb dL_sticks_296 (by decide) (fun h => (h rfl).elim) (fun _ => ?_)
  refine sgL_sticks_299 F hP hD hS hl.1 (lv_at hl 5 rfl) o7 (okZ_l _) ⟨Nat.le_of_ble_eq_true rfl, Nat.le_of_ble_eq_true rfl⟩ (Nat.le_of_ble_eq_true rfl) (Nat.le_of_ble_eq_true rfl) (fun H locs hP hD hS => ?_)
  refine lv_iload hx hb dL_sticks_312 (lv_at hl 2 rfl) ?_
  refine lv_icmp_ne (tgt := 363) hx hb dL_sticks_314 (by decide) (fun h => (h rfl).elim) (fun _ => ?_)
  refine sgL_sticks_317 F hP hD hS hl.1 (lv_at hl 5 rfl) (lv_at hl 4 rfl) w7 (okZ_l _) ⟨Nat.le_of_ble_eq_true rfl, Nat.le_of_ble_eq_true rfl⟩ (Nat.le_of_ble_eq_true rfl) (Nat.le_of_ble_eq_true rfl) (fun H locs hP hD hS => ?_)
  refine lv_iload hx hb dL_sticks_338 (lv_at hl 0 rfl) ?_
  refine lv_iconst (v := (3 : Int32)) hx hb dL_sticks_340 (by decide) ?_
  refine lv_icmp_ge (tgt := 353) hx hb dL_sticks_341 (by decide) (fun h => absurd h (by decide)) (fun _ => ?_)
  refine lv_iload hx hb dL_sticks_344 (lv_at hl 2 rfl) ?_
  refine lv_iconst (v := (1 : Int32)) hx hb dL_sticks_346 (by decide) ?_
  refine lv_iload_n hx hb dL_sticks_347 rfl (lv_at hl 3 rfl) ?_
  refine lv_ishl hx hb dL_sticks_348 ?_
  refine lv_ixor hx hb dL_sticks_349 ?_
  refine lv_goto (tgt := 360) hx hb dL_sticks_350 (by decide) ?_
  refine lv_icmp_eq (tgt := 365) hx hb dL_sticks_360 (by decide) (fun _ => ?_) (fun h => (h rfl).elim)
  refine lv_iinc (k := 0) (v := (2 : Int32)) (lv' := [(6, .int (2 : Int32)), (5, .int v), (4, .int (nI n)), (3, .int (nI bt)), (2, .int (nI w)), (1, .ref (q 0)), (0, .ref b)]) hx hb dL_sticks_365 hl rfl (by decide) (by decide) rfl (fun ls hl => ?_)
  refine lv_goto (tgt := 257) hx hb dL_sticks_368 (by decide) ?_
  refine lv_iload hx hb dL_sticks_257 (lv_at hl 0 rfl) ?_
  refine lv_iconst (v := (3 : Int32)) hx hb dL_sticks_259 (by decide) ?_
  refine lv_icmp_gt (tgt := 371) hx hb dL_sticks_260 (by decide) (fun h => absurd h (by decide)) (fun _ => ?_)
  refine lv_aload_n hx hb dL_sticks_263 rfl (lv_at hl 5 rfl) ?_
  refine ar_cVi (As := []) (rest := []) hx hb hml hown hts hK hP hD hS (fun hJ => mX8_frame l hJ f8) (cwV 0 hts gL_sticks_X8_frame rfl rfl rfl nVX8_frame ⟨Nat.le_of_ble_eq_true rfl, Nat.le_of_ble_eq_true rfl⟩) (g_recv hK (w_first hP) kk_Tri ce_Tri rfl) rfl hl.1 rfl (Nat.le_of_ble_eq_true rfl) dL_sticks_264 ⟨Nat.le_of_ble_eq_true rfl, Nat.le_of_ble_eq_true rfl⟩ (fun H locs hP hD hS => ?_)
  refine lv_iload hx hb dL_sticks_267 (lv_at hl 0 rfl) ?_
  refine lv_iconst (v := (3 : Int32)) hx hb dL_sticks_269 (by decide) ?_
  refine lv_icmp_ge (tgt := 277) hx hb dL_sticks_270 (by decide) (fun h => absurd h (by decide)) (fun _ => ?_)
  refine lv_iconst (v := (3 : Int32)) hx hb dL_sticks_273 (by decide) ?_
  refine lv_goto (tgt := 278) hx hb dL_sticks_274 (by decide) ?_
  refine lv_icmp_ne (tgt := 363) hx hb dL_sticks_278 (by decide) (fun h => (h rfl).elim) (fun _ => ?_)
  refine sgL_sticks_281 F hP hD hS hl.1 (lv_at hl 5 rfl) (lv_at hl 4 rfl) g8 (okZ_l _) ⟨Nat.le_of_ble_eq_true rfl, Nat.le_of_ble_eq_true rfl⟩ (Nat.le_of_ble_eq_true rfl) (Nat.le_of_ble_eq_true rfl) (fun H locs hP hD hS => ?_)
  refine lv_iload hx hb dL_sticks_294 (lv_at hl 0 rfl) ?_
  refine lv_icmp_ne (tgt := 363) hx hb dL_sticks_296 (by decide) (fun h => (h rfl).elim) (fun _ => ?_)
  refine sgL_sticks_299 F hP hD hS hl.1 (lv_at hl 5 rfl) o8 (okZ_l _) ⟨Nat.le_of_ble_eq_true rfl, Nat.le_of_ble_eq_true rfl⟩ (Nat.le_of_ble_eq_true rfl) (Nat.le_of_ble_eq_true rfl) (fun H locs hP hD hS => ?_)
  refine lv_iload hx hb dL_sticks_312 (lv_at hl 2 rfl) ?_
  refine lv_icmp_ne (tgt := 363) hx hb dL_sticks_314 (by decide) (fun h => (h rfl).elim) (fun _ => ?_)
  refine sgL_sticks_317 F hP hD hS hl.1 (lv_at hl 5 rfl) (lv_at hl 4 rfl) w8 (okZ_l _) ⟨Nat.le_of_ble_eq_true rfl, Nat.le_of_ble_eq_true rfl⟩ (Nat.le_of_ble_eq_true rfl) (Nat.le_of_ble_eq_true rfl) (fun H locs hP hD hS => ?_)
  refine lv_iload hx hb dL_sticks_338 (lv_at hl 0 rfl) ?_
  refine lv_iconst (v := (3 : Int32)) hx hb dL_sticks_340 (by decide) ?_
  refine lv_icmp_ge (tgt := 353) hx hb dL_sticks_341 (by decide) (fun h => absurd h (by decide)) (fun _ => ?_)
  refine lv_iload hx hb dL_sticks_344 (lv_at hl 2 rfl) ?_
  refine lv_iconst (v := (1 : Int32)) hx hb dL_sticks_346 (by decide) ?_
  refine lv_iload_n hx hb dL_sticks_347 rfl (lv_at hl 3 rfl) ?_
  refine lv_ishl hx hb dL_sticks_348 ?_
  refine lv_ixor hx hb dL_sticks_349 ?_
  refine lv_goto (tgt := 360) hx hb dL_sticks_350 (by decide) ?_
  refine lv_icmp_eq (tgt := 365) hx hb dL_sticks_360 (by decide) (fun _ => ?_) (fun h => (h rfl).elim)
  refine lv_iinc (k := 0) (v := (3 : Int32)) (lv' := [(6, .int (3 : Int32)), (5, .int v), (4, .int (nI n)), (3, .int (nI bt)), (2, .int (nI w)), (1, .ref (q 0)), (0, .ref b)]) hx hb dL_sticks_365 hl rfl (by decide) (by decide) rfl (fun ls hl => ?_)
  refine lv_goto (tgt := 257) hx hb dL_sticks_368 (by decide) ?_
  refine lv_iload hx hb dL_sticks_257 (lv_at hl 0 rfl) ?_
  refine lv_iconst (v := (3 : Int32)) hx hb dL_sticks_259 (by decide) ?_
  refine lv_icmp_gt (tgt := 371) hx hb dL_sticks_260 (by decide) (fun h => absurd h (by decide)) (fun _ => ?_)
  refine lv_aload_n hx hb dL_sticks_263 rfl (lv_at hl 5 rfl) ?_
  refine ar_cVi (As := []) (rest := []) hx hb hml hown hts hK hP hD hS (fun hJ => mX8_frame l hJ f9) (cwV 0 hts gL_sticks_X8_frame rfl rfl rfl nVX8_frame ⟨Nat.le_of_ble_eq_true rfl, Nat.le_of_ble_eq_true rfl⟩) (g_recv hK (w_first hP) kk_Tri ce_Tri rfl) rfl hl.1 rfl (Nat.le_of_ble_eq_true rfl) dL_sticks_264 ⟨Nat.le_of_ble_eq_true rfl, Nat.le_of_ble_eq_true rfl⟩ (fun H locs hP hD hS => ?_)
  refine lv_iload hx hb dL_sticks_267 (lv_at hl 0 rfl) ?_
  refine lv_iconst (v := (3 : Int32)) hx hb dL_sticks_269 (by decide) ?_
  refine lv_icmp_ge (tgt := 277) hx hb dL_sticks_270 (by decide) (fun _ => ?_) (fun h => (h (by decide)).elim)
  refine lv_iconst (v := (2 : Int32)) hx hb dL_sticks_277 (by decide) ?_
  refine lv_icmp_ne (tgt := 363) hx hb dL_sticks_278 (by decide) (fun h => (h rfl).elim) (fun _ => ?_)
  refine sgL_sticks_281 F hP hD hS hl.1 (lv_at hl 5 rfl) (lv_at hl 4 rfl) g9 (okZ_l _) ⟨Nat.le_of_ble_eq_true rfl, Nat.le_of_ble_eq_true rfl⟩ (Nat.le_of_ble_eq_true rfl) (Nat.le_of_ble_eq_true rfl) (fun H locs hP hD hS => ?_)
  refine lv_iload hx hb dL_sticks_294 (lv_at hl 0 rfl) ?_
  refine lv_icmp_ne (tgt := 363) hx hb dL_sticks_296 (by decide) (fun h => (h rfl).elim) (fun _ => ?_)
  refine sgL_sticks_299 F hP hD hS hl.1 (lv_at hl 5 rfl) o9 (okZ_l _) ⟨Nat.le_of_ble_eq_true rfl, Nat.le_of_ble_eq_true rfl⟩ (Nat.le_of_ble_eq_true rfl) (Nat.le_of_ble_eq_true rfl) (fun H locs hP hD hS => ?_)
  refine lv_iload hx hb dL_sticks_312 (lv_at hl 2 rfl) ?_
  refine lv_icmp_ne (tgt := 363) hx hb dL_sticks_314 (by decide) (fun h => (h rfl).elim) (fun _ => ?_)
  refine sgL_sticks_317 F hP hD hS hl.1 (lv_at hl 5 rfl) (lv_at hl 4 rfl) w9 (okZ_l _) ⟨Nat.le_of_ble_eq_true rfl, Nat.le_of_ble_eq_true rfl⟩ (Nat.le_of_ble_eq_true rfl) (Nat.le_of_ble_eq_true rfl) (fun H locs hP hD hS => ?_)
  refine lv_iload hx hb dL_sticks_338 (lv_at hl 0 rfl) ?_
  refine lv_iconst (v := (3 : Int32)) hx hb dL_sticks_340 (by decide) ?_
  refine lv_icmp_ge (tgt := 353) hx hb dL_sticks_341 (by decide) (fun _ => ?_) (fun h => (h (by decide)).elim)
  refine lv_aload_n hx hb dL_sticks_353 rfl (lv_at hl 5 rfl) ?_
  refine lv_iload_n hx hb dL_sticks_354 rfl (lv_at hl 4 rfl) ?_
  refine lv_iconst (v := (2 : Int32)) hx hb dL_sticks_355 (by decide) ?_
  refine lv_iconst (v := (5 : Int32)) hx hb dL_sticks_356 (by decide) ?_
  refine ar_cXi (As := [.int (nI w), .int (2 : Int32), .int (5 : Int32)]) (rest := [.int (askR (.inl y))]) hx hb hml hown hts hK hX hP hD hS (fun hJ => mX8_word l hlf hJ w9) (cwV 3 hts gL_sticks_X8_word rfl rfl rfl nVX8_word ⟨Nat.le_of_ble_eq_true rfl, Nat.le_of_ble_eq_true rfl⟩) (g_recv hK (w_first hP) kk_Tri ce_Tri rfl) rfl hl.1 rfl (Nat.le_of_ble_eq_true rfl) dL_sticks_357 ⟨Nat.le_of_ble_eq_true rfl, Nat.le_of_ble_eq_true rfl⟩ (fun H locs hP hD hS => ?_)
  refine lv_icmp_eq (tgt := 365) hx hb dL_sticks_360 (by decide) (fun _ => ?_) (fun h => (h rfl).elim)
  refine lv_iinc (k := 0) (v := (4 : Int32)) (lv' := [(6, .int (4 : Int32)), (5, .int v), (4, .int (nI n)), (3, .int (nI bt)), (2, .int (nI w)), (1, .ref (q 0)), (0, .ref b)]) hx hb dL_sticks_365 hl rfl (by decide) (by decide) rfl (fun ls hl => ?_)
  refine lv_goto (tgt := 257) hx hb dL_sticks_368 (by decide) ?_
  refine lv_iload hx hb dL_sticks_257 (lv_at hl 0 rfl) ?_
  refine lv_iconst (v := (3 : Int32)) hx hb dL_sticks_259 (by decide) ?_
  refine lv_icmp_gt (tgt := 371) hx hb dL_sticks_260 (by decide) (fun _ => ?_) (fun h => (h (by decide)).elim)
  refine sgL_sticks_371 F hP hD hS hl.1 (lv_at hl 5 rfl) l1 (okZ_l _) ⟨Nat.le_of_ble_eq_true rfl, Nat.le_of_ble_eq_true rfl⟩ (Nat.le_of_ble_eq_true rfl) (Nat.le_of_ble_eq_true rfl) (fun H locs hP hD hS => ?_)
  refine lv_bipush (v := (118 : Int32)) hx hb dL_sticks_389 (by decide) ?_
  refine lv_icmp_ne (tgt := 539) hx hb dL_sticks_391 (by decide) (fun h => (h rfl).elim) (fun _ => ?_)
  refine sgL_sticks_394 F hP hD hS hl.1 (lv_at hl 5 rfl) l2 (okZ_l _) ⟨Nat.le_of_ble_eq_true rfl, Nat.le_of_ble_eq_true rfl⟩ (Nat.le_of_ble_eq_true rfl) (Nat.le_of_ble_eq_true rfl) (fun H locs hP hD hS => ?_)
  refine lv_iload_n hx hb dL_sticks_412 rfl (lv_at hl 4 rfl) ?_
  refine lv_icmp_ne (tgt := 539) hx hb dL_sticks_413 (by decide) (fun h => (h rfl).elim) (fun _ => ?_)
  refine sgL_sticks_416 F hP hD hS hl.1 (lv_at hl 5 rfl) l3 (okZ_l _) ⟨Nat.le_of_ble_eq_true rfl, Nat.le_of_ble_eq_true rfl⟩ (Nat.le_of_ble_eq_true rfl) (Nat.le_of_ble_eq_true rfl) (fun H locs hP hD hS => ?_)
  refine lv_iconst (v := (3 : Int32)) hx hb dL_sticks_434 (by decide) ?_
  refine lv_icmp_ne (tgt := 539) hx hb dL_sticks_435 (by decide) (fun h => (h rfl).elim) (fun _ => ?_)
  refine sgL_sticks_438 F hP hD hS hl.1 (lv_at hl 5 rfl) (lv_at hl 4 rfl) m1 (okZ_l _) ⟨Nat.le_of_ble_eq_true rfl, Nat.le_of_ble_eq_true rfl⟩ (Nat.le_of_ble_eq_true rfl) (Nat.le_of_ble_eq_true rfl) (fun H locs hP hD hS => ?_)
  refine lv_if_ne (tgt := 539) hx hb dL_sticks_451 (by decide) (fun h => (h (by decide)).elim) (fun _ => ?_)
  refine sgL_sticks_454 F hP hD hS hl.1 (lv_at hl 5 rfl) (lv_at hl 4 rfl) m2 (okZ_r (by decide)) ⟨Nat.le_of_ble_eq_true rfl, Nat.le_of_ble_eq_true rfl⟩ (Nat.le_of_ble_eq_true rfl) (Nat.le_of_ble_eq_true rfl) (fun H locs hP hD hS => ?_)
  refine lv_ldc (v := (-2000000004 : Int32)) hx hb hown (hts _ mwbL_sticks_80) dL_sticks_467 ?_
  refine lv_icmp_ne (tgt := 539) hx hb dL_sticks_469 (by decide) (fun h => (h (by decide)).elim) (fun _ => ?_)
  refine sgL_sticks_472 F hP hD hS hl.1 (lv_at hl 5 rfl) (lv_at hl 4 rfl) m3 (okZ_l _) ⟨Nat.le_of_ble_eq_true rfl, Nat.le_of_ble_eq_true rfl⟩ (Nat.le_of_ble_eq_true rfl) (Nat.le_of_ble_eq_true rfl) (fun H locs hP hD hS => ?_)
  refine lv_iconst (v := (1 : Int32)) hx hb dL_sticks_485 (by decide) ?_
  refine lv_icmp_ne (tgt := 539) hx hb dL_sticks_486 (by decide) (fun h => (h (by decide)).elim) (fun _ => ?_)
  refine sgL_sticks_489 F hP hD hS hl.1 (lv_at hl 5 rfl) (lv_at hl 4 rfl) m4 (okZ_l _) ⟨Nat.le_of_ble_eq_true rfl, Nat.le_of_ble_eq_true rfl⟩ (Nat.le_of_ble_eq_true rfl) (Nat.le_of_ble_eq_true rfl) (fun H locs hP hD hS => ?_)
  refine lv_if_ne (tgt := 539) hx hb dL_sticks_502 (by decide) (fun h => (h (by decide)).elim) (fun _ => ?_)
  refine sgL_sticks_505 F hP hD hS hl.1 (lv_at hl 5 rfl) (lv_at hl 4 rfl) m5 (okZ_l _) ⟨Nat.le_of_ble_eq_true rfl, Nat.le_of_ble_eq_true rfl⟩ (Nat.le_of_ble_eq_true rfl) (Nat.le_of_ble_eq_true rfl) (fun H locs hP hD hS => ?_)
  refine lv_iconst (v := (1 : Int32)) hx hb dL_sticks_518 (by decide) ?_
  refine lv_icmp_ne (tgt := 539) hx hb dL_sticks_519 (by decide) (fun h => (h (by decide)).elim) (fun _ => ?_)
  refine sgL_sticks_522 F hP hD hS hl.1 (lv_at hl 5 rfl) (lv_at hl 4 rfl) m6 (okZ_l _) ⟨Nat.le_of_ble_eq_true rfl, Nat.le_of_ble_eq_true rfl⟩ (Nat.le_of_ble_eq_true rfl) (Nat.le_of_ble_eq_true rfl) (fun H locs hP hD hS => ?_)
  refine lv_iconst (v := (3 : Int32)) hx hb dL_sticks_535 (by decide) ?_
  refine lv_icmp_eq (tgt := 541) hx hb dL_sticks_536 (by decide) (fun _ => ?_) (fun h => (h rfl).elim)
  refine sgL_sticks_541 F hP hD hS hl.1 (lv_at hl 5 rfl) (lv_at hl 4 rfl) n1 (okZ_l _) ⟨Nat.le_of_ble_eq_true rfl, Nat.le_of_ble_eq_true rfl⟩ (Nat.le_of_ble_eq_true rfl) (Nat.le_of_ble_eq_true rfl) (fun H locs hP hD hS => ?_)
  refine lv_if_ne (tgt := 643) hx hb dL_sticks_554 (by decide) (fun h => (h rfl).elim) (fun _ => ?_)
  refine sgL_sticks_557 F hP hD hS hl.1 (lv_at hl 5 rfl) (lv_at hl 4 rfl) n2 (okZ_l _) ⟨Nat.le_of_ble_eq_true rfl, Nat.le_of_ble_eq_true rfl⟩ (Nat.le_of_ble_eq_true rfl) (Nat.le_of_ble_eq_true rfl) (fun H locs hP hD hS => ?_)
  refine lv_iload hx hb dL_sticks_578 (lv_at hl 2 rfl) ?_
  refine lv_icmp_ne (tgt := 643) hx hb dL_sticks_580 (by decide) (fun h => (h rfl).elim) (fun _ => ?_)
  refine lv_aload_n hx hb dL_sticks_583 rfl (lv_at hl 5 rfl) ?_
  refine ar_cVi (As := []) (rest := []) hx hb hml hown hts hK hP hD hS (fun hJ => mX8_frame l hJ n3) (cwV 0 hts gL_sticks_X8_frame rfl rfl rfl nVX8_frame ⟨Nat.le_of_ble_eq_true rfl, Nat.le_of_ble_eq_true rfl⟩) (g_recv hK (w_first hP) kk_Tri ce_Tri rfl) rfl hl.1 rfl (Nat.le_of_ble_eq_true rfl) dL_sticks_584 ⟨Nat.le_of_ble_eq_true rfl, Nat.le_of_ble_eq_true rfl⟩ (fun H locs hP hD hS => ?_)
  refine lv_iconst (v := (3 : Int32)) hx hb dL_sticks_587 (by decide) ?_
  refine lv_icmp_ne (tgt := 643) hx hb dL_sticks_588 (by decide) (fun h => (h rfl).elim) (fun _ => ?_)
  refine sgL_sticks_591 F hP hD hS hl.1 (lv_at hl 5 rfl) (lv_at hl 4 rfl) n4 (okZ_l _) ⟨Nat.le_of_ble_eq_true rfl, Nat.le_of_ble_eq_true rfl⟩ (Nat.le_of_ble_eq_true rfl) (Nat.le_of_ble_eq_true rfl) (fun H locs hP hD hS => ?_)
  refine lv_if_ne (tgt := 643) hx hb dL_sticks_604 (by decide) (fun h => (h rfl).elim) (fun _ => ?_)
  refine sgL_sticks_607 F hP hD hS hl.1 (lv_at hl 5 rfl) n5 (okZ_l _) ⟨Nat.le_of_ble_eq_true rfl, Nat.le_of_ble_eq_true rfl⟩ (Nat.le_of_ble_eq_true rfl) (Nat.le_of_ble_eq_true rfl) (fun H locs hP hD hS => ?_)
  refine lv_iload hx hb dL_sticks_620 (lv_at hl 2 rfl) ?_
  refine lv_icmp_ne (tgt := 643) hx hb dL_sticks_622 (by decide) (fun h => (h rfl).elim) (fun _ => ?_)
  refine lv_aload_n hx hb dL_sticks_625 rfl (lv_at hl 5 rfl) ?_
  refine ar_cVi (As := []) (rest := []) hx hb hml hown hts hK hP hD hS (fun hJ => mX8_isPlain l hJ n6) (cwV 0 hts gL_sticks_X8_isPlain rfl rfl rfl nVX8_isPlain ⟨Nat.le_of_ble_eq_true rfl, Nat.le_of_ble_eq_true rfl⟩) (g_recv hK (w_first hP) kk_Tri ce_Tri rfl) rfl hl.1 rfl (Nat.le_of_ble_eq_true rfl) dL_sticks_626 ⟨Nat.le_of_ble_eq_true rfl, Nat.le_of_ble_eq_true rfl⟩ (fun H locs hP hD hS => ?_)
  refine lv_if_eq (tgt := 643) hx hb dL_sticks_629 (by decide) (fun h => absurd h (by decide)) (fun _ => ?_)
  refine lv_aload_n hx hb dL_sticks_632 rfl (lv_at hl 5 rfl) ?_
  refine ar_cVi (As := []) (rest := []) hx hb hml hown hts hK hP hD hS (fun hJ => mX8_isTrue l hJ n7) (cwV 0 hts gL_sticks_X8_isTrue rfl rfl rfl nVX8_isTrue ⟨Nat.le_of_ble_eq_true rfl, Nat.le_of_ble_eq_true rfl⟩) (g_recv hK (w_first hP) kk_Tri ce_Tri rfl) rfl hl.1 rfl (Nat.le_of_ble_eq_true rfl) dL_sticks_633 ⟨Nat.le_of_ble_eq_true rfl, Nat.le_of_ble_eq_true rfl⟩ (fun H locs hP hD hS => ?_)
  refine lv_if_eq (tgt := 643) hx hb dL_sticks_636 (by decide) (fun h => absurd h (by decide)) (fun _ => ?_)
  refine lv_iconst (v := (1 : Int32)) hx hb dL_sticks_639 (by decide) ?_
  refine lv_goto (tgt := 644) hx hb dL_sticks_640 (by decide) ?_
  refine W.widen (k := 221) (n := 1387) (Nat.le_of_ble_eq_true rfl) (Nat.le_of_ble_eq_true rfl) ?_
  exact law_ret hx hb hr hlocks hS rfl dL_sticks_644
set_option maxHeartbeats 8000000 in
set_option maxRecDepth 100000 in
theorem mL_sticks (l : Launch) (hlf : l.stackTraces = false) {D : va_G} {cy : Nat → ClassId} {b L : Nat} {xs : Nat → Int32} (hL : L < 2 ^ 31) : Met l yL_sticks wsL_sticks rmL_sticks (va_Pc [.ref b] (fPre D cy b L xs)) (pQ 1) 221 1387 yN := by
  refine Met.ofW (cc := cL_sticks) (maxL := 7) (ret := (some .boolean)) (by decide +kernel) rfl ?_
  intro p e s m args below meth c s₁ B hml hv
  obtain ⟨rfl, ⟨hK, hN8⟩, ⟨hX, hNt⟩, hXs, hbl⟩ := hv
  have hx := B.exec
  have hb := B.bytes
  have hr := B.returns
  have hlocks := B.notSynchronized
  have hown : s.vm.findClass RL = some m.cls := findClass_of_methodNamed B.named
  have hts := atoms_spec (ws := wsL_sticks) B.pre
  have F : lG p l s m _ c cL_sticks 7 wsL_sticks D cy b L xs := ⟨hx, hb, hml, hown, hts, hK, hX, hNt, hlf, hN8, hXs, hbl⟩
  have hS : va_S (fun a : Nat => s.heap.size ≤ a) s.heap s.heap [] := va_S.rf
  have hP : va_P D vwCl [] s.heap := fun k q h => by simp at h
  have hD : va_D (fun a : Nat => s.heap.size ≤ a) [] := ⟨fun i j p q h => by simp at h, fun k q h => by simp at h⟩
  have hl := lv_entry ([.ref b]) (n := 7) (Nat.le_of_ble_eq_true rfl)
  rw [lg_entry_eq]
  generalize (lg_sl ([.ref b]) ++ List.replicate (7 - (lg_sl ([.ref b])).length) Slot.unset).toArray = ls at hl ⊢
  have hl : lv_has ls 7 [(0, .ref b)] := hl
  obtain ⟨w, hw, ew⟩ := some_nI (if 60 < L then xs 60 else 0) (d := 3) (by decide) (by decide)
  obtain ⟨bt, hbt, eb⟩ := some_nI (if 61 < L then xs 61 else 0) (d := 14) (by decide) (by decide)
  obtain ⟨n, hn, en⟩ := some_nI (if 62 < L then xs 62 else 0) (d := 8000) (by decide) (by decide)
  refine ar_tri (WO := []) (ic := 8) (ii := 138) hx hb hml hown hts hK hN8 (fun _ h => h) hP hD hS (fun w h => (gx_sticks_ask_0 w h).1) mwnL_sticks_1 mwnL_sticks_2 mwnL_sticks_3 mwnL_sticks_4 mwnL_sticks_5 gL_sticks_X8_init ⟨Nat.le_of_ble_eq_true rfl, Nat.le_of_ble_eq_true rfl⟩ hl.1 (Nat.le_of_ble_eq_true rfl) (Nat.le_of_ble_eq_true rfl) dL_sticks_0 dL_sticks_3 dL_sticks_4 (fun q H locs hP hD hS => ?_)
  have hP : va_P D vwCl (gS 78 q (TX cy q) T0 ++ []) H := by rw [List.append_nil]; exact hP
  have hD : va_D (fun a => s.heap.size ≤ a) (gS 78 q (TX cy q) T0 ++ []) := by rw [List.append_nil]; exact hD
  refine lv_astore_n (lv' := [(1, .ref (q 0)), (0, .ref b)]) hx hb dL_sticks_7 rfl hl (by decide) rfl (fun ls hl => ?_)
  refine lv_aload_n hx hb dL_sticks_8 rfl (lv_at hl 1 rfl) ?_
  refine lv_bipush (v := nI 60) hx hb dL_sticks_9 (by decide) ?_
  refine ar_at (k := 60) (rest := []) hx hb hml hown hts hXs hbl hL (by decide) hP hS (va_cwS 2 hts gL_sticks_L_at rfl rfl rfl nVL_at ⟨Nat.le_of_ble_eq_true rfl, Nat.le_of_ble_eq_true rfl⟩) hl.1 (Nat.le_of_ble_eq_true rfl) dL_sticks_11 ⟨Nat.le_of_ble_eq_true rfl, Nat.le_of_ble_eq_true rfl⟩ (fun H locs hP hS => ?_)
  refine lv_iconst (v := nI 3) hx hb dL_sticks_14 (by decide) ?_
  refine ar_some (rest := []) hx hb hml hown hts (by decide) hP hS (va_cwS 2 hts gL_sticks_L_some rfl rfl rfl nVL_some ⟨Nat.le_of_ble_eq_true rfl, Nat.le_of_ble_eq_true rfl⟩) hl.1 (Nat.le_of_ble_eq_true rfl) dL_sticks_15 ⟨Nat.le_of_ble_eq_true rfl, Nat.le_of_ble_eq_true rfl⟩ (fun H locs hP hS => ?_)
  rw [ew]
  refine lv_istore_n (lv' := [(2, .int (nI w)), (1, .ref (q 0)), (0, .ref b)]) hx hb dL_sticks_18 rfl hl (by decide) rfl (fun ls hl => ?_)
  refine lv_aload_n hx hb dL_sticks_19 rfl (lv_at hl 2 rfl) ?_
  refine lv_bipush (v := nI 61) hx hb dL_sticks_20 (by decide) ?_
  refine ar_at (k := 61) (rest := []) hx hb hml hown hts hXs hbl hL (by decide) hP hS (va_cwS 2 hts gL_sticks_L_at rfl rfl rfl nVL_at ⟨Nat.le_of_ble_eq_true rfl, Nat.le_of_ble_eq_true rfl⟩) hl.1 (Nat.le_of_ble_eq_true rfl) dL_sticks_22 ⟨Nat.le_of_ble_eq_true rfl, Nat.le_of_ble_eq_true rfl⟩ (fun H locs hP hS => ?_)
  refine lv_bipush (v := nI 14) hx hb dL_sticks_25 (by decide) ?_
  refine ar_some (rest := []) hx hb hml hown hts (by decide) hP hS (va_cwS 2 hts gL_sticks_L_some rfl rfl rfl nVL_some ⟨Nat.le_of_ble_eq_true rfl, Nat.le_of_ble_eq_true rfl⟩) hl.1 (Nat.le_of_ble_eq_true rfl) dL_sticks_27 ⟨Nat.le_of_ble_eq_true rfl, Nat.le_of_ble_eq_true rfl⟩ (fun H locs hP hS => ?_)
  rw [eb]
  refine lv_istore_n (lv' := [(3, .int (nI bt)), (2, .int (nI w)), (1, .ref (q 0)), (0, .ref b)]) hx hb dL_sticks_30 rfl hl (by decide) rfl (fun ls hl => ?_)
  refine lv_aload_n hx hb dL_sticks_31 rfl (lv_at hl 3 rfl) ?_
  refine lv_bipush (v := nI 62) hx hb dL_sticks_32 (by decide) ?_
  refine ar_at (k := 62) (rest := []) hx hb hml hown hts hXs hbl hL (by decide) hP hS (va_cwS 2 hts gL_sticks_L_at rfl rfl rfl nVL_at ⟨Nat.le_of_ble_eq_true rfl, Nat.le_of_ble_eq_true rfl⟩) hl.1 (Nat.le_of_ble_eq_true rfl) dL_sticks_34 ⟨Nat.le_of_ble_eq_true rfl, Nat.le_of_ble_eq_true rfl⟩ (fun H locs hP hS => ?_)
  refine lv_sipush (v := nI 8000) hx hb dL_sticks_37 (by decide) ?_
  refine ar_some (rest := []) hx hb hml hown hts (by decide) hP hS (va_cwS 2 hts gL_sticks_L_some rfl rfl rfl nVL_some ⟨Nat.le_of_ble_eq_true rfl, Nat.le_of_ble_eq_true rfl⟩) hl.1 (Nat.le_of_ble_eq_true rfl) dL_sticks_40 ⟨Nat.le_of_ble_eq_true rfl, Nat.le_of_ble_eq_true rfl⟩ (fun H locs hP hS => ?_)
  rw [en]
  refine lv_istore (lv' := [(4, .int (nI n)), (3, .int (nI bt)), (2, .int (nI w)), (1, .ref (q 0)), (0, .ref b)]) hx hb dL_sticks_43 hl (by decide) rfl (fun ls hl => ?_)
  refine lv_iload hx hb dL_sticks_45 (lv_at hl 0 rfl) ?_
  refine lv_iload_n hx hb dL_sticks_47 rfl (lv_at hl 1 rfl) ?_
  refine lv_ishr hx hb dL_sticks_48 ?_
  refine lv_iconst (v := (1 : Int32)) hx hb dL_sticks_49 (by decide) ?_
  refine lv_iand hx hb dL_sticks_50 ?_
  refine lv_if_ne (tgt := 58) hx hb dL_sticks_51 (by decide) (fun h => ?_) (fun h => ?_)
  · refine lv_iconst (v := (0 : Int32)) hx hb dL_sticks_58 (by decide) ?_
    exact kL_sticks_59 F hr hlocks hw hbt hn (if_neg h).symm hP hD hS hl
  · refine lv_iconst (v := (1 : Int32)) hx hb dL_sticks_54 (by decide) ?_
    refine lv_goto (tgt := 59) hx hb dL_sticks_55 (by decide) ?_
    exact kL_sticks_59 F hr hlocks hw hbt hn (if_pos h).symm hP hD hS hl

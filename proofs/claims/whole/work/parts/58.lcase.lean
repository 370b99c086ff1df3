set_option maxHeartbeats 4000000 in
set_option maxRecDepth 100000 in
theorem lc_code {p : Program} {l : Launch} {e : Env} {s : State} {m : MethodId} {args : Array Value} {below : List Frame} {meth : Method} {c : Code} {Q : State → Prop} {b L : Nat} {xs : Nat → Int32} {D : va_G} {cy : Nat → ClassId} {q q2 : Nat → Nat} {o : Nat} (F0_ : lF p l s m args c b L xs D cy q q2 o) {σ μ : TS} {fo : Nat → Int64} {H : Heap} {locs : List Loc} (hP : va_P D vwCl (gS 78 q (TX cy q) σ) H) (hM : va_P D vwCl (gS 39 q2 (MX cy q2) μ) H) (hO : va_P D vwCl (oW o cy fo) H) (hS : va_S (fun a => s.heap.size ≤ a) s.heap H locs) {j : Nat} (hj : 5 * j + 5 ≤ L) {ls : Array Slot} (hl : lv_has ls 9 [(0, .ref b), (1, .ref (q (0))), (2, .ref (q2 (0))), (3, .ref o), (4, .int (nI (5 * j)))]) {u v : TS} {z : Int32 ⊕ Nat} {bb : Int32} (h8 : sX8_code (xs (5 * j + 1)) (lchr (xs (5 * j + 2))) (xs (5 * j + 3)) (xs (5 * j + 4)) σ = some (z, u)) (h9 : sX9_code (xs (5 * j + 1)) (lchr (xs (5 * j + 2))) (xs (5 * j + 3)) (xs (5 * j + 4)) μ = some (bb, v)) (hI : okI [(1, 1), (2, 2), (3, 3)] z bb (v 0 0)) {C S : Nat} (hC : C + 4 ≤ 638203) (hSl : S + 24 ≤ 7181496) (kk : ∀ (fo1 : Nat → Int64) (H1 : Heap) (locs1 : List Loc) (ls1 : Array Slot), va_P D vwCl (gS 78 q (TX cy q) u) H1 → va_P D vwCl (gS 39 q2 (MX cy q2) v) H1 → va_P D vwCl (oW o cy fo1) H1 → va_S (fun a => s.heap.size ≤ a) s.heap H1 locs1 → lv_has ls1 9 [(0, .ref b), (1, .ref (q (0))), (2, .ref (q2 (0))), (3, .ref o), (4, .int (nI (5 * j)))] → W p l e room_1 s m args below meth c H1 locs1 (C + 4) (S + 24) Q (F0 m 2410 ls1 [])) : W p l e room_1 s m args below meth c H locs C S Q (F0 m 204 ls []) := by
  obtain ⟨hx, hb, hml, hown, hts, hXs, hbl, hL0, hK, hX, hNt, hlf, hJ, hJ2, hAT, hAM, hAo, hdis, hoT, hoM⟩ := F0_
  have hAO : ∀ a, hA q o a → s.heap.size ≤ a := fun a h => h.elim (fun h => hAT a h) (fun h => by rw [h]; exact hAo)
  have hdM : ∀ a, gA 39 q2 a → ¬ hA q o a := fun a h h2 => h2.elim (fun h3 => hdis a h h3) (fun h3 => hoM (by rw [← h3]; exact h))
  have hdT : ∀ a, gA 78 q a → ¬ gA 39 q2 a := fun a h h2 => hdis a h2 h
  obtain ⟨t, hz, ht, hcase⟩ := hI
  refine lv_aload_n hx hb dL_law_204 rfl (lv_at hl 1 rfl) ?_
  refine lv_aload_n hx hb dL_law_205 rfl (lv_at hl 0 rfl) ?_
  refine lv_iload hx hb dL_law_206 (lv_at hl 4 rfl) ?_
  refine lv_iconst (v := (1 : Int32)) hx hb dL_law_208 (by decide) ?_
  refine lv_iadd hx hb dL_law_209 ?_
  refine l_sld hx hb hXs hbl hS hL0 1 (by decide) (by omega) dL_law_210 ?_
  refine lv_aload_n hx hb dL_law_211 rfl (lv_at hl 0 rfl) ?_
  refine lv_iload hx hb dL_law_212 (lv_at hl 4 rfl) ?_
  refine lv_iconst (v := (2 : Int32)) hx hb dL_law_214 (by decide) ?_
  refine lv_iadd hx hb dL_law_215 ?_
  refine l_sld hx hb hXs hbl hS hL0 2 (by decide) (by omega) dL_law_216 ?_
  refine lv_i2c (v := lchr (xs (5 * j + 2))) hx hb dL_law_217 rfl ?_
  refine lv_aload_n hx hb dL_law_218 rfl (lv_at hl 0 rfl) ?_
  refine lv_iload hx hb dL_law_219 (lv_at hl 4 rfl) ?_
  refine lv_iconst (v := (3 : Int32)) hx hb dL_law_221 (by decide) ?_
  refine lv_iadd hx hb dL_law_222 ?_
  refine l_sld hx hb hXs hbl hS hL0 3 (by decide) (by omega) dL_law_223 ?_
  refine lv_aload_n hx hb dL_law_224 rfl (lv_at hl 0 rfl) ?_
  refine lv_iload hx hb dL_law_225 (lv_at hl 4 rfl) ?_
  refine lv_iconst (v := (4 : Int32)) hx hb dL_law_227 (by decide) ?_
  refine lv_iadd hx hb dL_law_228 ?_
  refine l_sld hx hb hXs hbl hS hL0 4 (by decide) (by omega) dL_law_229 ?_
  refine lv_aload_n hx hb dL_law_230 rfl (lv_at hl 3 rfl) ?_
  refine l_cS (As := [.ref (q (0)), .int (xs (5 * j + 1)), .int (lchr (xs (5 * j + 2))), .int (xs (5 * j + 3)), .int (xs (5 * j + 4)), .ref o]) (rest := []) (WO := gS 39 q2 (MX cy q2) μ) hx hb hml hown hts hK hX hNt hAO hP hO hM (l_dM hdM) hS (mL_code l hlf hJ hoT h8 hz) (vx_cwSW 6 hts gL_law_L_code rfl rfl rfl (by decide +kernel) ⟨Nat.le_of_ble_eq_true rfl, Nat.le_of_ble_eq_true rfl⟩) rfl hl.1 rfl (Nat.le_of_ble_eq_true rfl) dL_law_231 ⟨by show C + _ ≤ 638203; omega, by show S + _ ≤ 7181496; omega⟩ (fun H locs hP hO hM hS => ?_)
  refine lv_istore (lv' := [(5, .int t), (0, .ref b), (1, .ref (q (0))), (2, .ref (q2 (0))), (3, .ref o), (4, .int (nI (5 * j)))]) hx hb dL_law_234 hl (by decide) rfl (fun ls hl => ?_)
  refine lv_aload_n hx hb dL_law_236 rfl (lv_at hl 3 rfl) ?_
  refine lv_aload_n hx hb dL_law_237 rfl (lv_at hl 1 rfl) ?_
  refine lv_iload hx hb dL_law_238 (lv_at hl 5 rfl) ?_
  refine lv_iconst (v := (1 : Int32)) hx hb dL_law_240 (by decide) ?_
  refine lv_iadd hx hb dL_law_241 ?_
  refine l_sld hx hb hXs hbl hS hL0 1 (by decide) (by omega) dL_law_242 ?_
  refine lv_aload_n hx hb dL_law_243 rfl (lv_at hl 1 rfl) ?_
  refine lv_iload hx hb dL_law_244 (lv_at hl 5 rfl) ?_
  refine lv_iconst (v := (2 : Int32)) hx hb dL_law_246 (by decide) ?_
  refine lv_iadd hx hb dL_law_247 ?_
  refine l_sld hx hb hXs hbl hS hL0 2 (by decide) (by omega) dL_law_248 ?_
  refine lv_i2c (v := lchr (xs (5 * j + 2))) hx hb dL_law_249 rfl ?_
  refine lv_aload_n hx hb dL_law_250 rfl (lv_at hl 1 rfl) ?_
  refine lv_iload hx hb dL_law_251 (lv_at hl 5 rfl) ?_
  refine lv_iconst (v := (3 : Int32)) hx hb dL_law_253 (by decide) ?_
  refine lv_iadd hx hb dL_law_254 ?_
  refine l_sld hx hb hXs hbl hS hL0 3 (by decide) (by omega) dL_law_255 ?_
  refine lv_aload_n hx hb dL_law_256 rfl (lv_at hl 1 rfl) ?_
  refine lv_iload hx hb dL_law_257 (lv_at hl 5 rfl) ?_
  refine lv_iconst (v := (4 : Int32)) hx hb dL_law_259 (by decide) ?_
  refine lv_iadd hx hb dL_law_260 ?_
  refine l_sld hx hb hXs hbl hS hL0 4 (by decide) (by omega) dL_law_261 ?_
  refine l_cVi (As := [.int (xs (5 * j + 1)), .int (lchr (xs (5 * j + 2))), .int (xs (5 * j + 3)), .int (xs (5 * j + 4))]) (rest := []) (WO := gS 78 q (TX cy q) u ++ oW o cy _) hx hb hml hown hts hK hAM hM (hP.app hO) (l_app (l_dM hdT) (h_odis hoM)) hS (mX9_code l hJ2 h9) (cwV 4 hts gL_law_X9_code rfl rfl rfl nVX9_code ⟨Nat.le_of_ble_eq_true rfl, Nat.le_of_ble_eq_true rfl⟩) (g_recv hK hM kk_Mod ce_Mod rfl) rfl hl.1 rfl (Nat.le_of_ble_eq_true rfl) dL_law_262 ⟨by show C + _ ≤ 638203; omega, by show S + _ ≤ 7181496; omega⟩ (fun H locs hM hPO hS => ?_)
  have hP := w_first hPO
  have hO := w_last hPO
  clear hPO
  refine lv_istore (lv' := [(6, .int bb), (5, .int t), (0, .ref b), (1, .ref (q (0))), (2, .ref (q2 (0))), (3, .ref o), (4, .int (nI (5 * j)))]) hx hb dL_law_265 hl (by decide) rfl (fun ls hl => ?_)
  refine lv_aload_n hx hb dL_law_267 rfl (lv_at hl 4 rfl) ?_
  refine l_cVi (As := []) (rest := []) (WO := gS 78 q (TX cy q) u ++ oW o cy _) hx hb hml hown hts hK hAM hM (hP.app hO) (l_app (l_dM hdT) (h_odis hoM)) hS (mX9_thrown (σ := v) (r := v 0 0) (u := v) l hJ2 rfl) (cwV 0 hts gL_law_X9_thrown rfl rfl rfl nVX9_thrown ⟨Nat.le_of_ble_eq_true rfl, Nat.le_of_ble_eq_true rfl⟩) (g_recv hK hM kk_Mod ce_Mod rfl) rfl hl.1 rfl (Nat.le_of_ble_eq_true rfl) dL_law_268 ⟨by show C + _ ≤ 638203; omega, by show S + _ ≤ 7181496; omega⟩ (fun H locs hM hPO hS => ?_)
  have hP := w_first hPO
  have hO := w_last hPO
  clear hPO
  refine lv_iload hx hb dL_law_271 (lv_at hl 1 rfl) ?_
  refine lv_icmp_eq (tgt := 278) hx hb dL_law_273 (by decide) (fun _ => ?_) (fun h => absurd ht h)
  refine lv_iload hx hb dL_law_278 (lv_at hl 1 rfl) ?_
  by_cases ht0 : t = 0
  · have hzb := hcase ht0
    subst hzb
    refine lv_if_ne (tgt := 295) hx hb dL_law_280 (by decide) (fun h => absurd ht0 h) (fun _ => ?_)
    refine lv_aload_n hx hb dL_law_283 rfl (lv_at hl 5 rfl) ?_
    refine lv_iconst (v := (0 : Int32)) hx hb dL_law_284 (by decide) ?_
    refine va_lald hx hb hK hO 0 9 rfl rfl (i := (0 : Int32)) (vin_of (by decide)) dL_law_285 ?_
    refine lv_iload hx hb dL_law_286 (lv_at hl 0 rfl) ?_
    refine lv_i2l hx hb dL_law_288 rfl ?_
    refine W.lcmp hx hb dL_law_289 ?_
    have hcmp : lg_cmp (lo (.inl bb) fo ((0 : Int32).toNatClampNeg)) bb.toInt64 = 0 := l_cmp0 _
    refine lv_if_eq (tgt := 295) hx hb dL_law_290 (by decide) (fun _ => ?_) (fun h => absurd hcmp h)
    refine lv_goto (tgt := 2410) hx hb dL_law_295 (by decide) ?_
    have hl9 := lv_sub hl [2, 3, 4, 5, 6] (l' := [(0, .ref b), (1, .ref (q (0))), (2, .ref (q2 (0))), (3, .ref o), (4, .int (nI (5 * j)))]) rfl
    exact W.widen (k := C + 4) (n := S + 24) (by omega) (by omega) (kk _ _ _ _ hP hM hO hS hl9)
  · refine lv_if_ne (tgt := 295) hx hb dL_law_280 (by decide) (fun _ => ?_) (fun h => absurd h ht0)
    refine lv_goto (tgt := 2410) hx hb dL_law_295 (by decide) ?_
    have hl9 := lv_sub hl [2, 3, 4, 5, 6] (l' := [(0, .ref b), (1, .ref (q (0))), (2, .ref (q2 (0))), (3, .ref o), (4, .int (nI (5 * j)))]) rfl
    exact W.widen (k := C + 4) (n := S + 24) (by omega) (by omega) (kk _ _ _ _ hP hM hO hS hl9)
set_option maxHeartbeats 4000000 in
set_option maxRecDepth 100000 in
theorem lc_clear {p : Program} {l : Launch} {e : Env} {s : State} {m : MethodId} {args : Array Value} {below : List Frame} {meth : Method} {c : Code} {Q : State → Prop} {b L : Nat} {xs : Nat → Int32} {D : va_G} {cy : Nat → ClassId} {q q2 : Nat → Nat} {o : Nat} (F0_ : lF p l s m args c b L xs D cy q q2 o) {σ μ : TS} {fo : Nat → Int64} {H : Heap} {locs : List Loc} (hP : va_P D vwCl (gS 78 q (TX cy q) σ) H) (hM : va_P D vwCl (gS 39 q2 (MX cy q2) μ) H) (hO : va_P D vwCl (oW o cy fo) H) (hS : va_S (fun a => s.heap.size ≤ a) s.heap H locs) {j : Nat} (hj : 5 * j + 5 ≤ L) {ls : Array Slot} (hl : lv_has ls 9 [(0, .ref b), (1, .ref (q (0))), (2, .ref (q2 (0))), (3, .ref o), (4, .int (nI (5 * j)))]) {u v : TS} {z : Int32 ⊕ Nat} {bb : Int32} (h8 : sX8_clear (xs (5 * j + 1)) σ = some (z, u)) (h9 : sX9_clear (xs (5 * j + 1)) μ = some (bb, v)) (hI : okI [(1, 1)] z bb (v 0 0)) {C S : Nat} (hC : C + 4 ≤ 638203) (hSl : S + 24 ≤ 7181496) (kk : ∀ (fo1 : Nat → Int64) (H1 : Heap) (locs1 : List Loc) (ls1 : Array Slot), va_P D vwCl (gS 78 q (TX cy q) u) H1 → va_P D vwCl (gS 39 q2 (MX cy q2) v) H1 → va_P D vwCl (oW o cy fo1) H1 → va_S (fun a => s.heap.size ≤ a) s.heap H1 locs1 → lv_has ls1 9 [(0, .ref b), (1, .ref (q (0))), (2, .ref (q2 (0))), (3, .ref o), (4, .int (nI (5 * j)))] → W p l e room_1 s m args below meth c H1 locs1 (C + 4) (S + 24) Q (F0 m 2410 ls1 [])) : W p l e room_1 s m args below meth c H locs C S Q (F0 m 298 ls []) := by
  obtain ⟨hx, hb, hml, hown, hts, hXs, hbl, hL0, hK, hX, hNt, hlf, hJ, hJ2, hAT, hAM, hAo, hdis, hoT, hoM⟩ := F0_
  have hAO : ∀ a, hA q o a → s.heap.size ≤ a := fun a h => h.elim (fun h => hAT a h) (fun h => by rw [h]; exact hAo)
  have hdM : ∀ a, gA 39 q2 a → ¬ hA q o a := fun a h h2 => h2.elim (fun h3 => hdis a h h3) (fun h3 => hoM (by rw [← h3]; exact h))
  have hdT : ∀ a, gA 78 q a → ¬ gA 39 q2 a := fun a h h2 => hdis a h2 h
  obtain ⟨t, hz, ht, hcase⟩ := hI
  refine lv_aload_n hx hb dL_law_298 rfl (lv_at hl 1 rfl) ?_
  refine lv_aload_n hx hb dL_law_299 rfl (lv_at hl 0 rfl) ?_
  refine lv_iload hx hb dL_law_300 (lv_at hl 4 rfl) ?_
  refine lv_iconst (v := (1 : Int32)) hx hb dL_law_302 (by decide) ?_
  refine lv_iadd hx hb dL_law_303 ?_
  refine l_sld hx hb hXs hbl hS hL0 1 (by decide) (by omega) dL_law_304 ?_
  refine lv_aload_n hx hb dL_law_305 rfl (lv_at hl 3 rfl) ?_
  refine l_cS (As := [.ref (q (0)), .int (xs (5 * j + 1)), .ref o]) (rest := []) (WO := gS 39 q2 (MX cy q2) μ) hx hb hml hown hts hK hX hNt hAO hP hO hM (l_dM hdM) hS (mL_clear l hlf hJ hoT h8 hz) (vx_cwSW 3 hts gL_law_L_clear rfl rfl rfl (by decide +kernel) ⟨Nat.le_of_ble_eq_true rfl, Nat.le_of_ble_eq_true rfl⟩) rfl hl.1 rfl (Nat.le_of_ble_eq_true rfl) dL_law_306 ⟨by show C + _ ≤ 638203; omega, by show S + _ ≤ 7181496; omega⟩ (fun H locs hP hO hM hS => ?_)
  refine lv_istore (lv' := [(5, .int t), (0, .ref b), (1, .ref (q (0))), (2, .ref (q2 (0))), (3, .ref o), (4, .int (nI (5 * j)))]) hx hb dL_law_309 hl (by decide) rfl (fun ls hl => ?_)
  refine lv_aload_n hx hb dL_law_311 rfl (lv_at hl 3 rfl) ?_
  refine lv_aload_n hx hb dL_law_312 rfl (lv_at hl 1 rfl) ?_
  refine lv_iload hx hb dL_law_313 (lv_at hl 5 rfl) ?_
  refine lv_iconst (v := (1 : Int32)) hx hb dL_law_315 (by decide) ?_
  refine lv_iadd hx hb dL_law_316 ?_
  refine l_sld hx hb hXs hbl hS hL0 1 (by decide) (by omega) dL_law_317 ?_
  refine l_cVi (As := [.int (xs (5 * j + 1))]) (rest := []) (WO := gS 78 q (TX cy q) u ++ oW o cy _) hx hb hml hown hts hK hAM hM (hP.app hO) (l_app (l_dM hdT) (h_odis hoM)) hS (mX9_clear l hJ2 h9) (cwV 1 hts gL_law_X9_clear rfl rfl rfl nVX9_clear ⟨Nat.le_of_ble_eq_true rfl, Nat.le_of_ble_eq_true rfl⟩) (g_recv hK hM kk_Mod ce_Mod rfl) rfl hl.1 rfl (Nat.le_of_ble_eq_true rfl) dL_law_318 ⟨by show C + _ ≤ 638203; omega, by show S + _ ≤ 7181496; omega⟩ (fun H locs hM hPO hS => ?_)
  have hP := w_first hPO
  have hO := w_last hPO
  clear hPO
  refine lv_istore (lv' := [(6, .int bb), (5, .int t), (0, .ref b), (1, .ref (q (0))), (2, .ref (q2 (0))), (3, .ref o), (4, .int (nI (5 * j)))]) hx hb dL_law_321 hl (by decide) rfl (fun ls hl => ?_)
  refine lv_aload_n hx hb dL_law_323 rfl (lv_at hl 4 rfl) ?_
  refine l_cVi (As := []) (rest := []) (WO := gS 78 q (TX cy q) u ++ oW o cy _) hx hb hml hown hts hK hAM hM (hP.app hO) (l_app (l_dM hdT) (h_odis hoM)) hS (mX9_thrown (σ := v) (r := v 0 0) (u := v) l hJ2 rfl) (cwV 0 hts gL_law_X9_thrown rfl rfl rfl nVX9_thrown ⟨Nat.le_of_ble_eq_true rfl, Nat.le_of_ble_eq_true rfl⟩) (g_recv hK hM kk_Mod ce_Mod rfl) rfl hl.1 rfl (Nat.le_of_ble_eq_true rfl) dL_law_324 ⟨by show C + _ ≤ 638203; omega, by show S + _ ≤ 7181496; omega⟩ (fun H locs hM hPO hS => ?_)
  have hP := w_first hPO
  have hO := w_last hPO
  clear hPO
  refine lv_iload hx hb dL_law_327 (lv_at hl 1 rfl) ?_
  refine lv_icmp_eq (tgt := 334) hx hb dL_law_329 (by decide) (fun _ => ?_) (fun h => absurd ht h)
  refine lv_iload hx hb dL_law_334 (lv_at hl 1 rfl) ?_
  by_cases ht0 : t = 0
  · have hzb := hcase ht0
    subst hzb
    refine lv_if_ne (tgt := 351) hx hb dL_law_336 (by decide) (fun h => absurd ht0 h) (fun _ => ?_)
    refine lv_aload_n hx hb dL_law_339 rfl (lv_at hl 5 rfl) ?_
    refine lv_iconst (v := (0 : Int32)) hx hb dL_law_340 (by decide) ?_
    refine va_lald hx hb hK hO 0 9 rfl rfl (i := (0 : Int32)) (vin_of (by decide)) dL_law_341 ?_
    refine lv_iload hx hb dL_law_342 (lv_at hl 0 rfl) ?_
    refine lv_i2l hx hb dL_law_344 rfl ?_
    refine W.lcmp hx hb dL_law_345 ?_
    have hcmp : lg_cmp (lo (.inl bb) fo ((0 : Int32).toNatClampNeg)) bb.toInt64 = 0 := l_cmp0 _
    refine lv_if_eq (tgt := 351) hx hb dL_law_346 (by decide) (fun _ => ?_) (fun h => absurd hcmp h)
    refine lv_goto (tgt := 2410) hx hb dL_law_351 (by decide) ?_
    have hl9 := lv_sub hl [2, 3, 4, 5, 6] (l' := [(0, .ref b), (1, .ref (q (0))), (2, .ref (q2 (0))), (3, .ref o), (4, .int (nI (5 * j)))]) rfl
    exact W.widen (k := C + 4) (n := S + 24) (by omega) (by omega) (kk _ _ _ _ hP hM hO hS hl9)
  · refine lv_if_ne (tgt := 351) hx hb dL_law_336 (by decide) (fun _ => ?_) (fun h => absurd h ht0)
    refine lv_goto (tgt := 2410) hx hb dL_law_351 (by decide) ?_
    have hl9 := lv_sub hl [2, 3, 4, 5, 6] (l' := [(0, .ref b), (1, .ref (q (0))), (2, .ref (q2 (0))), (3, .ref o), (4, .int (nI (5 * j)))]) rfl
    exact W.widen (k := C + 4) (n := S + 24) (by omega) (by omega) (kk _ _ _ _ hP hM hO hS hl9)
set_option maxHeartbeats 4000000 in
set_option maxRecDepth 100000 in
theorem lc_slot {p : Program} {l : Launch} {e : Env} {s : State} {m : MethodId} {args : Array Value} {below : List Frame} {meth : Method} {c : Code} {Q : State → Prop} {b L : Nat} {xs : Nat → Int32} {D : va_G} {cy : Nat → ClassId} {q q2 : Nat → Nat} {o : Nat} (F0_ : lF p l s m args c b L xs D cy q q2 o) {σ μ : TS} {fo : Nat → Int64} {H : Heap} {locs : List Loc} (hP : va_P D vwCl (gS 78 q (TX cy q) σ) H) (hM : va_P D vwCl (gS 39 q2 (MX cy q2) μ) H) (hO : va_P D vwCl (oW o cy fo) H) (hS : va_S (fun a => s.heap.size ≤ a) s.heap H locs) {j : Nat} (hj : 5 * j + 5 ≤ L) {ls : Array Slot} (hl : lv_has ls 9 [(0, .ref b), (1, .ref (q (0))), (2, .ref (q2 (0))), (3, .ref o), (4, .int (nI (5 * j)))]) {u v : TS} {z : Int32 ⊕ Nat} {bb : Int32} (h8 : sX8_slot (xs (5 * j + 1)) (xs (5 * j + 2)) (xs (5 * j + 3)) σ = some (z, u)) (h9 : sX9_slot (xs (5 * j + 1)) (xs (5 * j + 2)) (xs (5 * j + 3)) μ = some (bb, v)) (hI : okI [(1, 1)] z bb (v 0 0)) {C S : Nat} (hC : C + 4 ≤ 638203) (hSl : S + 24 ≤ 7181496) (kk : ∀ (fo1 : Nat → Int64) (H1 : Heap) (locs1 : List Loc) (ls1 : Array Slot), va_P D vwCl (gS 78 q (TX cy q) u) H1 → va_P D vwCl (gS 39 q2 (MX cy q2) v) H1 → va_P D vwCl (oW o cy fo1) H1 → va_S (fun a => s.heap.size ≤ a) s.heap H1 locs1 → lv_has ls1 9 [(0, .ref b), (1, .ref (q (0))), (2, .ref (q2 (0))), (3, .ref o), (4, .int (nI (5 * j)))] → W p l e room_1 s m args below meth c H1 locs1 (C + 4) (S + 24) Q (F0 m 2410 ls1 [])) : W p l e room_1 s m args below meth c H locs C S Q (F0 m 354 ls []) := by
  obtain ⟨hx, hb, hml, hown, hts, hXs, hbl, hL0, hK, hX, hNt, hlf, hJ, hJ2, hAT, hAM, hAo, hdis, hoT, hoM⟩ := F0_
  have hAO : ∀ a, hA q o a → s.heap.size ≤ a := fun a h => h.elim (fun h => hAT a h) (fun h => by rw [h]; exact hAo)
  have hdM : ∀ a, gA 39 q2 a → ¬ hA q o a := fun a h h2 => h2.elim (fun h3 => hdis a h h3) (fun h3 => hoM (by rw [← h3]; exact h))
  have hdT : ∀ a, gA 78 q a → ¬ gA 39 q2 a := fun a h h2 => hdis a h2 h
  obtain ⟨t, hz, ht, hcase⟩ := hI
  refine lv_aload_n hx hb dL_law_354 rfl (lv_at hl 1 rfl) ?_
  refine lv_aload_n hx hb dL_law_355 rfl (lv_at hl 0 rfl) ?_
  refine lv_iload hx hb dL_law_356 (lv_at hl 4 rfl) ?_
  refine lv_iconst (v := (1 : Int32)) hx hb dL_law_358 (by decide) ?_
  refine lv_iadd hx hb dL_law_359 ?_
  refine l_sld hx hb hXs hbl hS hL0 1 (by decide) (by omega) dL_law_360 ?_
  refine lv_aload_n hx hb dL_law_361 rfl (lv_at hl 0 rfl) ?_
  refine lv_iload hx hb dL_law_362 (lv_at hl 4 rfl) ?_
  refine lv_iconst (v := (2 : Int32)) hx hb dL_law_364 (by decide) ?_
  refine lv_iadd hx hb dL_law_365 ?_
  refine l_sld hx hb hXs hbl hS hL0 2 (by decide) (by omega) dL_law_366 ?_
  refine lv_aload_n hx hb dL_law_367 rfl (lv_at hl 0 rfl) ?_
  refine lv_iload hx hb dL_law_368 (lv_at hl 4 rfl) ?_
  refine lv_iconst (v := (3 : Int32)) hx hb dL_law_370 (by decide) ?_
  refine lv_iadd hx hb dL_law_371 ?_
  refine l_sld hx hb hXs hbl hS hL0 3 (by decide) (by omega) dL_law_372 ?_
  refine lv_aload_n hx hb dL_law_373 rfl (lv_at hl 3 rfl) ?_
  refine l_cS (As := [.ref (q (0)), .int (xs (5 * j + 1)), .int (xs (5 * j + 2)), .int (xs (5 * j + 3)), .ref o]) (rest := []) (WO := gS 39 q2 (MX cy q2) μ) hx hb hml hown hts hK hX hNt hAO hP hO hM (l_dM hdM) hS (mL_slot l hlf hJ hoT h8 hz) (vx_cwSW 5 hts gL_law_L_slot rfl rfl rfl (by decide +kernel) ⟨Nat.le_of_ble_eq_true rfl, Nat.le_of_ble_eq_true rfl⟩) rfl hl.1 rfl (Nat.le_of_ble_eq_true rfl) dL_law_374 ⟨by show C + _ ≤ 638203; omega, by show S + _ ≤ 7181496; omega⟩ (fun H locs hP hO hM hS => ?_)
  refine lv_istore (lv' := [(5, .int t), (0, .ref b), (1, .ref (q (0))), (2, .ref (q2 (0))), (3, .ref o), (4, .int (nI (5 * j)))]) hx hb dL_law_377 hl (by decide) rfl (fun ls hl => ?_)
  refine lv_aload_n hx hb dL_law_379 rfl (lv_at hl 3 rfl) ?_
  refine lv_aload_n hx hb dL_law_380 rfl (lv_at hl 1 rfl) ?_
  refine lv_iload hx hb dL_law_381 (lv_at hl 5 rfl) ?_
  refine lv_iconst (v := (1 : Int32)) hx hb dL_law_383 (by decide) ?_
  refine lv_iadd hx hb dL_law_384 ?_
  refine l_sld hx hb hXs hbl hS hL0 1 (by decide) (by omega) dL_law_385 ?_
  refine lv_aload_n hx hb dL_law_386 rfl (lv_at hl 1 rfl) ?_
  refine lv_iload hx hb dL_law_387 (lv_at hl 5 rfl) ?_
  refine lv_iconst (v := (2 : Int32)) hx hb dL_law_389 (by decide) ?_
  refine lv_iadd hx hb dL_law_390 ?_
  refine l_sld hx hb hXs hbl hS hL0 2 (by decide) (by omega) dL_law_391 ?_
  refine lv_aload_n hx hb dL_law_392 rfl (lv_at hl 1 rfl) ?_
  refine lv_iload hx hb dL_law_393 (lv_at hl 5 rfl) ?_
  refine lv_iconst (v := (3 : Int32)) hx hb dL_law_395 (by decide) ?_
  refine lv_iadd hx hb dL_law_396 ?_
  refine l_sld hx hb hXs hbl hS hL0 3 (by decide) (by omega) dL_law_397 ?_
  refine l_cVi (As := [.int (xs (5 * j + 1)), .int (xs (5 * j + 2)), .int (xs (5 * j + 3))]) (rest := []) (WO := gS 78 q (TX cy q) u ++ oW o cy _) hx hb hml hown hts hK hAM hM (hP.app hO) (l_app (l_dM hdT) (h_odis hoM)) hS (mX9_slot l hJ2 h9) (cwV 3 hts gL_law_X9_slot rfl rfl rfl nVX9_slot ⟨Nat.le_of_ble_eq_true rfl, Nat.le_of_ble_eq_true rfl⟩) (g_recv hK hM kk_Mod ce_Mod rfl) rfl hl.1 rfl (Nat.le_of_ble_eq_true rfl) dL_law_398 ⟨by show C + _ ≤ 638203; omega, by show S + _ ≤ 7181496; omega⟩ (fun H locs hM hPO hS => ?_)
  have hP := w_first hPO
  have hO := w_last hPO
  clear hPO
  refine lv_istore (lv' := [(6, .int bb), (5, .int t), (0, .ref b), (1, .ref (q (0))), (2, .ref (q2 (0))), (3, .ref o), (4, .int (nI (5 * j)))]) hx hb dL_law_401 hl (by decide) rfl (fun ls hl => ?_)
  refine lv_aload_n hx hb dL_law_403 rfl (lv_at hl 4 rfl) ?_
  refine l_cVi (As := []) (rest := []) (WO := gS 78 q (TX cy q) u ++ oW o cy _) hx hb hml hown hts hK hAM hM (hP.app hO) (l_app (l_dM hdT) (h_odis hoM)) hS (mX9_thrown (σ := v) (r := v 0 0) (u := v) l hJ2 rfl) (cwV 0 hts gL_law_X9_thrown rfl rfl rfl nVX9_thrown ⟨Nat.le_of_ble_eq_true rfl, Nat.le_of_ble_eq_true rfl⟩) (g_recv hK hM kk_Mod ce_Mod rfl) rfl hl.1 rfl (Nat.le_of_ble_eq_true rfl) dL_law_404 ⟨by show C + _ ≤ 638203; omega, by show S + _ ≤ 7181496; omega⟩ (fun H locs hM hPO hS => ?_)
  have hP := w_first hPO
  have hO := w_last hPO
  clear hPO
  refine lv_iload hx hb dL_law_407 (lv_at hl 1 rfl) ?_
  refine lv_icmp_eq (tgt := 414) hx hb dL_law_409 (by decide) (fun _ => ?_) (fun h => absurd ht h)
  refine lv_iload hx hb dL_law_414 (lv_at hl 1 rfl) ?_
  by_cases ht0 : t = 0
  · have hzb := hcase ht0
    subst hzb
    refine lv_if_ne (tgt := 431) hx hb dL_law_416 (by decide) (fun h => absurd ht0 h) (fun _ => ?_)
    refine lv_aload_n hx hb dL_law_419 rfl (lv_at hl 5 rfl) ?_
    refine lv_iconst (v := (0 : Int32)) hx hb dL_law_420 (by decide) ?_
    refine va_lald hx hb hK hO 0 9 rfl rfl (i := (0 : Int32)) (vin_of (by decide)) dL_law_421 ?_
    refine lv_iload hx hb dL_law_422 (lv_at hl 0 rfl) ?_
    refine lv_i2l hx hb dL_law_424 rfl ?_
    refine W.lcmp hx hb dL_law_425 ?_
    have hcmp : lg_cmp (lo (.inl bb) fo ((0 : Int32).toNatClampNeg)) bb.toInt64 = 0 := l_cmp0 _
    refine lv_if_eq (tgt := 431) hx hb dL_law_426 (by decide) (fun _ => ?_) (fun h => absurd hcmp h)
    refine lv_goto (tgt := 2410) hx hb dL_law_431 (by decide) ?_
    have hl9 := lv_sub hl [2, 3, 4, 5, 6] (l' := [(0, .ref b), (1, .ref (q (0))), (2, .ref (q2 (0))), (3, .ref o), (4, .int (nI (5 * j)))]) rfl
    exact W.widen (k := C + 4) (n := S + 24) (by omega) (by omega) (kk _ _ _ _ hP hM hO hS hl9)
  · refine lv_if_ne (tgt := 431) hx hb dL_law_416 (by decide) (fun _ => ?_) (fun h => absurd h ht0)
    refine lv_goto (tgt := 2410) hx hb dL_law_431 (by decide) ?_
    have hl9 := lv_sub hl [2, 3, 4, 5, 6] (l' := [(0, .ref b), (1, .ref (q (0))), (2, .ref (q2 (0))), (3, .ref o), (4, .int (nI (5 * j)))]) rfl
    exact W.widen (k := C + 4) (n := S + 24) (by omega) (by omega) (kk _ _ _ _ hP hM hO hS hl9)
set_option maxHeartbeats 4000000 in
set_option maxRecDepth 100000 in
theorem lc_frame {p : Program} {l : Launch} {e : Env} {s : State} {m : MethodId} {args : Array Value} {below : List Frame} {meth : Method} {c : Code} {Q : State → Prop} {b L : Nat} {xs : Nat → Int32} {D : va_G} {cy : Nat → ClassId} {q q2 : Nat → Nat} {o : Nat} (F0_ : lF p l s m args c b L xs D cy q q2 o) {σ μ : TS} {fo : Nat → Int64} {H : Heap} {locs : List Loc} (hP : va_P D vwCl (gS 78 q (TX cy q) σ) H) (hM : va_P D vwCl (gS 39 q2 (MX cy q2) μ) H) (hO : va_P D vwCl (oW o cy fo) H) (hS : va_S (fun a => s.heap.size ≤ a) s.heap H locs) {j : Nat} (hj : 5 * j + 5 ≤ L) {ls : Array Slot} (hl : lv_has ls 9 [(0, .ref b), (1, .ref (q (0))), (2, .ref (q2 (0))), (3, .ref o), (4, .int (nI (5 * j)))]) {u v : TS} {bb : Int32} (h8 : sX8_frame σ = some (bb, u)) (h9 : sX9_frame μ = some (bb, v)) {C S : Nat} (hC : C + 4 ≤ 638203) (hSl : S + 24 ≤ 7181496) (kk : ∀ (fo1 : Nat → Int64) (H1 : Heap) (locs1 : List Loc) (ls1 : Array Slot), va_P D vwCl (gS 78 q (TX cy q) u) H1 → va_P D vwCl (gS 39 q2 (MX cy q2) v) H1 → va_P D vwCl (oW o cy fo1) H1 → va_S (fun a => s.heap.size ≤ a) s.heap H1 locs1 → lv_has ls1 9 [(0, .ref b), (1, .ref (q (0))), (2, .ref (q2 (0))), (3, .ref o), (4, .int (nI (5 * j)))] → W p l e room_1 s m args below meth c H1 locs1 (C + 4) (S + 24) Q (F0 m 2410 ls1 [])) : W p l e room_1 s m args below meth c H locs C S Q (F0 m 434 ls []) := by
  obtain ⟨hx, hb, hml, hown, hts, hXs, hbl, hL0, hK, hX, hNt, hlf, hJ, hJ2, hAT, hAM, hAo, hdis, hoT, hoM⟩ := F0_
  have hAO : ∀ a, hA q o a → s.heap.size ≤ a := fun a h => h.elim (fun h => hAT a h) (fun h => by rw [h]; exact hAo)
  have hdM : ∀ a, gA 39 q2 a → ¬ hA q o a := fun a h h2 => h2.elim (fun h3 => hdis a h h3) (fun h3 => hoM (by rw [← h3]; exact h))
  have hdT : ∀ a, gA 78 q a → ¬ gA 39 q2 a := fun a h h2 => hdis a h2 h
  refine lv_aload_n hx hb dL_law_434 rfl (lv_at hl 1 rfl) ?_
  refine l_cVi (As := []) (rest := []) (WO := gS 39 q2 (MX cy q2) μ ++ oW o cy fo) hx hb hml hown hts hK hAT hP (hM.app hO) (l_app (l_dM (fun a h => hdis a h)) (h_odis hoT)) hS (mX8_frame l hJ h8) (cwV 0 hts gL_law_X8_frame rfl rfl rfl nVX8_frame ⟨Nat.le_of_ble_eq_true rfl, Nat.le_of_ble_eq_true rfl⟩) (g_recv hK hP kk_Tri ce_Tri rfl) rfl hl.1 rfl (Nat.le_of_ble_eq_true rfl) dL_law_435 ⟨by show C ≤ 638203; omega, by show S ≤ 7181496; omega⟩ (fun H locs hP hMO hS => ?_)
  have hM := w_first hMO
  have hO := w_last hMO
  clear hMO
  refine lv_aload_n hx hb dL_law_438 rfl (lv_at hl 2 rfl) ?_
  refine l_cVi (As := []) (rest := [.int bb]) (WO := gS 78 q (TX cy q) u ++ oW o cy _) hx hb hml hown hts hK hAM hM (hP.app hO) (l_app (l_dM hdT) (h_odis hoM)) hS (mX9_frame l hJ2 h9) (cwV 0 hts gL_law_X9_frame rfl rfl rfl nVX9_frame ⟨Nat.le_of_ble_eq_true rfl, Nat.le_of_ble_eq_true rfl⟩) (g_recv hK hM kk_Mod ce_Mod rfl) rfl hl.1 rfl (Nat.le_of_ble_eq_true rfl) dL_law_439 ⟨by show C ≤ 638203; omega, by show S ≤ 7181496; omega⟩ (fun H locs hM hPO hS => ?_)
  have hP := w_first hPO
  have hO := w_last hPO
  clear hPO
  refine lv_icmp_eq (tgt := 2410) hx hb dL_law_442 (by decide) (fun _ => ?_) (fun h => absurd rfl h)
  have hl9 := lv_sub hl [0, 1, 2, 3, 4] (l' := [(0, .ref b), (1, .ref (q (0))), (2, .ref (q2 (0))), (3, .ref o), (4, .int (nI (5 * j)))]) rfl
  exact W.widen (k := C + 4) (n := S + 24) (by omega) (by omega) (kk _ _ _ _ hP hM hO hS hl9)
set_option maxHeartbeats 4000000 in
set_option maxRecDepth 100000 in
theorem lc_time {p : Program} {l : Launch} {e : Env} {s : State} {m : MethodId} {args : Array Value} {below : List Frame} {meth : Method} {c : Code} {Q : State → Prop} {b L : Nat} {xs : Nat → Int32} {D : va_G} {cy : Nat → ClassId} {q q2 : Nat → Nat} {o : Nat} (F0_ : lF p l s m args c b L xs D cy q q2 o) {σ μ : TS} {fo : Nat → Int64} {H : Heap} {locs : List Loc} (hP : va_P D vwCl (gS 78 q (TX cy q) σ) H) (hM : va_P D vwCl (gS 39 q2 (MX cy q2) μ) H) (hO : va_P D vwCl (oW o cy fo) H) (hS : va_S (fun a => s.heap.size ≤ a) s.heap H locs) {j : Nat} (hj : 5 * j + 5 ≤ L) {ls : Array Slot} (hl : lv_has ls 9 [(0, .ref b), (1, .ref (q (0))), (2, .ref (q2 (0))), (3, .ref o), (4, .int (nI (5 * j)))]) {u v : TS} {bb : Int32} (h8 : sX8_time σ = some (bb, u)) (h9 : sX9_time μ = some (bb, v)) {C S : Nat} (hC : C + 4 ≤ 638203) (hSl : S + 24 ≤ 7181496) (kk : ∀ (fo1 : Nat → Int64) (H1 : Heap) (locs1 : List Loc) (ls1 : Array Slot), va_P D vwCl (gS 78 q (TX cy q) u) H1 → va_P D vwCl (gS 39 q2 (MX cy q2) v) H1 → va_P D vwCl (oW o cy fo1) H1 → va_S (fun a => s.heap.size ≤ a) s.heap H1 locs1 → lv_has ls1 9 [(0, .ref b), (1, .ref (q (0))), (2, .ref (q2 (0))), (3, .ref o), (4, .int (nI (5 * j)))] → W p l e room_1 s m args below meth c H1 locs1 (C + 4) (S + 24) Q (F0 m 2410 ls1 [])) : W p l e room_1 s m args below meth c H locs C S Q (F0 m 447 ls []) := by
  obtain ⟨hx, hb, hml, hown, hts, hXs, hbl, hL0, hK, hX, hNt, hlf, hJ, hJ2, hAT, hAM, hAo, hdis, hoT, hoM⟩ := F0_
  have hAO : ∀ a, hA q o a → s.heap.size ≤ a := fun a h => h.elim (fun h => hAT a h) (fun h => by rw [h]; exact hAo)
  have hdM : ∀ a, gA 39 q2 a → ¬ hA q o a := fun a h h2 => h2.elim (fun h3 => hdis a h h3) (fun h3 => hoM (by rw [← h3]; exact h))
  have hdT : ∀ a, gA 78 q a → ¬ gA 39 q2 a := fun a h h2 => hdis a h2 h
  refine lv_aload_n hx hb dL_law_447 rfl (lv_at hl 1 rfl) ?_
  refine l_cVi (As := []) (rest := []) (WO := gS 39 q2 (MX cy q2) μ ++ oW o cy fo) hx hb hml hown hts hK hAT hP (hM.app hO) (l_app (l_dM (fun a h => hdis a h)) (h_odis hoT)) hS (mX8_time l hJ h8) (cwV 0 hts gL_law_X8_time rfl rfl rfl nVX8_time ⟨Nat.le_of_ble_eq_true rfl, Nat.le_of_ble_eq_true rfl⟩) (g_recv hK hP kk_Tri ce_Tri rfl) rfl hl.1 rfl (Nat.le_of_ble_eq_true rfl) dL_law_448 ⟨by show C ≤ 638203; omega, by show S ≤ 7181496; omega⟩ (fun H locs hP hMO hS => ?_)
  have hM := w_first hMO
  have hO := w_last hMO
  clear hMO
  refine lv_aload_n hx hb dL_law_451 rfl (lv_at hl 2 rfl) ?_
  refine l_cVi (As := []) (rest := [.int bb]) (WO := gS 78 q (TX cy q) u ++ oW o cy _) hx hb hml hown hts hK hAM hM (hP.app hO) (l_app (l_dM hdT) (h_odis hoM)) hS (mX9_time l hJ2 h9) (cwV 0 hts gL_law_X9_time rfl rfl rfl nVX9_time ⟨Nat.le_of_ble_eq_true rfl, Nat.le_of_ble_eq_true rfl⟩) (g_recv hK hM kk_Mod ce_Mod rfl) rfl hl.1 rfl (Nat.le_of_ble_eq_true rfl) dL_law_452 ⟨by show C ≤ 638203; omega, by show S ≤ 7181496; omega⟩ (fun H locs hM hPO hS => ?_)
  have hP := w_first hPO
  have hO := w_last hPO
  clear hPO
  refine lv_icmp_eq (tgt := 2410) hx hb dL_law_455 (by decide) (fun _ => ?_) (fun h => absurd rfl h)
  have hl9 := lv_sub hl [0, 1, 2, 3, 4] (l' := [(0, .ref b), (1, .ref (q (0))), (2, .ref (q2 (0))), (3, .ref o), (4, .int (nI (5 * j)))]) rfl
  exact W.widen (k := C + 4) (n := S + 24) (by omega) (by omega) (kk _ _ _ _ hP hM hO hS hl9)
set_option maxHeartbeats 4000000 in
set_option maxRecDepth 100000 in
theorem lc_mode {p : Program} {l : Launch} {e : Env} {s : State} {m : MethodId} {args : Array Value} {below : List Frame} {meth : Method} {c : Code} {Q : State → Prop} {b L : Nat} {xs : Nat → Int32} {D : va_G} {cy : Nat → ClassId} {q q2 : Nat → Nat} {o : Nat} (F0_ : lF p l s m args c b L xs D cy q q2 o) {σ μ : TS} {fo : Nat → Int64} {H : Heap} {locs : List Loc} (hP : va_P D vwCl (gS 78 q (TX cy q) σ) H) (hM : va_P D vwCl (gS 39 q2 (MX cy q2) μ) H) (hO : va_P D vwCl (oW o cy fo) H) (hS : va_S (fun a => s.heap.size ≤ a) s.heap H locs) {j : Nat} (hj : 5 * j + 5 ≤ L) {ls : Array Slot} (hl : lv_has ls 9 [(0, .ref b), (1, .ref (q (0))), (2, .ref (q2 (0))), (3, .ref o), (4, .int (nI (5 * j)))]) {u v : TS} {bb : Int32} (h8 : sX8_mode σ = some (bb, u)) (h9 : sX9_mode μ = some (bb, v)) {C S : Nat} (hC : C + 4 ≤ 638203) (hSl : S + 24 ≤ 7181496) (kk : ∀ (fo1 : Nat → Int64) (H1 : Heap) (locs1 : List Loc) (ls1 : Array Slot), va_P D vwCl (gS 78 q (TX cy q) u) H1 → va_P D vwCl (gS 39 q2 (MX cy q2) v) H1 → va_P D vwCl (oW o cy fo1) H1 → va_S (fun a => s.heap.size ≤ a) s.heap H1 locs1 → lv_has ls1 9 [(0, .ref b), (1, .ref (q (0))), (2, .ref (q2 (0))), (3, .ref o), (4, .int (nI (5 * j)))] → W p l e room_1 s m args below meth c H1 locs1 (C + 4) (S + 24) Q (F0 m 2410 ls1 [])) : W p l e room_1 s m args below meth c H locs C S Q (F0 m 460 ls []) := by
  obtain ⟨hx, hb, hml, hown, hts, hXs, hbl, hL0, hK, hX, hNt, hlf, hJ, hJ2, hAT, hAM, hAo, hdis, hoT, hoM⟩ := F0_
  have hAO : ∀ a, hA q o a → s.heap.size ≤ a := fun a h => h.elim (fun h => hAT a h) (fun h => by rw [h]; exact hAo)
  have hdM : ∀ a, gA 39 q2 a → ¬ hA q o a := fun a h h2 => h2.elim (fun h3 => hdis a h h3) (fun h3 => hoM (by rw [← h3]; exact h))
  have hdT : ∀ a, gA 78 q a → ¬ gA 39 q2 a := fun a h h2 => hdis a h2 h
  refine lv_aload_n hx hb dL_law_460 rfl (lv_at hl 1 rfl) ?_
  refine l_cVi (As := []) (rest := []) (WO := gS 39 q2 (MX cy q2) μ ++ oW o cy fo) hx hb hml hown hts hK hAT hP (hM.app hO) (l_app (l_dM (fun a h => hdis a h)) (h_odis hoT)) hS (mX8_mode l hJ h8) (cwV 0 hts gL_law_X8_mode rfl rfl rfl nVX8_mode ⟨Nat.le_of_ble_eq_true rfl, Nat.le_of_ble_eq_true rfl⟩) (g_recv hK hP kk_Tri ce_Tri rfl) rfl hl.1 rfl (Nat.le_of_ble_eq_true rfl) dL_law_461 ⟨by show C ≤ 638203; omega, by show S ≤ 7181496; omega⟩ (fun H locs hP hMO hS => ?_)
  have hM := w_first hMO
  have hO := w_last hMO
  clear hMO
  refine lv_aload_n hx hb dL_law_464 rfl (lv_at hl 2 rfl) ?_
  refine l_cVi (As := []) (rest := [.int bb]) (WO := gS 78 q (TX cy q) u ++ oW o cy _) hx hb hml hown hts hK hAM hM (hP.app hO) (l_app (l_dM hdT) (h_odis hoM)) hS (mX9_mode l hJ2 h9) (cwV 0 hts gL_law_X9_mode rfl rfl rfl nVX9_mode ⟨Nat.le_of_ble_eq_true rfl, Nat.le_of_ble_eq_true rfl⟩) (g_recv hK hM kk_Mod ce_Mod rfl) rfl hl.1 rfl (Nat.le_of_ble_eq_true rfl) dL_law_465 ⟨by show C ≤ 638203; omega, by show S ≤ 7181496; omega⟩ (fun H locs hM hPO hS => ?_)
  have hP := w_first hPO
  have hO := w_last hPO
  clear hPO
  refine lv_icmp_eq (tgt := 2410) hx hb dL_law_468 (by decide) (fun _ => ?_) (fun h => absurd rfl h)
  have hl9 := lv_sub hl [0, 1, 2, 3, 4] (l' := [(0, .ref b), (1, .ref (q (0))), (2, .ref (q2 (0))), (3, .ref o), (4, .int (nI (5 * j)))]) rfl
  exact W.widen (k := C + 4) (n := S + 24) (by omega) (by omega) (kk _ _ _ _ hP hM hO hS hl9)
set_option maxHeartbeats 4000000 in
set_option maxRecDepth 100000 in
theorem lc_output {p : Program} {l : Launch} {e : Env} {s : State} {m : MethodId} {args : Array Value} {below : List Frame} {meth : Method} {c : Code} {Q : State → Prop} {b L : Nat} {xs : Nat → Int32} {D : va_G} {cy : Nat → ClassId} {q q2 : Nat → Nat} {o : Nat} (F0_ : lF p l s m args c b L xs D cy q q2 o) {σ μ : TS} {fo : Nat → Int64} {H : Heap} {locs : List Loc} (hP : va_P D vwCl (gS 78 q (TX cy q) σ) H) (hM : va_P D vwCl (gS 39 q2 (MX cy q2) μ) H) (hO : va_P D vwCl (oW o cy fo) H) (hS : va_S (fun a => s.heap.size ≤ a) s.heap H locs) {j : Nat} (hj : 5 * j + 5 ≤ L) {ls : Array Slot} (hl : lv_has ls 9 [(0, .ref b), (1, .ref (q (0))), (2, .ref (q2 (0))), (3, .ref o), (4, .int (nI (5 * j)))]) {u v : TS} {z : Int32 ⊕ Nat} {bb : Int32} (h8 : sX8_output (xs (5 * j + 1)) σ = some (z, u)) (h9 : sX9_output (xs (5 * j + 1)) μ = some (bb, v)) (hI : okI [(1, 1)] z bb (v 0 0)) {C S : Nat} (hC : C + 4 ≤ 638203) (hSl : S + 24 ≤ 7181496) (kk : ∀ (fo1 : Nat → Int64) (H1 : Heap) (locs1 : List Loc) (ls1 : Array Slot), va_P D vwCl (gS 78 q (TX cy q) u) H1 → va_P D vwCl (gS 39 q2 (MX cy q2) v) H1 → va_P D vwCl (oW o cy fo1) H1 → va_S (fun a => s.heap.size ≤ a) s.heap H1 locs1 → lv_has ls1 9 [(0, .ref b), (1, .ref (q (0))), (2, .ref (q2 (0))), (3, .ref o), (4, .int (nI (5 * j)))] → W p l e room_1 s m args below meth c H1 locs1 (C + 4) (S + 24) Q (F0 m 2410 ls1 [])) : W p l e room_1 s m args below meth c H locs C S Q (F0 m 473 ls []) := by
  obtain ⟨hx, hb, hml, hown, hts, hXs, hbl, hL0, hK, hX, hNt, hlf, hJ, hJ2, hAT, hAM, hAo, hdis, hoT, hoM⟩ := F0_
  have hAO : ∀ a, hA q o a → s.heap.size ≤ a := fun a h => h.elim (fun h => hAT a h) (fun h => by rw [h]; exact hAo)
  have hdM : ∀ a, gA 39 q2 a → ¬ hA q o a := fun a h h2 => h2.elim (fun h3 => hdis a h h3) (fun h3 => hoM (by rw [← h3]; exact h))
  have hdT : ∀ a, gA 78 q a → ¬ gA 39 q2 a := fun a h h2 => hdis a h2 h
  obtain ⟨t, hz, ht, hcase⟩ := hI
  refine lv_aload_n hx hb dL_law_473 rfl (lv_at hl 1 rfl) ?_
  refine lv_aload_n hx hb dL_law_474 rfl (lv_at hl 0 rfl) ?_
  refine lv_iload hx hb dL_law_475 (lv_at hl 4 rfl) ?_
  refine lv_iconst (v := (1 : Int32)) hx hb dL_law_477 (by decide) ?_
  refine lv_iadd hx hb dL_law_478 ?_
  refine l_sld hx hb hXs hbl hS hL0 1 (by decide) (by omega) dL_law_479 ?_
  refine lv_aload_n hx hb dL_law_480 rfl (lv_at hl 3 rfl) ?_
  refine l_cS (As := [.ref (q (0)), .int (xs (5 * j + 1)), .ref o]) (rest := []) (WO := gS 39 q2 (MX cy q2) μ) hx hb hml hown hts hK hX hNt hAO hP hO hM (l_dM hdM) hS (mL_output l hlf hJ hoT h8 hz) (vx_cwSW 3 hts gL_law_L_output rfl rfl rfl (by decide +kernel) ⟨Nat.le_of_ble_eq_true rfl, Nat.le_of_ble_eq_true rfl⟩) rfl hl.1 rfl (Nat.le_of_ble_eq_true rfl) dL_law_481 ⟨by show C + _ ≤ 638203; omega, by show S + _ ≤ 7181496; omega⟩ (fun H locs hP hO hM hS => ?_)
  refine lv_istore (lv' := [(5, .int t), (0, .ref b), (1, .ref (q (0))), (2, .ref (q2 (0))), (3, .ref o), (4, .int (nI (5 * j)))]) hx hb dL_law_484 hl (by decide) rfl (fun ls hl => ?_)
  refine lv_aload_n hx hb dL_law_486 rfl (lv_at hl 3 rfl) ?_
  refine lv_aload_n hx hb dL_law_487 rfl (lv_at hl 1 rfl) ?_
  refine lv_iload hx hb dL_law_488 (lv_at hl 5 rfl) ?_
  refine lv_iconst (v := (1 : Int32)) hx hb dL_law_490 (by decide) ?_
  refine lv_iadd hx hb dL_law_491 ?_
  refine l_sld hx hb hXs hbl hS hL0 1 (by decide) (by omega) dL_law_492 ?_
  refine l_cVi (As := [.int (xs (5 * j + 1))]) (rest := []) (WO := gS 78 q (TX cy q) u ++ oW o cy _) hx hb hml hown hts hK hAM hM (hP.app hO) (l_app (l_dM hdT) (h_odis hoM)) hS (mX9_output l hJ2 h9) (cwV 1 hts gL_law_X9_output rfl rfl rfl nVX9_output ⟨Nat.le_of_ble_eq_true rfl, Nat.le_of_ble_eq_true rfl⟩) (g_recv hK hM kk_Mod ce_Mod rfl) rfl hl.1 rfl (Nat.le_of_ble_eq_true rfl) dL_law_493 ⟨by show C + _ ≤ 638203; omega, by show S + _ ≤ 7181496; omega⟩ (fun H locs hM hPO hS => ?_)
  have hP := w_first hPO
  have hO := w_last hPO
  clear hPO
  refine lv_istore (lv' := [(6, .int bb), (5, .int t), (0, .ref b), (1, .ref (q (0))), (2, .ref (q2 (0))), (3, .ref o), (4, .int (nI (5 * j)))]) hx hb dL_law_496 hl (by decide) rfl (fun ls hl => ?_)
  refine lv_aload_n hx hb dL_law_498 rfl (lv_at hl 4 rfl) ?_
  refine l_cVi (As := []) (rest := []) (WO := gS 78 q (TX cy q) u ++ oW o cy _) hx hb hml hown hts hK hAM hM (hP.app hO) (l_app (l_dM hdT) (h_odis hoM)) hS (mX9_thrown (σ := v) (r := v 0 0) (u := v) l hJ2 rfl) (cwV 0 hts gL_law_X9_thrown rfl rfl rfl nVX9_thrown ⟨Nat.le_of_ble_eq_true rfl, Nat.le_of_ble_eq_true rfl⟩) (g_recv hK hM kk_Mod ce_Mod rfl) rfl hl.1 rfl (Nat.le_of_ble_eq_true rfl) dL_law_499 ⟨by show C + _ ≤ 638203; omega, by show S + _ ≤ 7181496; omega⟩ (fun H locs hM hPO hS => ?_)
  have hP := w_first hPO
  have hO := w_last hPO
  clear hPO
  refine lv_iload hx hb dL_law_502 (lv_at hl 1 rfl) ?_
  refine lv_icmp_eq (tgt := 509) hx hb dL_law_504 (by decide) (fun _ => ?_) (fun h => absurd ht h)
  refine lv_iload hx hb dL_law_509 (lv_at hl 1 rfl) ?_
  by_cases ht0 : t = 0
  · have hzb := hcase ht0
    subst hzb
    refine lv_if_ne (tgt := 526) hx hb dL_law_511 (by decide) (fun h => absurd ht0 h) (fun _ => ?_)
    refine lv_aload_n hx hb dL_law_514 rfl (lv_at hl 5 rfl) ?_
    refine lv_iconst (v := (0 : Int32)) hx hb dL_law_515 (by decide) ?_
    refine va_lald hx hb hK hO 0 9 rfl rfl (i := (0 : Int32)) (vin_of (by decide)) dL_law_516 ?_
    refine lv_iload hx hb dL_law_517 (lv_at hl 0 rfl) ?_
    refine lv_i2l hx hb dL_law_519 rfl ?_
    refine W.lcmp hx hb dL_law_520 ?_
    have hcmp : lg_cmp (lo (.inl bb) fo ((0 : Int32).toNatClampNeg)) bb.toInt64 = 0 := l_cmp0 _
    refine lv_if_eq (tgt := 526) hx hb dL_law_521 (by decide) (fun _ => ?_) (fun h => absurd hcmp h)
    refine lv_goto (tgt := 2410) hx hb dL_law_526 (by decide) ?_
    have hl9 := lv_sub hl [2, 3, 4, 5, 6] (l' := [(0, .ref b), (1, .ref (q (0))), (2, .ref (q2 (0))), (3, .ref o), (4, .int (nI (5 * j)))]) rfl
    exact W.widen (k := C + 4) (n := S + 24) (by omega) (by omega) (kk _ _ _ _ hP hM hO hS hl9)
  · refine lv_if_ne (tgt := 526) hx hb dL_law_511 (by decide) (fun _ => ?_) (fun h => absurd h ht0)
    refine lv_goto (tgt := 2410) hx hb dL_law_526 (by decide) ?_
    have hl9 := lv_sub hl [2, 3, 4, 5, 6] (l' := [(0, .ref b), (1, .ref (q (0))), (2, .ref (q2 (0))), (3, .ref o), (4, .int (nI (5 * j)))]) rfl
    exact W.widen (k := C + 4) (n := S + 24) (by omega) (by omega) (kk _ _ _ _ hP hM hO hS hl9)
set_option maxHeartbeats 4000000 in
set_option maxRecDepth 100000 in
theorem lc_plain {p : Program} {l : Launch} {e : Env} {s : State} {m : MethodId} {args : Array Value} {below : List Frame} {meth : Method} {c : Code} {Q : State → Prop} {b L : Nat} {xs : Nat → Int32} {D : va_G} {cy : Nat → ClassId} {q q2 : Nat → Nat} {o : Nat} (F0_ : lF p l s m args c b L xs D cy q q2 o) {σ μ : TS} {fo : Nat → Int64} {H : Heap} {locs : List Loc} (hP : va_P D vwCl (gS 78 q (TX cy q) σ) H) (hM : va_P D vwCl (gS 39 q2 (MX cy q2) μ) H) (hO : va_P D vwCl (oW o cy fo) H) (hS : va_S (fun a => s.heap.size ≤ a) s.heap H locs) {j : Nat} (hj : 5 * j + 5 ≤ L) {ls : Array Slot} (hl : lv_has ls 9 [(0, .ref b), (1, .ref (q (0))), (2, .ref (q2 (0))), (3, .ref o), (4, .int (nI (5 * j)))]) {u v : TS} {z : Int32 ⊕ Nat} {bb : Int32} (h8 : sX8_plain (xs (5 * j + 1)) σ = some (z, u)) (h9 : sX9_plain (xs (5 * j + 1)) μ = some (bb, v)) (hI : okI [(1, 1)] z bb (v 0 0)) {C S : Nat} (hC : C + 4 ≤ 638203) (hSl : S + 24 ≤ 7181496) (kk : ∀ (fo1 : Nat → Int64) (H1 : Heap) (locs1 : List Loc) (ls1 : Array Slot), va_P D vwCl (gS 78 q (TX cy q) u) H1 → va_P D vwCl (gS 39 q2 (MX cy q2) v) H1 → va_P D vwCl (oW o cy fo1) H1 → va_S (fun a => s.heap.size ≤ a) s.heap H1 locs1 → lv_has ls1 9 [(0, .ref b), (1, .ref (q (0))), (2, .ref (q2 (0))), (3, .ref o), (4, .int (nI (5 * j)))] → W p l e room_1 s m args below meth c H1 locs1 (C + 4) (S + 24) Q (F0 m 2410 ls1 [])) : W p l e room_1 s m args below meth c H locs C S Q (F0 m 529 ls []) := by
  obtain ⟨hx, hb, hml, hown, hts, hXs, hbl, hL0, hK, hX, hNt, hlf, hJ, hJ2, hAT, hAM, hAo, hdis, hoT, hoM⟩ := F0_
  have hAO : ∀ a, hA q o a → s.heap.size ≤ a := fun a h => h.elim (fun h => hAT a h) (fun h => by rw [h]; exact hAo)
  have hdM : ∀ a, gA 39 q2 a → ¬ hA q o a := fun a h h2 => h2.elim (fun h3 => hdis a h h3) (fun h3 => hoM (by rw [← h3]; exact h))
  have hdT : ∀ a, gA 78 q a → ¬ gA 39 q2 a := fun a h h2 => hdis a h2 h
  obtain ⟨t, hz, ht, hcase⟩ := hI
  refine lv_aload_n hx hb dL_law_529 rfl (lv_at hl 1 rfl) ?_
  refine lv_aload_n hx hb dL_law_530 rfl (lv_at hl 0 rfl) ?_
  refine lv_iload hx hb dL_law_531 (lv_at hl 4 rfl) ?_
  refine lv_iconst (v := (1 : Int32)) hx hb dL_law_533 (by decide) ?_
  refine lv_iadd hx hb dL_law_534 ?_
  refine l_sld hx hb hXs hbl hS hL0 1 (by decide) (by omega) dL_law_535 ?_
  refine lv_aload_n hx hb dL_law_536 rfl (lv_at hl 3 rfl) ?_
  refine l_cS (As := [.ref (q (0)), .int (xs (5 * j + 1)), .ref o]) (rest := []) (WO := gS 39 q2 (MX cy q2) μ) hx hb hml hown hts hK hX hNt hAO hP hO hM (l_dM hdM) hS (mL_plain l hlf hJ hoT h8 hz) (vx_cwSW 3 hts gL_law_L_plain rfl rfl rfl (by decide +kernel) ⟨Nat.le_of_ble_eq_true rfl, Nat.le_of_ble_eq_true rfl⟩) rfl hl.1 rfl (Nat.le_of_ble_eq_true rfl) dL_law_537 ⟨by show C + _ ≤ 638203; omega, by show S + _ ≤ 7181496; omega⟩ (fun H locs hP hO hM hS => ?_)
  refine lv_istore (lv' := [(5, .int t), (0, .ref b), (1, .ref (q (0))), (2, .ref (q2 (0))), (3, .ref o), (4, .int (nI (5 * j)))]) hx hb dL_law_540 hl (by decide) rfl (fun ls hl => ?_)
  refine lv_aload_n hx hb dL_law_542 rfl (lv_at hl 3 rfl) ?_
  refine lv_aload_n hx hb dL_law_543 rfl (lv_at hl 1 rfl) ?_
  refine lv_iload hx hb dL_law_544 (lv_at hl 5 rfl) ?_
  refine lv_iconst (v := (1 : Int32)) hx hb dL_law_546 (by decide) ?_
  refine lv_iadd hx hb dL_law_547 ?_
  refine l_sld hx hb hXs hbl hS hL0 1 (by decide) (by omega) dL_law_548 ?_
  refine l_cVi (As := [.int (xs (5 * j + 1))]) (rest := []) (WO := gS 78 q (TX cy q) u ++ oW o cy _) hx hb hml hown hts hK hAM hM (hP.app hO) (l_app (l_dM hdT) (h_odis hoM)) hS (mX9_plain l hJ2 h9) (cwV 1 hts gL_law_X9_plain rfl rfl rfl nVX9_plain ⟨Nat.le_of_ble_eq_true rfl, Nat.le_of_ble_eq_true rfl⟩) (g_recv hK hM kk_Mod ce_Mod rfl) rfl hl.1 rfl (Nat.le_of_ble_eq_true rfl) dL_law_549 ⟨by show C + _ ≤ 638203; omega, by show S + _ ≤ 7181496; omega⟩ (fun H locs hM hPO hS => ?_)
  have hP := w_first hPO
  have hO := w_last hPO
  clear hPO
  refine lv_istore (lv' := [(6, .int bb), (5, .int t), (0, .ref b), (1, .ref (q (0))), (2, .ref (q2 (0))), (3, .ref o), (4, .int (nI (5 * j)))]) hx hb dL_law_552 hl (by decide) rfl (fun ls hl => ?_)
  refine lv_aload_n hx hb dL_law_554 rfl (lv_at hl 4 rfl) ?_
  refine l_cVi (As := []) (rest := []) (WO := gS 78 q (TX cy q) u ++ oW o cy _) hx hb hml hown hts hK hAM hM (hP.app hO) (l_app (l_dM hdT) (h_odis hoM)) hS (mX9_thrown (σ := v) (r := v 0 0) (u := v) l hJ2 rfl) (cwV 0 hts gL_law_X9_thrown rfl rfl rfl nVX9_thrown ⟨Nat.le_of_ble_eq_true rfl, Nat.le_of_ble_eq_true rfl⟩) (g_recv hK hM kk_Mod ce_Mod rfl) rfl hl.1 rfl (Nat.le_of_ble_eq_true rfl) dL_law_555 ⟨by show C + _ ≤ 638203; omega, by show S + _ ≤ 7181496; omega⟩ (fun H locs hM hPO hS => ?_)
  have hP := w_first hPO
  have hO := w_last hPO
  clear hPO
  refine lv_iload hx hb dL_law_558 (lv_at hl 1 rfl) ?_
  refine lv_icmp_eq (tgt := 565) hx hb dL_law_560 (by decide) (fun _ => ?_) (fun h => absurd ht h)
  refine lv_iload hx hb dL_law_565 (lv_at hl 1 rfl) ?_
  by_cases ht0 : t = 0
  · have hzb := hcase ht0
    subst hzb
    refine lv_if_ne (tgt := 582) hx hb dL_law_567 (by decide) (fun h => absurd ht0 h) (fun _ => ?_)
    refine lv_aload_n hx hb dL_law_570 rfl (lv_at hl 5 rfl) ?_
    refine lv_iconst (v := (0 : Int32)) hx hb dL_law_571 (by decide) ?_
    refine va_lald hx hb hK hO 0 9 rfl rfl (i := (0 : Int32)) (vin_of (by decide)) dL_law_572 ?_
    refine lv_iload hx hb dL_law_573 (lv_at hl 0 rfl) ?_
    refine lv_i2l hx hb dL_law_575 rfl ?_
    refine W.lcmp hx hb dL_law_576 ?_
    have hcmp : lg_cmp (lo (.inl bb) fo ((0 : Int32).toNatClampNeg)) bb.toInt64 = 0 := l_cmp0 _
    refine lv_if_eq (tgt := 582) hx hb dL_law_577 (by decide) (fun _ => ?_) (fun h => absurd hcmp h)
    refine lv_goto (tgt := 2410) hx hb dL_law_582 (by decide) ?_
    have hl9 := lv_sub hl [2, 3, 4, 5, 6] (l' := [(0, .ref b), (1, .ref (q (0))), (2, .ref (q2 (0))), (3, .ref o), (4, .int (nI (5 * j)))]) rfl
    exact W.widen (k := C + 4) (n := S + 24) (by omega) (by omega) (kk _ _ _ _ hP hM hO hS hl9)
  · refine lv_if_ne (tgt := 582) hx hb dL_law_567 (by decide) (fun _ => ?_) (fun h => absurd h ht0)
    refine lv_goto (tgt := 2410) hx hb dL_law_582 (by decide) ?_
    have hl9 := lv_sub hl [2, 3, 4, 5, 6] (l' := [(0, .ref b), (1, .ref (q (0))), (2, .ref (q2 (0))), (3, .ref o), (4, .int (nI (5 * j)))]) rfl
    exact W.widen (k := C + 4) (n := S + 24) (by omega) (by omega) (kk _ _ _ _ hP hM hO hS hl9)
set_option maxHeartbeats 4000000 in
set_option maxRecDepth 100000 in
theorem lc_isPlain {p : Program} {l : Launch} {e : Env} {s : State} {m : MethodId} {args : Array Value} {below : List Frame} {meth : Method} {c : Code} {Q : State → Prop} {b L : Nat} {xs : Nat → Int32} {D : va_G} {cy : Nat → ClassId} {q q2 : Nat → Nat} {o : Nat} (F0_ : lF p l s m args c b L xs D cy q q2 o) {σ μ : TS} {fo : Nat → Int64} {H : Heap} {locs : List Loc} (hP : va_P D vwCl (gS 78 q (TX cy q) σ) H) (hM : va_P D vwCl (gS 39 q2 (MX cy q2) μ) H) (hO : va_P D vwCl (oW o cy fo) H) (hS : va_S (fun a => s.heap.size ≤ a) s.heap H locs) {j : Nat} (hj : 5 * j + 5 ≤ L) {ls : Array Slot} (hl : lv_has ls 9 [(0, .ref b), (1, .ref (q (0))), (2, .ref (q2 (0))), (3, .ref o), (4, .int (nI (5 * j)))]) {u v : TS} {bb : Int32} (h8 : sX8_isPlain σ = some (bb, u)) (h9 : sX9_isPlain μ = some (bb, v)) {C S : Nat} (hC : C + 4 ≤ 638203) (hSl : S + 24 ≤ 7181496) (kk : ∀ (fo1 : Nat → Int64) (H1 : Heap) (locs1 : List Loc) (ls1 : Array Slot), va_P D vwCl (gS 78 q (TX cy q) u) H1 → va_P D vwCl (gS 39 q2 (MX cy q2) v) H1 → va_P D vwCl (oW o cy fo1) H1 → va_S (fun a => s.heap.size ≤ a) s.heap H1 locs1 → lv_has ls1 9 [(0, .ref b), (1, .ref (q (0))), (2, .ref (q2 (0))), (3, .ref o), (4, .int (nI (5 * j)))] → W p l e room_1 s m args below meth c H1 locs1 (C + 4) (S + 24) Q (F0 m 2410 ls1 [])) : W p l e room_1 s m args below meth c H locs C S Q (F0 m 585 ls []) := by
  obtain ⟨hx, hb, hml, hown, hts, hXs, hbl, hL0, hK, hX, hNt, hlf, hJ, hJ2, hAT, hAM, hAo, hdis, hoT, hoM⟩ := F0_
  have hAO : ∀ a, hA q o a → s.heap.size ≤ a := fun a h => h.elim (fun h => hAT a h) (fun h => by rw [h]; exact hAo)
  have hdM : ∀ a, gA 39 q2 a → ¬ hA q o a := fun a h h2 => h2.elim (fun h3 => hdis a h h3) (fun h3 => hoM (by rw [← h3]; exact h))
  have hdT : ∀ a, gA 78 q a → ¬ gA 39 q2 a := fun a h h2 => hdis a h2 h
  refine lv_aload_n hx hb dL_law_585 rfl (lv_at hl 1 rfl) ?_
  refine l_cVi (As := []) (rest := []) (WO := gS 39 q2 (MX cy q2) μ ++ oW o cy fo) hx hb hml hown hts hK hAT hP (hM.app hO) (l_app (l_dM (fun a h => hdis a h)) (h_odis hoT)) hS (mX8_isPlain l hJ h8) (cwV 0 hts gL_law_X8_isPlain rfl rfl rfl nVX8_isPlain ⟨Nat.le_of_ble_eq_true rfl, Nat.le_of_ble_eq_true rfl⟩) (g_recv hK hP kk_Tri ce_Tri rfl) rfl hl.1 rfl (Nat.le_of_ble_eq_true rfl) dL_law_586 ⟨by show C ≤ 638203; omega, by show S ≤ 7181496; omega⟩ (fun H locs hP hMO hS => ?_)
  have hM := w_first hMO
  have hO := w_last hMO
  clear hMO
  refine lv_aload_n hx hb dL_law_589 rfl (lv_at hl 2 rfl) ?_
  refine l_cVi (As := []) (rest := [.int bb]) (WO := gS 78 q (TX cy q) u ++ oW o cy _) hx hb hml hown hts hK hAM hM (hP.app hO) (l_app (l_dM hdT) (h_odis hoM)) hS (mX9_isPlain l hJ2 h9) (cwV 0 hts gL_law_X9_isPlain rfl rfl rfl nVX9_isPlain ⟨Nat.le_of_ble_eq_true rfl, Nat.le_of_ble_eq_true rfl⟩) (g_recv hK hM kk_Mod ce_Mod rfl) rfl hl.1 rfl (Nat.le_of_ble_eq_true rfl) dL_law_590 ⟨by show C ≤ 638203; omega, by show S ≤ 7181496; omega⟩ (fun H locs hM hPO hS => ?_)
  have hP := w_first hPO
  have hO := w_last hPO
  clear hPO
  refine lv_icmp_eq (tgt := 2410) hx hb dL_law_593 (by decide) (fun _ => ?_) (fun h => absurd rfl h)
  have hl9 := lv_sub hl [0, 1, 2, 3, 4] (l' := [(0, .ref b), (1, .ref (q (0))), (2, .ref (q2 (0))), (3, .ref o), (4, .int (nI (5 * j)))]) rfl
  exact W.widen (k := C + 4) (n := S + 24) (by omega) (by omega) (kk _ _ _ _ hP hM hO hS hl9)
set_option maxHeartbeats 4000000 in
set_option maxRecDepth 100000 in
theorem lc_word {p : Program} {l : Launch} {e : Env} {s : State} {m : MethodId} {args : Array Value} {below : List Frame} {meth : Method} {c : Code} {Q : State → Prop} {b L : Nat} {xs : Nat → Int32} {D : va_G} {cy : Nat → ClassId} {q q2 : Nat → Nat} {o : Nat} (F0_ : lF p l s m args c b L xs D cy q q2 o) {σ μ : TS} {fo : Nat → Int64} {H : Heap} {locs : List Loc} (hP : va_P D vwCl (gS 78 q (TX cy q) σ) H) (hM : va_P D vwCl (gS 39 q2 (MX cy q2) μ) H) (hO : va_P D vwCl (oW o cy fo) H) (hS : va_S (fun a => s.heap.size ≤ a) s.heap H locs) {j : Nat} (hj : 5 * j + 5 ≤ L) {ls : Array Slot} (hl : lv_has ls 9 [(0, .ref b), (1, .ref (q (0))), (2, .ref (q2 (0))), (3, .ref o), (4, .int (nI (5 * j)))]) {u v : TS} {z : Int32 ⊕ Nat} {bb : Int32} (h8 : sX8_word (xs (5 * j + 1)) (xs (5 * j + 2)) (xs (5 * j + 3)) σ = some (z, u)) (h9 : sX9_word (xs (5 * j + 1)) (xs (5 * j + 2)) (xs (5 * j + 3)) μ = some (bb, v)) (hI : okI [(1, 1)] z bb (v 0 0)) {C S : Nat} (hC : C + 4 ≤ 638203) (hSl : S + 24 ≤ 7181496) (kk : ∀ (fo1 : Nat → Int64) (H1 : Heap) (locs1 : List Loc) (ls1 : Array Slot), va_P D vwCl (gS 78 q (TX cy q) u) H1 → va_P D vwCl (gS 39 q2 (MX cy q2) v) H1 → va_P D vwCl (oW o cy fo1) H1 → va_S (fun a => s.heap.size ≤ a) s.heap H1 locs1 → lv_has ls1 9 [(0, .ref b), (1, .ref (q (0))), (2, .ref (q2 (0))), (3, .ref o), (4, .int (nI (5 * j)))] → W p l e room_1 s m args below meth c H1 locs1 (C + 4) (S + 24) Q (F0 m 2410 ls1 [])) : W p l e room_1 s m args below meth c H locs C S Q (F0 m 598 ls []) := by
  obtain ⟨hx, hb, hml, hown, hts, hXs, hbl, hL0, hK, hX, hNt, hlf, hJ, hJ2, hAT, hAM, hAo, hdis, hoT, hoM⟩ := F0_
  have hAO : ∀ a, hA q o a → s.heap.size ≤ a := fun a h => h.elim (fun h => hAT a h) (fun h => by rw [h]; exact hAo)
  have hdM : ∀ a, gA 39 q2 a → ¬ hA q o a := fun a h h2 => h2.elim (fun h3 => hdis a h h3) (fun h3 => hoM (by rw [← h3]; exact h))
  have hdT : ∀ a, gA 78 q a → ¬ gA 39 q2 a := fun a h h2 => hdis a h2 h
  obtain ⟨t, hz, ht, hcase⟩ := hI
  refine lv_aload_n hx hb dL_law_598 rfl (lv_at hl 1 rfl) ?_
  refine lv_aload_n hx hb dL_law_599 rfl (lv_at hl 0 rfl) ?_
  refine lv_iload hx hb dL_law_600 (lv_at hl 4 rfl) ?_
  refine lv_iconst (v := (1 : Int32)) hx hb dL_law_602 (by decide) ?_
  refine lv_iadd hx hb dL_law_603 ?_
  refine l_sld hx hb hXs hbl hS hL0 1 (by decide) (by omega) dL_law_604 ?_
  refine lv_aload_n hx hb dL_law_605 rfl (lv_at hl 0 rfl) ?_
  refine lv_iload hx hb dL_law_606 (lv_at hl 4 rfl) ?_
  refine lv_iconst (v := (2 : Int32)) hx hb dL_law_608 (by decide) ?_
  refine lv_iadd hx hb dL_law_609 ?_
  refine l_sld hx hb hXs hbl hS hL0 2 (by decide) (by omega) dL_law_610 ?_
  refine lv_aload_n hx hb dL_law_611 rfl (lv_at hl 0 rfl) ?_
  refine lv_iload hx hb dL_law_612 (lv_at hl 4 rfl) ?_
  refine lv_iconst (v := (3 : Int32)) hx hb dL_law_614 (by decide) ?_
  refine lv_iadd hx hb dL_law_615 ?_
  refine l_sld hx hb hXs hbl hS hL0 3 (by decide) (by omega) dL_law_616 ?_
  refine lv_aload_n hx hb dL_law_617 rfl (lv_at hl 3 rfl) ?_
  refine l_cS (As := [.ref (q (0)), .int (xs (5 * j + 1)), .int (xs (5 * j + 2)), .int (xs (5 * j + 3)), .ref o]) (rest := []) (WO := gS 39 q2 (MX cy q2) μ) hx hb hml hown hts hK hX hNt hAO hP hO hM (l_dM hdM) hS (mL_word l hlf hJ hoT h8 hz) (vx_cwSW 5 hts gL_law_L_word rfl rfl rfl (by decide +kernel) ⟨Nat.le_of_ble_eq_true rfl, Nat.le_of_ble_eq_true rfl⟩) rfl hl.1 rfl (Nat.le_of_ble_eq_true rfl) dL_law_618 ⟨by show C + _ ≤ 638203; omega, by show S + _ ≤ 7181496; omega⟩ (fun H locs hP hO hM hS => ?_)
  refine lv_istore (lv' := [(5, .int t), (0, .ref b), (1, .ref (q (0))), (2, .ref (q2 (0))), (3, .ref o), (4, .int (nI (5 * j)))]) hx hb dL_law_621 hl (by decide) rfl (fun ls hl => ?_)
  refine lv_aload_n hx hb dL_law_623 rfl (lv_at hl 3 rfl) ?_
  refine lv_aload_n hx hb dL_law_624 rfl (lv_at hl 1 rfl) ?_
  refine lv_iload hx hb dL_law_625 (lv_at hl 5 rfl) ?_
  refine lv_iconst (v := (1 : Int32)) hx hb dL_law_627 (by decide) ?_
  refine lv_iadd hx hb dL_law_628 ?_
  refine l_sld hx hb hXs hbl hS hL0 1 (by decide) (by omega) dL_law_629 ?_
  refine lv_aload_n hx hb dL_law_630 rfl (lv_at hl 1 rfl) ?_
  refine lv_iload hx hb dL_law_631 (lv_at hl 5 rfl) ?_
  refine lv_iconst (v := (2 : Int32)) hx hb dL_law_633 (by decide) ?_
  refine lv_iadd hx hb dL_law_634 ?_
  refine l_sld hx hb hXs hbl hS hL0 2 (by decide) (by omega) dL_law_635 ?_
  refine lv_aload_n hx hb dL_law_636 rfl (lv_at hl 1 rfl) ?_
  refine lv_iload hx hb dL_law_637 (lv_at hl 5 rfl) ?_
  refine lv_iconst (v := (3 : Int32)) hx hb dL_law_639 (by decide) ?_
  refine lv_iadd hx hb dL_law_640 ?_
  refine l_sld hx hb hXs hbl hS hL0 3 (by decide) (by omega) dL_law_641 ?_
  refine l_cVi (As := [.int (xs (5 * j + 1)), .int (xs (5 * j + 2)), .int (xs (5 * j + 3))]) (rest := []) (WO := gS 78 q (TX cy q) u ++ oW o cy _) hx hb hml hown hts hK hAM hM (hP.app hO) (l_app (l_dM hdT) (h_odis hoM)) hS (mX9_word l hJ2 h9) (cwV 3 hts gL_law_X9_word rfl rfl rfl nVX9_word ⟨Nat.le_of_ble_eq_true rfl, Nat.le_of_ble_eq_true rfl⟩) (g_recv hK hM kk_Mod ce_Mod rfl) rfl hl.1 rfl (Nat.le_of_ble_eq_true rfl) dL_law_642 ⟨by show C + _ ≤ 638203; omega, by show S + _ ≤ 7181496; omega⟩ (fun H locs hM hPO hS => ?_)
  have hP := w_first hPO
  have hO := w_last hPO
  clear hPO
  refine lv_istore (lv' := [(6, .int bb), (5, .int t), (0, .ref b), (1, .ref (q (0))), (2, .ref (q2 (0))), (3, .ref o), (4, .int (nI (5 * j)))]) hx hb dL_law_645 hl (by decide) rfl (fun ls hl => ?_)
  refine lv_aload_n hx hb dL_law_647 rfl (lv_at hl 4 rfl) ?_
  refine l_cVi (As := []) (rest := []) (WO := gS 78 q (TX cy q) u ++ oW o cy _) hx hb hml hown hts hK hAM hM (hP.app hO) (l_app (l_dM hdT) (h_odis hoM)) hS (mX9_thrown (σ := v) (r := v 0 0) (u := v) l hJ2 rfl) (cwV 0 hts gL_law_X9_thrown rfl rfl rfl nVX9_thrown ⟨Nat.le_of_ble_eq_true rfl, Nat.le_of_ble_eq_true rfl⟩) (g_recv hK hM kk_Mod ce_Mod rfl) rfl hl.1 rfl (Nat.le_of_ble_eq_true rfl) dL_law_648 ⟨by show C + _ ≤ 638203; omega, by show S + _ ≤ 7181496; omega⟩ (fun H locs hM hPO hS => ?_)
  have hP := w_first hPO
  have hO := w_last hPO
  clear hPO
  refine lv_iload hx hb dL_law_651 (lv_at hl 1 rfl) ?_
  refine lv_icmp_eq (tgt := 658) hx hb dL_law_653 (by decide) (fun _ => ?_) (fun h => absurd ht h)
  refine lv_iload hx hb dL_law_658 (lv_at hl 1 rfl) ?_
  by_cases ht0 : t = 0
  · have hzb := hcase ht0
    subst hzb
    refine lv_if_ne (tgt := 675) hx hb dL_law_660 (by decide) (fun h => absurd ht0 h) (fun _ => ?_)
    refine lv_aload_n hx hb dL_law_663 rfl (lv_at hl 5 rfl) ?_
    refine lv_iconst (v := (0 : Int32)) hx hb dL_law_664 (by decide) ?_
    refine va_lald hx hb hK hO 0 9 rfl rfl (i := (0 : Int32)) (vin_of (by decide)) dL_law_665 ?_
    refine lv_iload hx hb dL_law_666 (lv_at hl 0 rfl) ?_
    refine lv_i2l hx hb dL_law_668 rfl ?_
    refine W.lcmp hx hb dL_law_669 ?_
    have hcmp : lg_cmp (lo (.inl bb) fo ((0 : Int32).toNatClampNeg)) bb.toInt64 = 0 := l_cmp0 _
    refine lv_if_eq (tgt := 675) hx hb dL_law_670 (by decide) (fun _ => ?_) (fun h => absurd hcmp h)
    refine lv_goto (tgt := 2410) hx hb dL_law_675 (by decide) ?_
    have hl9 := lv_sub hl [2, 3, 4, 5, 6] (l' := [(0, .ref b), (1, .ref (q (0))), (2, .ref (q2 (0))), (3, .ref o), (4, .int (nI (5 * j)))]) rfl
    exact W.widen (k := C + 4) (n := S + 24) (by omega) (by omega) (kk _ _ _ _ hP hM hO hS hl9)
  · refine lv_if_ne (tgt := 675) hx hb dL_law_660 (by decide) (fun _ => ?_) (fun h => absurd h ht0)
    refine lv_goto (tgt := 2410) hx hb dL_law_675 (by decide) ?_
    have hl9 := lv_sub hl [2, 3, 4, 5, 6] (l' := [(0, .ref b), (1, .ref (q (0))), (2, .ref (q2 (0))), (3, .ref o), (4, .int (nI (5 * j)))]) rfl
    exact W.widen (k := C + 4) (n := S + 24) (by omega) (by omega) (kk _ _ _ _ hP hM hO hS hl9)
set_option maxHeartbeats 4000000 in
set_option maxRecDepth 100000 in
theorem lc_flip {p : Program} {l : Launch} {e : Env} {s : State} {m : MethodId} {args : Array Value} {below : List Frame} {meth : Method} {c : Code} {Q : State → Prop} {b L : Nat} {xs : Nat → Int32} {D : va_G} {cy : Nat → ClassId} {q q2 : Nat → Nat} {o : Nat} (F0_ : lF p l s m args c b L xs D cy q q2 o) {σ μ : TS} {fo : Nat → Int64} {H : Heap} {locs : List Loc} (hP : va_P D vwCl (gS 78 q (TX cy q) σ) H) (hM : va_P D vwCl (gS 39 q2 (MX cy q2) μ) H) (hO : va_P D vwCl (oW o cy fo) H) (hS : va_S (fun a => s.heap.size ≤ a) s.heap H locs) {j : Nat} (hj : 5 * j + 5 ≤ L) {ls : Array Slot} (hl : lv_has ls 9 [(0, .ref b), (1, .ref (q (0))), (2, .ref (q2 (0))), (3, .ref o), (4, .int (nI (5 * j)))]) {u v : TS} {z : Int32 ⊕ Nat} {bb : Int32} (h8 : sX8_flip (xs (5 * j + 1)) (xs (5 * j + 2)) (xs (5 * j + 3)) (xs (5 * j + 4)) σ = some (z, u)) (h9 : sX9_flip (xs (5 * j + 1)) (xs (5 * j + 2)) (xs (5 * j + 3)) (xs (5 * j + 4)) μ = some (bb, v)) (hI : okI [(1, 1)] z bb (v 0 0)) {C S : Nat} (hC : C + 4 ≤ 638203) (hSl : S + 24 ≤ 7181496) (kk : ∀ (fo1 : Nat → Int64) (H1 : Heap) (locs1 : List Loc) (ls1 : Array Slot), va_P D vwCl (gS 78 q (TX cy q) u) H1 → va_P D vwCl (gS 39 q2 (MX cy q2) v) H1 → va_P D vwCl (oW o cy fo1) H1 → va_S (fun a => s.heap.size ≤ a) s.heap H1 locs1 → lv_has ls1 9 [(0, .ref b), (1, .ref (q (0))), (2, .ref (q2 (0))), (3, .ref o), (4, .int (nI (5 * j)))] → W p l e room_1 s m args below meth c H1 locs1 (C + 4) (S + 24) Q (F0 m 2410 ls1 [])) : W p l e room_1 s m args below meth c H locs C S Q (F0 m 678 ls []) := by
  obtain ⟨hx, hb, hml, hown, hts, hXs, hbl, hL0, hK, hX, hNt, hlf, hJ, hJ2, hAT, hAM, hAo, hdis, hoT, hoM⟩ := F0_
  have hAO : ∀ a, hA q o a → s.heap.size ≤ a := fun a h => h.elim (fun h => hAT a h) (fun h => by rw [h]; exact hAo)
  have hdM : ∀ a, gA 39 q2 a → ¬ hA q o a := fun a h h2 => h2.elim (fun h3 => hdis a h h3) (fun h3 => hoM (by rw [← h3]; exact h))
  have hdT : ∀ a, gA 78 q a → ¬ gA 39 q2 a := fun a h h2 => hdis a h2 h
  obtain ⟨t, hz, ht, hcase⟩ := hI
  refine lv_aload_n hx hb dL_law_678 rfl (lv_at hl 1 rfl) ?_
  refine lv_aload_n hx hb dL_law_679 rfl (lv_at hl 0 rfl) ?_
  refine lv_iload hx hb dL_law_680 (lv_at hl 4 rfl) ?_
  refine lv_iconst (v := (1 : Int32)) hx hb dL_law_682 (by decide) ?_
  refine lv_iadd hx hb dL_law_683 ?_
  refine l_sld hx hb hXs hbl hS hL0 1 (by decide) (by omega) dL_law_684 ?_
  refine lv_aload_n hx hb dL_law_685 rfl (lv_at hl 0 rfl) ?_
  refine lv_iload hx hb dL_law_686 (lv_at hl 4 rfl) ?_
  refine lv_iconst (v := (2 : Int32)) hx hb dL_law_688 (by decide) ?_
  refine lv_iadd hx hb dL_law_689 ?_
  refine l_sld hx hb hXs hbl hS hL0 2 (by decide) (by omega) dL_law_690 ?_
  refine lv_aload_n hx hb dL_law_691 rfl (lv_at hl 0 rfl) ?_
  refine lv_iload hx hb dL_law_692 (lv_at hl 4 rfl) ?_
  refine lv_iconst (v := (3 : Int32)) hx hb dL_law_694 (by decide) ?_
  refine lv_iadd hx hb dL_law_695 ?_
  refine l_sld hx hb hXs hbl hS hL0 3 (by decide) (by omega) dL_law_696 ?_
  refine lv_aload_n hx hb dL_law_697 rfl (lv_at hl 0 rfl) ?_
  refine lv_iload hx hb dL_law_698 (lv_at hl 4 rfl) ?_
  refine lv_iconst (v := (4 : Int32)) hx hb dL_law_700 (by decide) ?_
  refine lv_iadd hx hb dL_law_701 ?_
  refine l_sld hx hb hXs hbl hS hL0 4 (by decide) (by omega) dL_law_702 ?_
  refine lv_aload_n hx hb dL_law_703 rfl (lv_at hl 3 rfl) ?_
  refine l_cS (As := [.ref (q (0)), .int (xs (5 * j + 1)), .int (xs (5 * j + 2)), .int (xs (5 * j + 3)), .int (xs (5 * j + 4)), .ref o]) (rest := []) (WO := gS 39 q2 (MX cy q2) μ) hx hb hml hown hts hK hX hNt hAO hP hO hM (l_dM hdM) hS (mL_flip l hlf hJ hoT h8 hz) (vx_cwSW 6 hts gL_law_L_flip rfl rfl rfl (by decide +kernel) ⟨Nat.le_of_ble_eq_true rfl, Nat.le_of_ble_eq_true rfl⟩) rfl hl.1 rfl (Nat.le_of_ble_eq_true rfl) dL_law_704 ⟨by show C + _ ≤ 638203; omega, by show S + _ ≤ 7181496; omega⟩ (fun H locs hP hO hM hS => ?_)
  refine lv_istore (lv' := [(5, .int t), (0, .ref b), (1, .ref (q (0))), (2, .ref (q2 (0))), (3, .ref o), (4, .int (nI (5 * j)))]) hx hb dL_law_707 hl (by decide) rfl (fun ls hl => ?_)
  refine lv_aload_n hx hb dL_law_709 rfl (lv_at hl 3 rfl) ?_
  refine lv_aload_n hx hb dL_law_710 rfl (lv_at hl 1 rfl) ?_
  refine lv_iload hx hb dL_law_711 (lv_at hl 5 rfl) ?_
  refine lv_iconst (v := (1 : Int32)) hx hb dL_law_713 (by decide) ?_
  refine lv_iadd hx hb dL_law_714 ?_
  refine l_sld hx hb hXs hbl hS hL0 1 (by decide) (by omega) dL_law_715 ?_
  refine lv_aload_n hx hb dL_law_716 rfl (lv_at hl 1 rfl) ?_
  refine lv_iload hx hb dL_law_717 (lv_at hl 5 rfl) ?_
  refine lv_iconst (v := (2 : Int32)) hx hb dL_law_719 (by decide) ?_
  refine lv_iadd hx hb dL_law_720 ?_
  refine l_sld hx hb hXs hbl hS hL0 2 (by decide) (by omega) dL_law_721 ?_
  refine lv_aload_n hx hb dL_law_722 rfl (lv_at hl 1 rfl) ?_
  refine lv_iload hx hb dL_law_723 (lv_at hl 5 rfl) ?_
  refine lv_iconst (v := (3 : Int32)) hx hb dL_law_725 (by decide) ?_
  refine lv_iadd hx hb dL_law_726 ?_
  refine l_sld hx hb hXs hbl hS hL0 3 (by decide) (by omega) dL_law_727 ?_
  refine lv_aload_n hx hb dL_law_728 rfl (lv_at hl 1 rfl) ?_
  refine lv_iload hx hb dL_law_729 (lv_at hl 5 rfl) ?_
  refine lv_iconst (v := (4 : Int32)) hx hb dL_law_731 (by decide) ?_
  refine lv_iadd hx hb dL_law_732 ?_
  refine l_sld hx hb hXs hbl hS hL0 4 (by decide) (by omega) dL_law_733 ?_
  refine l_cVi (As := [.int (xs (5 * j + 1)), .int (xs (5 * j + 2)), .int (xs (5 * j + 3)), .int (xs (5 * j + 4))]) (rest := []) (WO := gS 78 q (TX cy q) u ++ oW o cy _) hx hb hml hown hts hK hAM hM (hP.app hO) (l_app (l_dM hdT) (h_odis hoM)) hS (mX9_flip l hJ2 h9) (cwV 4 hts gL_law_X9_flip rfl rfl rfl nVX9_flip ⟨Nat.le_of_ble_eq_true rfl, Nat.le_of_ble_eq_true rfl⟩) (g_recv hK hM kk_Mod ce_Mod rfl) rfl hl.1 rfl (Nat.le_of_ble_eq_true rfl) dL_law_734 ⟨by show C + _ ≤ 638203; omega, by show S + _ ≤ 7181496; omega⟩ (fun H locs hM hPO hS => ?_)
  have hP := w_first hPO
  have hO := w_last hPO
  clear hPO
  refine lv_istore (lv' := [(6, .int bb), (5, .int t), (0, .ref b), (1, .ref (q (0))), (2, .ref (q2 (0))), (3, .ref o), (4, .int (nI (5 * j)))]) hx hb dL_law_737 hl (by decide) rfl (fun ls hl => ?_)
  refine lv_aload_n hx hb dL_law_739 rfl (lv_at hl 4 rfl) ?_
  refine l_cVi (As := []) (rest := []) (WO := gS 78 q (TX cy q) u ++ oW o cy _) hx hb hml hown hts hK hAM hM (hP.app hO) (l_app (l_dM hdT) (h_odis hoM)) hS (mX9_thrown (σ := v) (r := v 0 0) (u := v) l hJ2 rfl) (cwV 0 hts gL_law_X9_thrown rfl rfl rfl nVX9_thrown ⟨Nat.le_of_ble_eq_true rfl, Nat.le_of_ble_eq_true rfl⟩) (g_recv hK hM kk_Mod ce_Mod rfl) rfl hl.1 rfl (Nat.le_of_ble_eq_true rfl) dL_law_740 ⟨by show C + _ ≤ 638203; omega, by show S + _ ≤ 7181496; omega⟩ (fun H locs hM hPO hS => ?_)
  have hP := w_first hPO
  have hO := w_last hPO
  clear hPO
  refine lv_iload hx hb dL_law_743 (lv_at hl 1 rfl) ?_
  refine lv_icmp_eq (tgt := 750) hx hb dL_law_745 (by decide) (fun _ => ?_) (fun h => absurd ht h)
  refine lv_iload hx hb dL_law_750 (lv_at hl 1 rfl) ?_
  by_cases ht0 : t = 0
  · have hzb := hcase ht0
    subst hzb
    refine lv_if_ne (tgt := 767) hx hb dL_law_752 (by decide) (fun h => absurd ht0 h) (fun _ => ?_)
    refine lv_aload_n hx hb dL_law_755 rfl (lv_at hl 5 rfl) ?_
    refine lv_iconst (v := (0 : Int32)) hx hb dL_law_756 (by decide) ?_
    refine va_lald hx hb hK hO 0 9 rfl rfl (i := (0 : Int32)) (vin_of (by decide)) dL_law_757 ?_
    refine lv_iload hx hb dL_law_758 (lv_at hl 0 rfl) ?_
    refine lv_i2l hx hb dL_law_760 rfl ?_
    refine W.lcmp hx hb dL_law_761 ?_
    have hcmp : lg_cmp (lo (.inl bb) fo ((0 : Int32).toNatClampNeg)) bb.toInt64 = 0 := l_cmp0 _
    refine lv_if_eq (tgt := 767) hx hb dL_law_762 (by decide) (fun _ => ?_) (fun h => absurd hcmp h)
    refine lv_goto (tgt := 2410) hx hb dL_law_767 (by decide) ?_
    have hl9 := lv_sub hl [2, 3, 4, 5, 6] (l' := [(0, .ref b), (1, .ref (q (0))), (2, .ref (q2 (0))), (3, .ref o), (4, .int (nI (5 * j)))]) rfl
    exact W.widen (k := C + 4) (n := S + 24) (by omega) (by omega) (kk _ _ _ _ hP hM hO hS hl9)
  · refine lv_if_ne (tgt := 767) hx hb dL_law_752 (by decide) (fun _ => ?_) (fun h => absurd h ht0)
    refine lv_goto (tgt := 2410) hx hb dL_law_767 (by decide) ?_
    have hl9 := lv_sub hl [2, 3, 4, 5, 6] (l' := [(0, .ref b), (1, .ref (q (0))), (2, .ref (q2 (0))), (3, .ref o), (4, .int (nI (5 * j)))]) rfl
    exact W.widen (k := C + 4) (n := S + 24) (by omega) (by omega) (kk _ _ _ _ hP hM hO hS hl9)
set_option maxHeartbeats 4000000 in
set_option maxRecDepth 100000 in
theorem lc_stick {p : Program} {l : Launch} {e : Env} {s : State} {m : MethodId} {args : Array Value} {below : List Frame} {meth : Method} {c : Code} {Q : State → Prop} {b L : Nat} {xs : Nat → Int32} {D : va_G} {cy : Nat → ClassId} {q q2 : Nat → Nat} {o : Nat} (F0_ : lF p l s m args c b L xs D cy q q2 o) {σ μ : TS} {fo : Nat → Int64} {H : Heap} {locs : List Loc} (hP : va_P D vwCl (gS 78 q (TX cy q) σ) H) (hM : va_P D vwCl (gS 39 q2 (MX cy q2) μ) H) (hO : va_P D vwCl (oW o cy fo) H) (hS : va_S (fun a => s.heap.size ≤ a) s.heap H locs) {j : Nat} (hj : 5 * j + 5 ≤ L) {ls : Array Slot} (hl : lv_has ls 9 [(0, .ref b), (1, .ref (q (0))), (2, .ref (q2 (0))), (3, .ref o), (4, .int (nI (5 * j)))]) {u v : TS} {z : Int32 ⊕ Nat} {bb : Int32} (h8 : sX8_stick (xs (5 * j + 1)) (xs (5 * j + 2)) (xs (5 * j + 3)) (lbv (xs (5 * j + 4))) σ = some (z, u)) (h9 : sX9_stick (xs (5 * j + 1)) (xs (5 * j + 2)) (xs (5 * j + 3)) (lbv (xs (5 * j + 4))) μ = some (bb, v)) (hI : okI [(1, 1)] z bb (v 0 0)) {C S : Nat} (hC : C + 4 ≤ 638203) (hSl : S + 24 ≤ 7181496) (kk : ∀ (fo1 : Nat → Int64) (H1 : Heap) (locs1 : List Loc) (ls1 : Array Slot), va_P D vwCl (gS 78 q (TX cy q) u) H1 → va_P D vwCl (gS 39 q2 (MX cy q2) v) H1 → va_P D vwCl (oW o cy fo1) H1 → va_S (fun a => s.heap.size ≤ a) s.heap H1 locs1 → lv_has ls1 9 [(0, .ref b), (1, .ref (q (0))), (2, .ref (q2 (0))), (3, .ref o), (4, .int (nI (5 * j)))] → W p l e room_1 s m args below meth c H1 locs1 (C + 4) (S + 24) Q (F0 m 2410 ls1 [])) : W p l e room_1 s m args below meth c H locs C S Q (F0 m 770 ls []) := by
  obtain ⟨hx, hb, hml, hown, hts, hXs, hbl, hL0, hK, hX, hNt, hlf, hJ, hJ2, hAT, hAM, hAo, hdis, hoT, hoM⟩ := F0_
  have hAO : ∀ a, hA q o a → s.heap.size ≤ a := fun a h => h.elim (fun h => hAT a h) (fun h => by rw [h]; exact hAo)
  have hdM : ∀ a, gA 39 q2 a → ¬ hA q o a := fun a h h2 => h2.elim (fun h3 => hdis a h h3) (fun h3 => hoM (by rw [← h3]; exact h))
  have hdT : ∀ a, gA 78 q a → ¬ gA 39 q2 a := fun a h h2 => hdis a h2 h
  obtain ⟨t, hz, ht, hcase⟩ := hI
  refine lv_aload_n hx hb dL_law_770 rfl (lv_at hl 1 rfl) ?_
  refine lv_aload_n hx hb dL_law_771 rfl (lv_at hl 0 rfl) ?_
  refine lv_iload hx hb dL_law_772 (lv_at hl 4 rfl) ?_
  refine lv_iconst (v := (1 : Int32)) hx hb dL_law_774 (by decide) ?_
  refine lv_iadd hx hb dL_law_775 ?_
  refine l_sld hx hb hXs hbl hS hL0 1 (by decide) (by omega) dL_law_776 ?_
  refine lv_aload_n hx hb dL_law_777 rfl (lv_at hl 0 rfl) ?_
  refine lv_iload hx hb dL_law_778 (lv_at hl 4 rfl) ?_
  refine lv_iconst (v := (2 : Int32)) hx hb dL_law_780 (by decide) ?_
  refine lv_iadd hx hb dL_law_781 ?_
  refine l_sld hx hb hXs hbl hS hL0 2 (by decide) (by omega) dL_law_782 ?_
  refine lv_aload_n hx hb dL_law_783 rfl (lv_at hl 0 rfl) ?_
  refine lv_iload hx hb dL_law_784 (lv_at hl 4 rfl) ?_
  refine lv_iconst (v := (3 : Int32)) hx hb dL_law_786 (by decide) ?_
  refine lv_iadd hx hb dL_law_787 ?_
  refine l_sld hx hb hXs hbl hS hL0 3 (by decide) (by omega) dL_law_788 ?_
  refine lv_aload_n hx hb dL_law_789 rfl (lv_at hl 0 rfl) ?_
  refine lv_iload hx hb dL_law_790 (lv_at hl 4 rfl) ?_
  refine lv_iconst (v := (4 : Int32)) hx hb dL_law_792 (by decide) ?_
  refine lv_iadd hx hb dL_law_793 ?_
  refine l_sld hx hb hXs hbl hS hL0 4 (by decide) (by omega) dL_law_794 ?_
  by_cases hb0 : (xs (5 * j + 4)) = 0
  · have hbv : lbv (xs (5 * j + 4)) = 0 := if_pos hb0
    refine lv_if_eq (tgt := 802) hx hb dL_law_795 (by decide) (fun _ => ?_) (fun h => absurd hb0 h)
    refine lv_iconst (v := (lbv (xs (5 * j + 4)))) hx hb dL_law_802 (by rw [hbv]; decide) ?_
    refine lv_aload_n hx hb dL_law_803 rfl (lv_at hl 3 rfl) ?_
    refine l_cS (As := [.ref (q (0)), .int (xs (5 * j + 1)), .int (xs (5 * j + 2)), .int (xs (5 * j + 3)), .int (lbv (xs (5 * j + 4))), .ref o]) (rest := []) (WO := gS 39 q2 (MX cy q2) μ) hx hb hml hown hts hK hX hNt hAO hP hO hM (l_dM hdM) hS (mL_stick l hlf hJ hoT h8 hz) (vx_cwSW 6 hts gL_law_L_stick rfl rfl rfl (by decide +kernel) ⟨Nat.le_of_ble_eq_true rfl, Nat.le_of_ble_eq_true rfl⟩) rfl hl.1 rfl (Nat.le_of_ble_eq_true rfl) dL_law_804 ⟨by show C + _ ≤ 638203; omega, by show S + _ ≤ 7181496; omega⟩ (fun H locs hP hO hM hS => ?_)
    refine lv_istore (lv' := [(5, .int t), (0, .ref b), (1, .ref (q (0))), (2, .ref (q2 (0))), (3, .ref o), (4, .int (nI (5 * j)))]) hx hb dL_law_807 hl (by decide) rfl (fun ls hl => ?_)
    refine lv_aload_n hx hb dL_law_809 rfl (lv_at hl 3 rfl) ?_
    refine lv_aload_n hx hb dL_law_810 rfl (lv_at hl 1 rfl) ?_
    refine lv_iload hx hb dL_law_811 (lv_at hl 5 rfl) ?_
    refine lv_iconst (v := (1 : Int32)) hx hb dL_law_813 (by decide) ?_
    refine lv_iadd hx hb dL_law_814 ?_
    refine l_sld hx hb hXs hbl hS hL0 1 (by decide) (by omega) dL_law_815 ?_
    refine lv_aload_n hx hb dL_law_816 rfl (lv_at hl 1 rfl) ?_
    refine lv_iload hx hb dL_law_817 (lv_at hl 5 rfl) ?_
    refine lv_iconst (v := (2 : Int32)) hx hb dL_law_819 (by decide) ?_
    refine lv_iadd hx hb dL_law_820 ?_
    refine l_sld hx hb hXs hbl hS hL0 2 (by decide) (by omega) dL_law_821 ?_
    refine lv_aload_n hx hb dL_law_822 rfl (lv_at hl 1 rfl) ?_
    refine lv_iload hx hb dL_law_823 (lv_at hl 5 rfl) ?_
    refine lv_iconst (v := (3 : Int32)) hx hb dL_law_825 (by decide) ?_
    refine lv_iadd hx hb dL_law_826 ?_
    refine l_sld hx hb hXs hbl hS hL0 3 (by decide) (by omega) dL_law_827 ?_
    refine lv_aload_n hx hb dL_law_828 rfl (lv_at hl 1 rfl) ?_
    refine lv_iload hx hb dL_law_829 (lv_at hl 5 rfl) ?_
    refine lv_iconst (v := (4 : Int32)) hx hb dL_law_831 (by decide) ?_
    refine lv_iadd hx hb dL_law_832 ?_
    refine l_sld hx hb hXs hbl hS hL0 4 (by decide) (by omega) dL_law_833 ?_
    refine lv_if_eq (tgt := 841) hx hb dL_law_834 (by decide) (fun _ => ?_) (fun h => absurd hb0 h)
    refine lv_iconst (v := (lbv (xs (5 * j + 4)))) hx hb dL_law_841 (by rw [hbv]; decide) ?_
    refine l_cVi (As := [.int (xs (5 * j + 1)), .int (xs (5 * j + 2)), .int (xs (5 * j + 3)), .int (lbv (xs (5 * j + 4)))]) (rest := []) (WO := gS 78 q (TX cy q) u ++ oW o cy _) hx hb hml hown hts hK hAM hM (hP.app hO) (l_app (l_dM hdT) (h_odis hoM)) hS (mX9_stick l hJ2 h9) (cwV 4 hts gL_law_X9_stick rfl rfl rfl nVX9_stick ⟨Nat.le_of_ble_eq_true rfl, Nat.le_of_ble_eq_true rfl⟩) (g_recv hK hM kk_Mod ce_Mod rfl) rfl hl.1 rfl (Nat.le_of_ble_eq_true rfl) dL_law_842 ⟨by show C + _ ≤ 638203; omega, by show S + _ ≤ 7181496; omega⟩ (fun H locs hM hPO hS => ?_)
    have hP := w_first hPO
    have hO := w_last hPO
    clear hPO
    refine lv_istore (lv' := [(6, .int bb), (5, .int t), (0, .ref b), (1, .ref (q (0))), (2, .ref (q2 (0))), (3, .ref o), (4, .int (nI (5 * j)))]) hx hb dL_law_845 hl (by decide) rfl (fun ls hl => ?_)
    refine lv_aload_n hx hb dL_law_847 rfl (lv_at hl 4 rfl) ?_
    refine l_cVi (As := []) (rest := []) (WO := gS 78 q (TX cy q) u ++ oW o cy _) hx hb hml hown hts hK hAM hM (hP.app hO) (l_app (l_dM hdT) (h_odis hoM)) hS (mX9_thrown (σ := v) (r := v 0 0) (u := v) l hJ2 rfl) (cwV 0 hts gL_law_X9_thrown rfl rfl rfl nVX9_thrown ⟨Nat.le_of_ble_eq_true rfl, Nat.le_of_ble_eq_true rfl⟩) (g_recv hK hM kk_Mod ce_Mod rfl) rfl hl.1 rfl (Nat.le_of_ble_eq_true rfl) dL_law_848 ⟨by show C + _ ≤ 638203; omega, by show S + _ ≤ 7181496; omega⟩ (fun H locs hM hPO hS => ?_)
    have hP := w_first hPO
    have hO := w_last hPO
    clear hPO
    refine lv_iload hx hb dL_law_851 (lv_at hl 1 rfl) ?_
    refine lv_icmp_eq (tgt := 858) hx hb dL_law_853 (by decide) (fun _ => ?_) (fun h => absurd ht h)
    refine lv_iload hx hb dL_law_858 (lv_at hl 1 rfl) ?_
    by_cases ht0 : t = 0
    · have hzb := hcase ht0
      subst hzb
      refine lv_if_ne (tgt := 882) hx hb dL_law_860 (by decide) (fun h => absurd ht0 h) (fun _ => ?_)
      refine lv_aload_n hx hb dL_law_863 rfl (lv_at hl 5 rfl) ?_
      refine lv_iconst (v := (0 : Int32)) hx hb dL_law_864 (by decide) ?_
      refine va_lald hx hb hK hO 0 9 rfl rfl (i := (0 : Int32)) (vin_of (by decide)) dL_law_865 ?_
      refine lv_iload hx hb dL_law_866 (lv_at hl 0 rfl) ?_
      by_cases hbb : bb = 0
      · refine lv_if_eq (tgt := 875) hx hb dL_law_868 (by decide) (fun _ => ?_) (fun h => absurd hbb h)
        refine lv_lconst (v := (0 : Int64)) hx hb dL_law_875 (by decide) ?_
        refine W.lcmp hx hb dL_law_876 ?_
        have hcmp : lg_cmp (lob (.inl bb) fo ((0 : Int32).toNatClampNeg)) ((0 : Int64)) = 0 := by
          have h1 : lob (.inl bb) fo ((0 : Int32).toNatClampNeg) = ((0 : Int64)) := by
            show (if (0 : Int32).toNatClampNeg = 0 then (if bb = 0 then (0 : Int64) else 1) else fo ((0 : Int32).toNatClampNeg)) = _
            rw [if_pos (by decide), if_pos hbb]
          rw [h1]
          exact l_cmp0 _
        refine lv_if_eq (tgt := 882) hx hb dL_law_877 (by decide) (fun _ => ?_) (fun h => absurd hcmp h)
        refine lv_goto (tgt := 2410) hx hb dL_law_882 (by decide) ?_
        have hl9 := lv_sub hl [2, 3, 4, 5, 6] (l' := [(0, .ref b), (1, .ref (q (0))), (2, .ref (q2 (0))), (3, .ref o), (4, .int (nI (5 * j)))]) rfl
        exact W.widen (k := C + 4) (n := S + 24) (by omega) (by omega) (kk _ _ _ _ hP hM hO hS hl9)
      · refine lv_if_eq (tgt := 875) hx hb dL_law_868 (by decide) (fun h => absurd h hbb) (fun _ => ?_)
        refine lv_lconst (v := (1 : Int64)) hx hb dL_law_871 (by decide) ?_
        refine lv_goto (tgt := 876) hx hb dL_law_872 (by decide) ?_
        refine W.lcmp hx hb dL_law_876 ?_
        have hcmp : lg_cmp (lob (.inl bb) fo ((0 : Int32).toNatClampNeg)) ((1 : Int64)) = 0 := by
          have h1 : lob (.inl bb) fo ((0 : Int32).toNatClampNeg) = ((1 : Int64)) := by
            show (if (0 : Int32).toNatClampNeg = 0 then (if bb = 0 then (0 : Int64) else 1) else fo ((0 : Int32).toNatClampNeg)) = _
            rw [if_pos (by decide), if_neg hbb]
          rw [h1]
          exact l_cmp0 _
        refine lv_if_eq (tgt := 882) hx hb dL_law_877 (by decide) (fun _ => ?_) (fun h => absurd hcmp h)
        refine lv_goto (tgt := 2410) hx hb dL_law_882 (by decide) ?_
        have hl9 := lv_sub hl [2, 3, 4, 5, 6] (l' := [(0, .ref b), (1, .ref (q (0))), (2, .ref (q2 (0))), (3, .ref o), (4, .int (nI (5 * j)))]) rfl
        exact W.widen (k := C + 4) (n := S + 24) (by omega) (by omega) (kk _ _ _ _ hP hM hO hS hl9)
    · refine lv_if_ne (tgt := 882) hx hb dL_law_860 (by decide) (fun _ => ?_) (fun h => absurd h ht0)
      refine lv_goto (tgt := 2410) hx hb dL_law_882 (by decide) ?_
      have hl9 := lv_sub hl [2, 3, 4, 5, 6] (l' := [(0, .ref b), (1, .ref (q (0))), (2, .ref (q2 (0))), (3, .ref o), (4, .int (nI (5 * j)))]) rfl
      exact W.widen (k := C + 4) (n := S + 24) (by omega) (by omega) (kk _ _ _ _ hP hM hO hS hl9)
  · have hbv : lbv (xs (5 * j + 4)) = 1 := if_neg hb0
    refine lv_if_eq (tgt := 802) hx hb dL_law_795 (by decide) (fun h => absurd h hb0) (fun _ => ?_)
    refine lv_iconst (v := (lbv (xs (5 * j + 4)))) hx hb dL_law_798 (by rw [hbv]; decide) ?_
    refine lv_goto (tgt := 803) hx hb dL_law_799 (by decide) ?_
    refine lv_aload_n hx hb dL_law_803 rfl (lv_at hl 3 rfl) ?_
    refine l_cS (As := [.ref (q (0)), .int (xs (5 * j + 1)), .int (xs (5 * j + 2)), .int (xs (5 * j + 3)), .int (lbv (xs (5 * j + 4))), .ref o]) (rest := []) (WO := gS 39 q2 (MX cy q2) μ) hx hb hml hown hts hK hX hNt hAO hP hO hM (l_dM hdM) hS (mL_stick l hlf hJ hoT h8 hz) (vx_cwSW 6 hts gL_law_L_stick rfl rfl rfl (by decide +kernel) ⟨Nat.le_of_ble_eq_true rfl, Nat.le_of_ble_eq_true rfl⟩) rfl hl.1 rfl (Nat.le_of_ble_eq_true rfl) dL_law_804 ⟨by show C + _ ≤ 638203; omega, by show S + _ ≤ 7181496; omega⟩ (fun H locs hP hO hM hS => ?_)
    refine lv_istore (lv' := [(5, .int t), (0, .ref b), (1, .ref (q (0))), (2, .ref (q2 (0))), (3, .ref o), (4, .int (nI (5 * j)))]) hx hb dL_law_807 hl (by decide) rfl (fun ls hl => ?_)
    refine lv_aload_n hx hb dL_law_809 rfl (lv_at hl 3 rfl) ?_
    refine lv_aload_n hx hb dL_law_810 rfl (lv_at hl 1 rfl) ?_
    refine lv_iload hx hb dL_law_811 (lv_at hl 5 rfl) ?_
    refine lv_iconst (v := (1 : Int32)) hx hb dL_law_813 (by decide) ?_
    refine lv_iadd hx hb dL_law_814 ?_
    refine l_sld hx hb hXs hbl hS hL0 1 (by decide) (by omega) dL_law_815 ?_
    refine lv_aload_n hx hb dL_law_816 rfl (lv_at hl 1 rfl) ?_
    refine lv_iload hx hb dL_law_817 (lv_at hl 5 rfl) ?_
    refine lv_iconst (v := (2 : Int32)) hx hb dL_law_819 (by decide) ?_
    refine lv_iadd hx hb dL_law_820 ?_
    refine l_sld hx hb hXs hbl hS hL0 2 (by decide) (by omega) dL_law_821 ?_
    refine lv_aload_n hx hb dL_law_822 rfl (lv_at hl 1 rfl) ?_
    refine lv_iload hx hb dL_law_823 (lv_at hl 5 rfl) ?_
    refine lv_iconst (v := (3 : Int32)) hx hb dL_law_825 (by decide) ?_
    refine lv_iadd hx hb dL_law_826 ?_
    refine l_sld hx hb hXs hbl hS hL0 3 (by decide) (by omega) dL_law_827 ?_
    refine lv_aload_n hx hb dL_law_828 rfl (lv_at hl 1 rfl) ?_
    refine lv_iload hx hb dL_law_829 (lv_at hl 5 rfl) ?_
    refine lv_iconst (v := (4 : Int32)) hx hb dL_law_831 (by decide) ?_
    refine lv_iadd hx hb dL_law_832 ?_
    refine l_sld hx hb hXs hbl hS hL0 4 (by decide) (by omega) dL_law_833 ?_
    refine lv_if_eq (tgt := 841) hx hb dL_law_834 (by decide) (fun h => absurd h hb0) (fun _ => ?_)
    refine lv_iconst (v := (lbv (xs (5 * j + 4)))) hx hb dL_law_837 (by rw [hbv]; decide) ?_
    refine lv_goto (tgt := 842) hx hb dL_law_838 (by decide) ?_
    refine l_cVi (As := [.int (xs (5 * j + 1)), .int (xs (5 * j + 2)), .int (xs (5 * j + 3)), .int (lbv (xs (5 * j + 4)))]) (rest := []) (WO := gS 78 q (TX cy q) u ++ oW o cy _) hx hb hml hown hts hK hAM hM (hP.app hO) (l_app (l_dM hdT) (h_odis hoM)) hS (mX9_stick l hJ2 h9) (cwV 4 hts gL_law_X9_stick rfl rfl rfl nVX9_stick ⟨Nat.le_of_ble_eq_true rfl, Nat.le_of_ble_eq_true rfl⟩) (g_recv hK hM kk_Mod ce_Mod rfl) rfl hl.1 rfl (Nat.le_of_ble_eq_true rfl) dL_law_842 ⟨by show C + _ ≤ 638203; omega, by show S + _ ≤ 7181496; omega⟩ (fun H locs hM hPO hS => ?_)
    have hP := w_first hPO
    have hO := w_last hPO
    clear hPO
    refine lv_istore (lv' := [(6, .int bb), (5, .int t), (0, .ref b), (1, .ref (q (0))), (2, .ref (q2 (0))), (3, .ref o), (4, .int (nI (5 * j)))]) hx hb dL_law_845 hl (by decide) rfl (fun ls hl => ?_)
    refine lv_aload_n hx hb dL_law_847 rfl (lv_at hl 4 rfl) ?_
    refine l_cVi (As := []) (rest := []) (WO := gS 78 q (TX cy q) u ++ oW o cy _) hx hb hml hown hts hK hAM hM (hP.app hO) (l_app (l_dM hdT) (h_odis hoM)) hS (mX9_thrown (σ := v) (r := v 0 0) (u := v) l hJ2 rfl) (cwV 0 hts gL_law_X9_thrown rfl rfl rfl nVX9_thrown ⟨Nat.le_of_ble_eq_true rfl, Nat.le_of_ble_eq_true rfl⟩) (g_recv hK hM kk_Mod ce_Mod rfl) rfl hl.1 rfl (Nat.le_of_ble_eq_true rfl) dL_law_848 ⟨by show C + _ ≤ 638203; omega, by show S + _ ≤ 7181496; omega⟩ (fun H locs hM hPO hS => ?_)
    have hP := w_first hPO
    have hO := w_last hPO
    clear hPO
    refine lv_iload hx hb dL_law_851 (lv_at hl 1 rfl) ?_
    refine lv_icmp_eq (tgt := 858) hx hb dL_law_853 (by decide) (fun _ => ?_) (fun h => absurd ht h)
    refine lv_iload hx hb dL_law_858 (lv_at hl 1 rfl) ?_
    by_cases ht0 : t = 0
    · have hzb := hcase ht0
      subst hzb
      refine lv_if_ne (tgt := 882) hx hb dL_law_860 (by decide) (fun h => absurd ht0 h) (fun _ => ?_)
      refine lv_aload_n hx hb dL_law_863 rfl (lv_at hl 5 rfl) ?_
      refine lv_iconst (v := (0 : Int32)) hx hb dL_law_864 (by decide) ?_
      refine va_lald hx hb hK hO 0 9 rfl rfl (i := (0 : Int32)) (vin_of (by decide)) dL_law_865 ?_
      refine lv_iload hx hb dL_law_866 (lv_at hl 0 rfl) ?_
      by_cases hbb : bb = 0
      · refine lv_if_eq (tgt := 875) hx hb dL_law_868 (by decide) (fun _ => ?_) (fun h => absurd hbb h)
        refine lv_lconst (v := (0 : Int64)) hx hb dL_law_875 (by decide) ?_
        refine W.lcmp hx hb dL_law_876 ?_
        have hcmp : lg_cmp (lob (.inl bb) fo ((0 : Int32).toNatClampNeg)) ((0 : Int64)) = 0 := by
          have h1 : lob (.inl bb) fo ((0 : Int32).toNatClampNeg) = ((0 : Int64)) := by
            show (if (0 : Int32).toNatClampNeg = 0 then (if bb = 0 then (0 : Int64) else 1) else fo ((0 : Int32).toNatClampNeg)) = _
            rw [if_pos (by decide), if_pos hbb]
          rw [h1]
          exact l_cmp0 _
        refine lv_if_eq (tgt := 882) hx hb dL_law_877 (by decide) (fun _ => ?_) (fun h => absurd hcmp h)
        refine lv_goto (tgt := 2410) hx hb dL_law_882 (by decide) ?_
        have hl9 := lv_sub hl [2, 3, 4, 5, 6] (l' := [(0, .ref b), (1, .ref (q (0))), (2, .ref (q2 (0))), (3, .ref o), (4, .int (nI (5 * j)))]) rfl
        exact W.widen (k := C + 4) (n := S + 24) (by omega) (by omega) (kk _ _ _ _ hP hM hO hS hl9)
      · refine lv_if_eq (tgt := 875) hx hb dL_law_868 (by decide) (fun h => absurd h hbb) (fun _ => ?_)
        refine lv_lconst (v := (1 : Int64)) hx hb dL_law_871 (by decide) ?_
        refine lv_goto (tgt := 876) hx hb dL_law_872 (by decide) ?_
        refine W.lcmp hx hb dL_law_876 ?_
        have hcmp : lg_cmp (lob (.inl bb) fo ((0 : Int32).toNatClampNeg)) ((1 : Int64)) = 0 := by
          have h1 : lob (.inl bb) fo ((0 : Int32).toNatClampNeg) = ((1 : Int64)) := by
            show (if (0 : Int32).toNatClampNeg = 0 then (if bb = 0 then (0 : Int64) else 1) else fo ((0 : Int32).toNatClampNeg)) = _
            rw [if_pos (by decide), if_neg hbb]
          rw [h1]
          exact l_cmp0 _
        refine lv_if_eq (tgt := 882) hx hb dL_law_877 (by decide) (fun _ => ?_) (fun h => absurd hcmp h)
        refine lv_goto (tgt := 2410) hx hb dL_law_882 (by decide) ?_
        have hl9 := lv_sub hl [2, 3, 4, 5, 6] (l' := [(0, .ref b), (1, .ref (q (0))), (2, .ref (q2 (0))), (3, .ref o), (4, .int (nI (5 * j)))]) rfl
        exact W.widen (k := C + 4) (n := S + 24) (by omega) (by omega) (kk _ _ _ _ hP hM hO hS hl9)
    · refine lv_if_ne (tgt := 882) hx hb dL_law_860 (by decide) (fun _ => ?_) (fun h => absurd h ht0)
      refine lv_goto (tgt := 2410) hx hb dL_law_882 (by decide) ?_
      have hl9 := lv_sub hl [2, 3, 4, 5, 6] (l' := [(0, .ref b), (1, .ref (q (0))), (2, .ref (q2 (0))), (3, .ref o), (4, .int (nI (5 * j)))]) rfl
      exact W.widen (k := C + 4) (n := S + 24) (by omega) (by omega) (kk _ _ _ _ hP hM hO hS hl9)
set_option maxHeartbeats 4000000 in
set_option maxRecDepth 100000 in
theorem lc_fix {p : Program} {l : Launch} {e : Env} {s : State} {m : MethodId} {args : Array Value} {below : List Frame} {meth : Method} {c : Code} {Q : State → Prop} {b L : Nat} {xs : Nat → Int32} {D : va_G} {cy : Nat → ClassId} {q q2 : Nat → Nat} {o : Nat} (F0_ : lF p l s m args c b L xs D cy q q2 o) {σ μ : TS} {fo : Nat → Int64} {H : Heap} {locs : List Loc} (hP : va_P D vwCl (gS 78 q (TX cy q) σ) H) (hM : va_P D vwCl (gS 39 q2 (MX cy q2) μ) H) (hO : va_P D vwCl (oW o cy fo) H) (hS : va_S (fun a => s.heap.size ≤ a) s.heap H locs) {j : Nat} (hj : 5 * j + 5 ≤ L) {ls : Array Slot} (hl : lv_has ls 9 [(0, .ref b), (1, .ref (q (0))), (2, .ref (q2 (0))), (3, .ref o), (4, .int (nI (5 * j)))]) {u v : TS} {z : Int32 ⊕ Nat} {bb : Int32} (h8 : sX8_fix (xs (5 * j + 1)) σ = some (z, u)) (h9 : sX9_fix (xs (5 * j + 1)) μ = some (bb, v)) (hI : okI [(1, 1)] z bb (v 0 0)) {C S : Nat} (hC : C + 4 ≤ 638203) (hSl : S + 24 ≤ 7181496) (kk : ∀ (fo1 : Nat → Int64) (H1 : Heap) (locs1 : List Loc) (ls1 : Array Slot), va_P D vwCl (gS 78 q (TX cy q) u) H1 → va_P D vwCl (gS 39 q2 (MX cy q2) v) H1 → va_P D vwCl (oW o cy fo1) H1 → va_S (fun a => s.heap.size ≤ a) s.heap H1 locs1 → lv_has ls1 9 [(0, .ref b), (1, .ref (q (0))), (2, .ref (q2 (0))), (3, .ref o), (4, .int (nI (5 * j)))] → W p l e room_1 s m args below meth c H1 locs1 (C + 4) (S + 24) Q (F0 m 2410 ls1 [])) : W p l e room_1 s m args below meth c H locs C S Q (F0 m 885 ls []) := by
  obtain ⟨hx, hb, hml, hown, hts, hXs, hbl, hL0, hK, hX, hNt, hlf, hJ, hJ2, hAT, hAM, hAo, hdis, hoT, hoM⟩ := F0_
  have hAO : ∀ a, hA q o a → s.heap.size ≤ a := fun a h => h.elim (fun h => hAT a h) (fun h => by rw [h]; exact hAo)
  have hdM : ∀ a, gA 39 q2 a → ¬ hA q o a := fun a h h2 => h2.elim (fun h3 => hdis a h h3) (fun h3 => hoM (by rw [← h3]; exact h))
  have hdT : ∀ a, gA 78 q a → ¬ gA 39 q2 a := fun a h h2 => hdis a h2 h
  obtain ⟨t, hz, ht, hcase⟩ := hI
  refine lv_aload_n hx hb dL_law_885 rfl (lv_at hl 1 rfl) ?_
  refine lv_aload_n hx hb dL_law_886 rfl (lv_at hl 0 rfl) ?_
  refine lv_iload hx hb dL_law_887 (lv_at hl 4 rfl) ?_
  refine lv_iconst (v := (1 : Int32)) hx hb dL_law_889 (by decide) ?_
  refine lv_iadd hx hb dL_law_890 ?_
  refine l_sld hx hb hXs hbl hS hL0 1 (by decide) (by omega) dL_law_891 ?_
  refine lv_aload_n hx hb dL_law_892 rfl (lv_at hl 3 rfl) ?_
  refine l_cS (As := [.ref (q (0)), .int (xs (5 * j + 1)), .ref o]) (rest := []) (WO := gS 39 q2 (MX cy q2) μ) hx hb hml hown hts hK hX hNt hAO hP hO hM (l_dM hdM) hS (mL_fix l hlf hJ hoT h8 hz) (vx_cwSW 3 hts gL_law_L_fix rfl rfl rfl (by decide +kernel) ⟨Nat.le_of_ble_eq_true rfl, Nat.le_of_ble_eq_true rfl⟩) rfl hl.1 rfl (Nat.le_of_ble_eq_true rfl) dL_law_893 ⟨by show C + _ ≤ 638203; omega, by show S + _ ≤ 7181496; omega⟩ (fun H locs hP hO hM hS => ?_)
  refine lv_istore (lv' := [(5, .int t), (0, .ref b), (1, .ref (q (0))), (2, .ref (q2 (0))), (3, .ref o), (4, .int (nI (5 * j)))]) hx hb dL_law_896 hl (by decide) rfl (fun ls hl => ?_)
  refine lv_aload_n hx hb dL_law_898 rfl (lv_at hl 3 rfl) ?_
  refine lv_aload_n hx hb dL_law_899 rfl (lv_at hl 1 rfl) ?_
  refine lv_iload hx hb dL_law_900 (lv_at hl 5 rfl) ?_
  refine lv_iconst (v := (1 : Int32)) hx hb dL_law_902 (by decide) ?_
  refine lv_iadd hx hb dL_law_903 ?_
  refine l_sld hx hb hXs hbl hS hL0 1 (by decide) (by omega) dL_law_904 ?_
  refine l_cVi (As := [.int (xs (5 * j + 1))]) (rest := []) (WO := gS 78 q (TX cy q) u ++ oW o cy _) hx hb hml hown hts hK hAM hM (hP.app hO) (l_app (l_dM hdT) (h_odis hoM)) hS (mX9_fix l hJ2 h9) (cwV 1 hts gL_law_X9_fix rfl rfl rfl nVX9_fix ⟨Nat.le_of_ble_eq_true rfl, Nat.le_of_ble_eq_true rfl⟩) (g_recv hK hM kk_Mod ce_Mod rfl) rfl hl.1 rfl (Nat.le_of_ble_eq_true rfl) dL_law_905 ⟨by show C + _ ≤ 638203; omega, by show S + _ ≤ 7181496; omega⟩ (fun H locs hM hPO hS => ?_)
  have hP := w_first hPO
  have hO := w_last hPO
  clear hPO
  refine lv_istore (lv' := [(6, .int bb), (5, .int t), (0, .ref b), (1, .ref (q (0))), (2, .ref (q2 (0))), (3, .ref o), (4, .int (nI (5 * j)))]) hx hb dL_law_908 hl (by decide) rfl (fun ls hl => ?_)
  refine lv_aload_n hx hb dL_law_910 rfl (lv_at hl 4 rfl) ?_
  refine l_cVi (As := []) (rest := []) (WO := gS 78 q (TX cy q) u ++ oW o cy _) hx hb hml hown hts hK hAM hM (hP.app hO) (l_app (l_dM hdT) (h_odis hoM)) hS (mX9_thrown (σ := v) (r := v 0 0) (u := v) l hJ2 rfl) (cwV 0 hts gL_law_X9_thrown rfl rfl rfl nVX9_thrown ⟨Nat.le_of_ble_eq_true rfl, Nat.le_of_ble_eq_true rfl⟩) (g_recv hK hM kk_Mod ce_Mod rfl) rfl hl.1 rfl (Nat.le_of_ble_eq_true rfl) dL_law_911 ⟨by show C + _ ≤ 638203; omega, by show S + _ ≤ 7181496; omega⟩ (fun H locs hM hPO hS => ?_)
  have hP := w_first hPO
  have hO := w_last hPO
  clear hPO
  refine lv_iload hx hb dL_law_914 (lv_at hl 1 rfl) ?_
  refine lv_icmp_eq (tgt := 921) hx hb dL_law_916 (by decide) (fun _ => ?_) (fun h => absurd ht h)
  refine lv_iload hx hb dL_law_921 (lv_at hl 1 rfl) ?_
  by_cases ht0 : t = 0
  · have hzb := hcase ht0
    subst hzb
    refine lv_if_ne (tgt := 945) hx hb dL_law_923 (by decide) (fun h => absurd ht0 h) (fun _ => ?_)
    refine lv_aload_n hx hb dL_law_926 rfl (lv_at hl 5 rfl) ?_
    refine lv_iconst (v := (0 : Int32)) hx hb dL_law_927 (by decide) ?_
    refine va_lald hx hb hK hO 0 9 rfl rfl (i := (0 : Int32)) (vin_of (by decide)) dL_law_928 ?_
    refine lv_iload hx hb dL_law_929 (lv_at hl 0 rfl) ?_
    by_cases hbb : bb = 0
    · refine lv_if_eq (tgt := 938) hx hb dL_law_931 (by decide) (fun _ => ?_) (fun h => absurd hbb h)
      refine lv_lconst (v := (0 : Int64)) hx hb dL_law_938 (by decide) ?_
      refine W.lcmp hx hb dL_law_939 ?_
      have hcmp : lg_cmp (lob (.inl bb) fo ((0 : Int32).toNatClampNeg)) ((0 : Int64)) = 0 := by
        have h1 : lob (.inl bb) fo ((0 : Int32).toNatClampNeg) = ((0 : Int64)) := by
          show (if (0 : Int32).toNatClampNeg = 0 then (if bb = 0 then (0 : Int64) else 1) else fo ((0 : Int32).toNatClampNeg)) = _
          rw [if_pos (by decide), if_pos hbb]
        rw [h1]
        exact l_cmp0 _
      refine lv_if_eq (tgt := 945) hx hb dL_law_940 (by decide) (fun _ => ?_) (fun h => absurd hcmp h)
      refine lv_goto (tgt := 2410) hx hb dL_law_945 (by decide) ?_
      have hl9 := lv_sub hl [2, 3, 4, 5, 6] (l' := [(0, .ref b), (1, .ref (q (0))), (2, .ref (q2 (0))), (3, .ref o), (4, .int (nI (5 * j)))]) rfl
      exact W.widen (k := C + 4) (n := S + 24) (by omega) (by omega) (kk _ _ _ _ hP hM hO hS hl9)
    · refine lv_if_eq (tgt := 938) hx hb dL_law_931 (by decide) (fun h => absurd h hbb) (fun _ => ?_)
      refine lv_lconst (v := (1 : Int64)) hx hb dL_law_934 (by decide) ?_
      refine lv_goto (tgt := 939) hx hb dL_law_935 (by decide) ?_
      refine W.lcmp hx hb dL_law_939 ?_
      have hcmp : lg_cmp (lob (.inl bb) fo ((0 : Int32).toNatClampNeg)) ((1 : Int64)) = 0 := by
        have h1 : lob (.inl bb) fo ((0 : Int32).toNatClampNeg) = ((1 : Int64)) := by
          show (if (0 : Int32).toNatClampNeg = 0 then (if bb = 0 then (0 : Int64) else 1) else fo ((0 : Int32).toNatClampNeg)) = _
          rw [if_pos (by decide), if_neg hbb]
        rw [h1]
        exact l_cmp0 _
      refine lv_if_eq (tgt := 945) hx hb dL_law_940 (by decide) (fun _ => ?_) (fun h => absurd hcmp h)
      refine lv_goto (tgt := 2410) hx hb dL_law_945 (by decide) ?_
      have hl9 := lv_sub hl [2, 3, 4, 5, 6] (l' := [(0, .ref b), (1, .ref (q (0))), (2, .ref (q2 (0))), (3, .ref o), (4, .int (nI (5 * j)))]) rfl
      exact W.widen (k := C + 4) (n := S + 24) (by omega) (by omega) (kk _ _ _ _ hP hM hO hS hl9)
  · refine lv_if_ne (tgt := 945) hx hb dL_law_923 (by decide) (fun _ => ?_) (fun h => absurd h ht0)
    refine lv_goto (tgt := 2410) hx hb dL_law_945 (by decide) ?_
    have hl9 := lv_sub hl [2, 3, 4, 5, 6] (l' := [(0, .ref b), (1, .ref (q (0))), (2, .ref (q2 (0))), (3, .ref o), (4, .int (nI (5 * j)))]) rfl
    exact W.widen (k := C + 4) (n := S + 24) (by omega) (by omega) (kk _ _ _ _ hP hM hO hS hl9)
set_option maxHeartbeats 4000000 in
set_option maxRecDepth 100000 in
theorem lc_isOn {p : Program} {l : Launch} {e : Env} {s : State} {m : MethodId} {args : Array Value} {below : List Frame} {meth : Method} {c : Code} {Q : State → Prop} {b L : Nat} {xs : Nat → Int32} {D : va_G} {cy : Nat → ClassId} {q q2 : Nat → Nat} {o : Nat} (F0_ : lF p l s m args c b L xs D cy q q2 o) {σ μ : TS} {fo : Nat → Int64} {H : Heap} {locs : List Loc} (hP : va_P D vwCl (gS 78 q (TX cy q) σ) H) (hM : va_P D vwCl (gS 39 q2 (MX cy q2) μ) H) (hO : va_P D vwCl (oW o cy fo) H) (hS : va_S (fun a => s.heap.size ≤ a) s.heap H locs) {j : Nat} (hj : 5 * j + 5 ≤ L) {ls : Array Slot} (hl : lv_has ls 9 [(0, .ref b), (1, .ref (q (0))), (2, .ref (q2 (0))), (3, .ref o), (4, .int (nI (5 * j)))]) {u v : TS} {z : Int32 ⊕ Nat} {bb : Int32} (h8 : sX8_isOn (xs (5 * j + 1)) σ = some (z, u)) (h9 : sX9_isOn (xs (5 * j + 1)) μ = some (bb, v)) (hI : okI [(1, 1)] z bb (v 0 0)) {C S : Nat} (hC : C + 4 ≤ 638203) (hSl : S + 24 ≤ 7181496) (kk : ∀ (fo1 : Nat → Int64) (H1 : Heap) (locs1 : List Loc) (ls1 : Array Slot), va_P D vwCl (gS 78 q (TX cy q) u) H1 → va_P D vwCl (gS 39 q2 (MX cy q2) v) H1 → va_P D vwCl (oW o cy fo1) H1 → va_S (fun a => s.heap.size ≤ a) s.heap H1 locs1 → lv_has ls1 9 [(0, .ref b), (1, .ref (q (0))), (2, .ref (q2 (0))), (3, .ref o), (4, .int (nI (5 * j)))] → W p l e room_1 s m args below meth c H1 locs1 (C + 4) (S + 24) Q (F0 m 2410 ls1 [])) : W p l e room_1 s m args below meth c H locs C S Q (F0 m 948 ls []) := by
  obtain ⟨hx, hb, hml, hown, hts, hXs, hbl, hL0, hK, hX, hNt, hlf, hJ, hJ2, hAT, hAM, hAo, hdis, hoT, hoM⟩ := F0_
  have hAO : ∀ a, hA q o a → s.heap.size ≤ a := fun a h => h.elim (fun h => hAT a h) (fun h => by rw [h]; exact hAo)
  have hdM : ∀ a, gA 39 q2 a → ¬ hA q o a := fun a h h2 => h2.elim (fun h3 => hdis a h h3) (fun h3 => hoM (by rw [← h3]; exact h))
  have hdT : ∀ a, gA 78 q a → ¬ gA 39 q2 a := fun a h h2 => hdis a h2 h
  obtain ⟨t, hz, ht, hcase⟩ := hI
  refine lv_aload_n hx hb dL_law_948 rfl (lv_at hl 1 rfl) ?_
  refine lv_aload_n hx hb dL_law_949 rfl (lv_at hl 0 rfl) ?_
  refine lv_iload hx hb dL_law_950 (lv_at hl 4 rfl) ?_
  refine lv_iconst (v := (1 : Int32)) hx hb dL_law_952 (by decide) ?_
  refine lv_iadd hx hb dL_law_953 ?_
  refine l_sld hx hb hXs hbl hS hL0 1 (by decide) (by omega) dL_law_954 ?_
  refine lv_aload_n hx hb dL_law_955 rfl (lv_at hl 3 rfl) ?_
  refine l_cS (As := [.ref (q (0)), .int (xs (5 * j + 1)), .ref o]) (rest := []) (WO := gS 39 q2 (MX cy q2) μ) hx hb hml hown hts hK hX hNt hAO hP hO hM (l_dM hdM) hS (mL_isOn l hlf hJ hoT h8 hz) (vx_cwSW 3 hts gL_law_L_isOn rfl rfl rfl (by decide +kernel) ⟨Nat.le_of_ble_eq_true rfl, Nat.le_of_ble_eq_true rfl⟩) rfl hl.1 rfl (Nat.le_of_ble_eq_true rfl) dL_law_956 ⟨by show C + _ ≤ 638203; omega, by show S + _ ≤ 7181496; omega⟩ (fun H locs hP hO hM hS => ?_)
  refine lv_istore (lv' := [(5, .int t), (0, .ref b), (1, .ref (q (0))), (2, .ref (q2 (0))), (3, .ref o), (4, .int (nI (5 * j)))]) hx hb dL_law_959 hl (by decide) rfl (fun ls hl => ?_)
  refine lv_aload_n hx hb dL_law_961 rfl (lv_at hl 3 rfl) ?_
  refine lv_aload_n hx hb dL_law_962 rfl (lv_at hl 1 rfl) ?_
  refine lv_iload hx hb dL_law_963 (lv_at hl 5 rfl) ?_
  refine lv_iconst (v := (1 : Int32)) hx hb dL_law_965 (by decide) ?_
  refine lv_iadd hx hb dL_law_966 ?_
  refine l_sld hx hb hXs hbl hS hL0 1 (by decide) (by omega) dL_law_967 ?_
  refine l_cVi (As := [.int (xs (5 * j + 1))]) (rest := []) (WO := gS 78 q (TX cy q) u ++ oW o cy _) hx hb hml hown hts hK hAM hM (hP.app hO) (l_app (l_dM hdT) (h_odis hoM)) hS (mX9_isOn l hJ2 h9) (cwV 1 hts gL_law_X9_isOn rfl rfl rfl nVX9_isOn ⟨Nat.le_of_ble_eq_true rfl, Nat.le_of_ble_eq_true rfl⟩) (g_recv hK hM kk_Mod ce_Mod rfl) rfl hl.1 rfl (Nat.le_of_ble_eq_true rfl) dL_law_968 ⟨by show C + _ ≤ 638203; omega, by show S + _ ≤ 7181496; omega⟩ (fun H locs hM hPO hS => ?_)
  have hP := w_first hPO
  have hO := w_last hPO
  clear hPO
  refine lv_istore (lv' := [(6, .int bb), (5, .int t), (0, .ref b), (1, .ref (q (0))), (2, .ref (q2 (0))), (3, .ref o), (4, .int (nI (5 * j)))]) hx hb dL_law_971 hl (by decide) rfl (fun ls hl => ?_)
  refine lv_aload_n hx hb dL_law_973 rfl (lv_at hl 4 rfl) ?_
  refine l_cVi (As := []) (rest := []) (WO := gS 78 q (TX cy q) u ++ oW o cy _) hx hb hml hown hts hK hAM hM (hP.app hO) (l_app (l_dM hdT) (h_odis hoM)) hS (mX9_thrown (σ := v) (r := v 0 0) (u := v) l hJ2 rfl) (cwV 0 hts gL_law_X9_thrown rfl rfl rfl nVX9_thrown ⟨Nat.le_of_ble_eq_true rfl, Nat.le_of_ble_eq_true rfl⟩) (g_recv hK hM kk_Mod ce_Mod rfl) rfl hl.1 rfl (Nat.le_of_ble_eq_true rfl) dL_law_974 ⟨by show C + _ ≤ 638203; omega, by show S + _ ≤ 7181496; omega⟩ (fun H locs hM hPO hS => ?_)
  have hP := w_first hPO
  have hO := w_last hPO
  clear hPO
  refine lv_iload hx hb dL_law_977 (lv_at hl 1 rfl) ?_
  refine lv_icmp_eq (tgt := 984) hx hb dL_law_979 (by decide) (fun _ => ?_) (fun h => absurd ht h)
  refine lv_iload hx hb dL_law_984 (lv_at hl 1 rfl) ?_
  by_cases ht0 : t = 0
  · have hzb := hcase ht0
    subst hzb
    refine lv_if_ne (tgt := 1008) hx hb dL_law_986 (by decide) (fun h => absurd ht0 h) (fun _ => ?_)
    refine lv_aload_n hx hb dL_law_989 rfl (lv_at hl 5 rfl) ?_
    refine lv_iconst (v := (0 : Int32)) hx hb dL_law_990 (by decide) ?_
    refine va_lald hx hb hK hO 0 9 rfl rfl (i := (0 : Int32)) (vin_of (by decide)) dL_law_991 ?_
    refine lv_iload hx hb dL_law_992 (lv_at hl 0 rfl) ?_
    by_cases hbb : bb = 0
    · refine lv_if_eq (tgt := 1001) hx hb dL_law_994 (by decide) (fun _ => ?_) (fun h => absurd hbb h)
      refine lv_lconst (v := (0 : Int64)) hx hb dL_law_1001 (by decide) ?_
      refine W.lcmp hx hb dL_law_1002 ?_
      have hcmp : lg_cmp (lob (.inl bb) fo ((0 : Int32).toNatClampNeg)) ((0 : Int64)) = 0 := by
        have h1 : lob (.inl bb) fo ((0 : Int32).toNatClampNeg) = ((0 : Int64)) := by
          show (if (0 : Int32).toNatClampNeg = 0 then (if bb = 0 then (0 : Int64) else 1) else fo ((0 : Int32).toNatClampNeg)) = _
          rw [if_pos (by decide), if_pos hbb]
        rw [h1]
        exact l_cmp0 _
      refine lv_if_eq (tgt := 1008) hx hb dL_law_1003 (by decide) (fun _ => ?_) (fun h => absurd hcmp h)
      refine lv_goto (tgt := 2410) hx hb dL_law_1008 (by decide) ?_
      have hl9 := lv_sub hl [2, 3, 4, 5, 6] (l' := [(0, .ref b), (1, .ref (q (0))), (2, .ref (q2 (0))), (3, .ref o), (4, .int (nI (5 * j)))]) rfl
      exact W.widen (k := C + 4) (n := S + 24) (by omega) (by omega) (kk _ _ _ _ hP hM hO hS hl9)
    · refine lv_if_eq (tgt := 1001) hx hb dL_law_994 (by decide) (fun h => absurd h hbb) (fun _ => ?_)
      refine lv_lconst (v := (1 : Int64)) hx hb dL_law_997 (by decide) ?_
      refine lv_goto (tgt := 1002) hx hb dL_law_998 (by decide) ?_
      refine W.lcmp hx hb dL_law_1002 ?_
      have hcmp : lg_cmp (lob (.inl bb) fo ((0 : Int32).toNatClampNeg)) ((1 : Int64)) = 0 := by
        have h1 : lob (.inl bb) fo ((0 : Int32).toNatClampNeg) = ((1 : Int64)) := by
          show (if (0 : Int32).toNatClampNeg = 0 then (if bb = 0 then (0 : Int64) else 1) else fo ((0 : Int32).toNatClampNeg)) = _
          rw [if_pos (by decide), if_neg hbb]
        rw [h1]
        exact l_cmp0 _
      refine lv_if_eq (tgt := 1008) hx hb dL_law_1003 (by decide) (fun _ => ?_) (fun h => absurd hcmp h)
      refine lv_goto (tgt := 2410) hx hb dL_law_1008 (by decide) ?_
      have hl9 := lv_sub hl [2, 3, 4, 5, 6] (l' := [(0, .ref b), (1, .ref (q (0))), (2, .ref (q2 (0))), (3, .ref o), (4, .int (nI (5 * j)))]) rfl
      exact W.widen (k := C + 4) (n := S + 24) (by omega) (by omega) (kk _ _ _ _ hP hM hO hS hl9)
  · refine lv_if_ne (tgt := 1008) hx hb dL_law_986 (by decide) (fun _ => ?_) (fun h => absurd h ht0)
    refine lv_goto (tgt := 2410) hx hb dL_law_1008 (by decide) ?_
    have hl9 := lv_sub hl [2, 3, 4, 5, 6] (l' := [(0, .ref b), (1, .ref (q (0))), (2, .ref (q2 (0))), (3, .ref o), (4, .int (nI (5 * j)))]) rfl
    exact W.widen (k := C + 4) (n := S + 24) (by omega) (by omega) (kk _ _ _ _ hP hM hO hS hl9)
set_option maxHeartbeats 4000000 in
set_option maxRecDepth 100000 in
theorem lc_strikes {p : Program} {l : Launch} {e : Env} {s : State} {m : MethodId} {args : Array Value} {below : List Frame} {meth : Method} {c : Code} {Q : State → Prop} {b L : Nat} {xs : Nat → Int32} {D : va_G} {cy : Nat → ClassId} {q q2 : Nat → Nat} {o : Nat} (F0_ : lF p l s m args c b L xs D cy q q2 o) {σ μ : TS} {fo : Nat → Int64} {H : Heap} {locs : List Loc} (hP : va_P D vwCl (gS 78 q (TX cy q) σ) H) (hM : va_P D vwCl (gS 39 q2 (MX cy q2) μ) H) (hO : va_P D vwCl (oW o cy fo) H) (hS : va_S (fun a => s.heap.size ≤ a) s.heap H locs) {j : Nat} (hj : 5 * j + 5 ≤ L) {ls : Array Slot} (hl : lv_has ls 9 [(0, .ref b), (1, .ref (q (0))), (2, .ref (q2 (0))), (3, .ref o), (4, .int (nI (5 * j)))]) {u v : TS} {z : Int32 ⊕ Nat} {bb : Int32} (h8 : sX8_strikes (xs (5 * j + 1)) σ = some (z, u)) (h9 : sX9_strikes (xs (5 * j + 1)) μ = some (bb, v)) (hI : okI [(1, 1)] z bb (v 0 0)) {C S : Nat} (hC : C + 4 ≤ 638203) (hSl : S + 24 ≤ 7181496) (kk : ∀ (fo1 : Nat → Int64) (H1 : Heap) (locs1 : List Loc) (ls1 : Array Slot), va_P D vwCl (gS 78 q (TX cy q) u) H1 → va_P D vwCl (gS 39 q2 (MX cy q2) v) H1 → va_P D vwCl (oW o cy fo1) H1 → va_S (fun a => s.heap.size ≤ a) s.heap H1 locs1 → lv_has ls1 9 [(0, .ref b), (1, .ref (q (0))), (2, .ref (q2 (0))), (3, .ref o), (4, .int (nI (5 * j)))] → W p l e room_1 s m args below meth c H1 locs1 (C + 4) (S + 24) Q (F0 m 2410 ls1 [])) : W p l e room_1 s m args below meth c H locs C S Q (F0 m 1011 ls []) := by
  obtain ⟨hx, hb, hml, hown, hts, hXs, hbl, hL0, hK, hX, hNt, hlf, hJ, hJ2, hAT, hAM, hAo, hdis, hoT, hoM⟩ := F0_
  have hAO : ∀ a, hA q o a → s.heap.size ≤ a := fun a h => h.elim (fun h => hAT a h) (fun h => by rw [h]; exact hAo)
  have hdM : ∀ a, gA 39 q2 a → ¬ hA q o a := fun a h h2 => h2.elim (fun h3 => hdis a h h3) (fun h3 => hoM (by rw [← h3]; exact h))
  have hdT : ∀ a, gA 78 q a → ¬ gA 39 q2 a := fun a h h2 => hdis a h2 h
  obtain ⟨t, hz, ht, hcase⟩ := hI
  refine lv_aload_n hx hb dL_law_1011 rfl (lv_at hl 1 rfl) ?_
  refine lv_aload_n hx hb dL_law_1012 rfl (lv_at hl 0 rfl) ?_
  refine lv_iload hx hb dL_law_1013 (lv_at hl 4 rfl) ?_
  refine lv_iconst (v := (1 : Int32)) hx hb dL_law_1015 (by decide) ?_
  refine lv_iadd hx hb dL_law_1016 ?_
  refine l_sld hx hb hXs hbl hS hL0 1 (by decide) (by omega) dL_law_1017 ?_
  refine lv_aload_n hx hb dL_law_1018 rfl (lv_at hl 3 rfl) ?_
  refine l_cS (As := [.ref (q (0)), .int (xs (5 * j + 1)), .ref o]) (rest := []) (WO := gS 39 q2 (MX cy q2) μ) hx hb hml hown hts hK hX hNt hAO hP hO hM (l_dM hdM) hS (mL_strikes l hlf hJ hoT h8 hz) (vx_cwSW 3 hts gL_law_L_strikes rfl rfl rfl (by decide +kernel) ⟨Nat.le_of_ble_eq_true rfl, Nat.le_of_ble_eq_true rfl⟩) rfl hl.1 rfl (Nat.le_of_ble_eq_true rfl) dL_law_1019 ⟨by show C + _ ≤ 638203; omega, by show S + _ ≤ 7181496; omega⟩ (fun H locs hP hO hM hS => ?_)
  refine lv_istore (lv' := [(5, .int t), (0, .ref b), (1, .ref (q (0))), (2, .ref (q2 (0))), (3, .ref o), (4, .int (nI (5 * j)))]) hx hb dL_law_1022 hl (by decide) rfl (fun ls hl => ?_)
  refine lv_aload_n hx hb dL_law_1024 rfl (lv_at hl 3 rfl) ?_
  refine lv_aload_n hx hb dL_law_1025 rfl (lv_at hl 1 rfl) ?_
  refine lv_iload hx hb dL_law_1026 (lv_at hl 5 rfl) ?_
  refine lv_iconst (v := (1 : Int32)) hx hb dL_law_1028 (by decide) ?_
  refine lv_iadd hx hb dL_law_1029 ?_
  refine l_sld hx hb hXs hbl hS hL0 1 (by decide) (by omega) dL_law_1030 ?_
  refine l_cVi (As := [.int (xs (5 * j + 1))]) (rest := []) (WO := gS 78 q (TX cy q) u ++ oW o cy _) hx hb hml hown hts hK hAM hM (hP.app hO) (l_app (l_dM hdT) (h_odis hoM)) hS (mX9_strikes l hJ2 h9) (cwV 1 hts gL_law_X9_strikes rfl rfl rfl nVX9_strikes ⟨Nat.le_of_ble_eq_true rfl, Nat.le_of_ble_eq_true rfl⟩) (g_recv hK hM kk_Mod ce_Mod rfl) rfl hl.1 rfl (Nat.le_of_ble_eq_true rfl) dL_law_1031 ⟨by show C + _ ≤ 638203; omega, by show S + _ ≤ 7181496; omega⟩ (fun H locs hM hPO hS => ?_)
  have hP := w_first hPO
  have hO := w_last hPO
  clear hPO
  refine lv_istore (lv' := [(6, .int bb), (5, .int t), (0, .ref b), (1, .ref (q (0))), (2, .ref (q2 (0))), (3, .ref o), (4, .int (nI (5 * j)))]) hx hb dL_law_1034 hl (by decide) rfl (fun ls hl => ?_)
  refine lv_aload_n hx hb dL_law_1036 rfl (lv_at hl 4 rfl) ?_
  refine l_cVi (As := []) (rest := []) (WO := gS 78 q (TX cy q) u ++ oW o cy _) hx hb hml hown hts hK hAM hM (hP.app hO) (l_app (l_dM hdT) (h_odis hoM)) hS (mX9_thrown (σ := v) (r := v 0 0) (u := v) l hJ2 rfl) (cwV 0 hts gL_law_X9_thrown rfl rfl rfl nVX9_thrown ⟨Nat.le_of_ble_eq_true rfl, Nat.le_of_ble_eq_true rfl⟩) (g_recv hK hM kk_Mod ce_Mod rfl) rfl hl.1 rfl (Nat.le_of_ble_eq_true rfl) dL_law_1037 ⟨by show C + _ ≤ 638203; omega, by show S + _ ≤ 7181496; omega⟩ (fun H locs hM hPO hS => ?_)
  have hP := w_first hPO
  have hO := w_last hPO
  clear hPO
  refine lv_iload hx hb dL_law_1040 (lv_at hl 1 rfl) ?_
  refine lv_icmp_eq (tgt := 1047) hx hb dL_law_1042 (by decide) (fun _ => ?_) (fun h => absurd ht h)
  refine lv_iload hx hb dL_law_1047 (lv_at hl 1 rfl) ?_
  by_cases ht0 : t = 0
  · have hzb := hcase ht0
    subst hzb
    refine lv_if_ne (tgt := 1064) hx hb dL_law_1049 (by decide) (fun h => absurd ht0 h) (fun _ => ?_)
    refine lv_aload_n hx hb dL_law_1052 rfl (lv_at hl 5 rfl) ?_
    refine lv_iconst (v := (0 : Int32)) hx hb dL_law_1053 (by decide) ?_
    refine va_lald hx hb hK hO 0 9 rfl rfl (i := (0 : Int32)) (vin_of (by decide)) dL_law_1054 ?_
    refine lv_iload hx hb dL_law_1055 (lv_at hl 0 rfl) ?_
    refine lv_i2l hx hb dL_law_1057 rfl ?_
    refine W.lcmp hx hb dL_law_1058 ?_
    have hcmp : lg_cmp (lo (.inl bb) fo ((0 : Int32).toNatClampNeg)) bb.toInt64 = 0 := l_cmp0 _
    refine lv_if_eq (tgt := 1064) hx hb dL_law_1059 (by decide) (fun _ => ?_) (fun h => absurd hcmp h)
    refine lv_goto (tgt := 2410) hx hb dL_law_1064 (by decide) ?_
    have hl9 := lv_sub hl [2, 3, 4, 5, 6] (l' := [(0, .ref b), (1, .ref (q (0))), (2, .ref (q2 (0))), (3, .ref o), (4, .int (nI (5 * j)))]) rfl
    exact W.widen (k := C + 4) (n := S + 24) (by omega) (by omega) (kk _ _ _ _ hP hM hO hS hl9)
  · refine lv_if_ne (tgt := 1064) hx hb dL_law_1049 (by decide) (fun _ => ?_) (fun h => absurd h ht0)
    refine lv_goto (tgt := 2410) hx hb dL_law_1064 (by decide) ?_
    have hl9 := lv_sub hl [2, 3, 4, 5, 6] (l' := [(0, .ref b), (1, .ref (q (0))), (2, .ref (q2 (0))), (3, .ref o), (4, .int (nI (5 * j)))]) rfl
    exact W.widen (k := C + 4) (n := S + 24) (by omega) (by omega) (kk _ _ _ _ hP hM hO hS hl9)
set_option maxHeartbeats 4000000 in
set_option maxRecDepth 100000 in
theorem lc_shut {p : Program} {l : Launch} {e : Env} {s : State} {m : MethodId} {args : Array Value} {below : List Frame} {meth : Method} {c : Code} {Q : State → Prop} {b L : Nat} {xs : Nat → Int32} {D : va_G} {cy : Nat → ClassId} {q q2 : Nat → Nat} {o : Nat} (F0_ : lF p l s m args c b L xs D cy q q2 o) {σ μ : TS} {fo : Nat → Int64} {H : Heap} {locs : List Loc} (hP : va_P D vwCl (gS 78 q (TX cy q) σ) H) (hM : va_P D vwCl (gS 39 q2 (MX cy q2) μ) H) (hO : va_P D vwCl (oW o cy fo) H) (hS : va_S (fun a => s.heap.size ≤ a) s.heap H locs) {j : Nat} (hj : 5 * j + 5 ≤ L) {ls : Array Slot} (hl : lv_has ls 9 [(0, .ref b), (1, .ref (q (0))), (2, .ref (q2 (0))), (3, .ref o), (4, .int (nI (5 * j)))]) {u v : TS} {z : Int32 ⊕ Nat} {bb : Int32} (h8 : sX8_shut (xs (5 * j + 1)) σ = some (z, u)) (h9 : sX9_shut (xs (5 * j + 1)) μ = some (bb, v)) (hI : okI [(1, 1), (4, 2)] z bb (v 0 0)) {C S : Nat} (hC : C + 4 ≤ 638203) (hSl : S + 24 ≤ 7181496) (kk : ∀ (fo1 : Nat → Int64) (H1 : Heap) (locs1 : List Loc) (ls1 : Array Slot), va_P D vwCl (gS 78 q (TX cy q) u) H1 → va_P D vwCl (gS 39 q2 (MX cy q2) v) H1 → va_P D vwCl (oW o cy fo1) H1 → va_S (fun a => s.heap.size ≤ a) s.heap H1 locs1 → lv_has ls1 9 [(0, .ref b), (1, .ref (q (0))), (2, .ref (q2 (0))), (3, .ref o), (4, .int (nI (5 * j)))] → W p l e room_1 s m args below meth c H1 locs1 (C + 4) (S + 24) Q (F0 m 2410 ls1 [])) : W p l e room_1 s m args below meth c H locs C S Q (F0 m 1067 ls []) := by
  obtain ⟨hx, hb, hml, hown, hts, hXs, hbl, hL0, hK, hX, hNt, hlf, hJ, hJ2, hAT, hAM, hAo, hdis, hoT, hoM⟩ := F0_
  have hAO : ∀ a, hA q o a → s.heap.size ≤ a := fun a h => h.elim (fun h => hAT a h) (fun h => by rw [h]; exact hAo)
  have hdM : ∀ a, gA 39 q2 a → ¬ hA q o a := fun a h h2 => h2.elim (fun h3 => hdis a h h3) (fun h3 => hoM (by rw [← h3]; exact h))
  have hdT : ∀ a, gA 78 q a → ¬ gA 39 q2 a := fun a h h2 => hdis a h2 h
  obtain ⟨t, hz, ht, hcase⟩ := hI
  refine lv_aload_n hx hb dL_law_1067 rfl (lv_at hl 1 rfl) ?_
  refine lv_aload_n hx hb dL_law_1068 rfl (lv_at hl 0 rfl) ?_
  refine lv_iload hx hb dL_law_1069 (lv_at hl 4 rfl) ?_
  refine lv_iconst (v := (1 : Int32)) hx hb dL_law_1071 (by decide) ?_
  refine lv_iadd hx hb dL_law_1072 ?_
  refine l_sld hx hb hXs hbl hS hL0 1 (by decide) (by omega) dL_law_1073 ?_
  refine lv_aload_n hx hb dL_law_1074 rfl (lv_at hl 3 rfl) ?_
  refine l_cS (As := [.ref (q (0)), .int (xs (5 * j + 1)), .ref o]) (rest := []) (WO := gS 39 q2 (MX cy q2) μ) hx hb hml hown hts hK hX hNt hAO hP hO hM (l_dM hdM) hS (mL_shut l hlf hJ hoT h8 hz) (vx_cwSW 3 hts gL_law_L_shut rfl rfl rfl (by decide +kernel) ⟨Nat.le_of_ble_eq_true rfl, Nat.le_of_ble_eq_true rfl⟩) rfl hl.1 rfl (Nat.le_of_ble_eq_true rfl) dL_law_1075 ⟨by show C + _ ≤ 638203; omega, by show S + _ ≤ 7181496; omega⟩ (fun H locs hP hO hM hS => ?_)
  refine lv_istore (lv' := [(5, .int t), (0, .ref b), (1, .ref (q (0))), (2, .ref (q2 (0))), (3, .ref o), (4, .int (nI (5 * j)))]) hx hb dL_law_1078 hl (by decide) rfl (fun ls hl => ?_)
  refine lv_aload_n hx hb dL_law_1080 rfl (lv_at hl 3 rfl) ?_
  refine lv_aload_n hx hb dL_law_1081 rfl (lv_at hl 1 rfl) ?_
  refine lv_iload hx hb dL_law_1082 (lv_at hl 5 rfl) ?_
  refine lv_iconst (v := (1 : Int32)) hx hb dL_law_1084 (by decide) ?_
  refine lv_iadd hx hb dL_law_1085 ?_
  refine l_sld hx hb hXs hbl hS hL0 1 (by decide) (by omega) dL_law_1086 ?_
  refine l_cVi (As := [.int (xs (5 * j + 1))]) (rest := []) (WO := gS 78 q (TX cy q) u ++ oW o cy _) hx hb hml hown hts hK hAM hM (hP.app hO) (l_app (l_dM hdT) (h_odis hoM)) hS (mX9_shut l hJ2 h9) (cwV 1 hts gL_law_X9_shut rfl rfl rfl nVX9_shut ⟨Nat.le_of_ble_eq_true rfl, Nat.le_of_ble_eq_true rfl⟩) (g_recv hK hM kk_Mod ce_Mod rfl) rfl hl.1 rfl (Nat.le_of_ble_eq_true rfl) dL_law_1087 ⟨by show C + _ ≤ 638203; omega, by show S + _ ≤ 7181496; omega⟩ (fun H locs hM hPO hS => ?_)
  have hP := w_first hPO
  have hO := w_last hPO
  clear hPO
  refine lv_istore (lv' := [(6, .int bb), (5, .int t), (0, .ref b), (1, .ref (q (0))), (2, .ref (q2 (0))), (3, .ref o), (4, .int (nI (5 * j)))]) hx hb dL_law_1090 hl (by decide) rfl (fun ls hl => ?_)
  refine lv_aload_n hx hb dL_law_1092 rfl (lv_at hl 4 rfl) ?_
  refine l_cVi (As := []) (rest := []) (WO := gS 78 q (TX cy q) u ++ oW o cy _) hx hb hml hown hts hK hAM hM (hP.app hO) (l_app (l_dM hdT) (h_odis hoM)) hS (mX9_thrown (σ := v) (r := v 0 0) (u := v) l hJ2 rfl) (cwV 0 hts gL_law_X9_thrown rfl rfl rfl nVX9_thrown ⟨Nat.le_of_ble_eq_true rfl, Nat.le_of_ble_eq_true rfl⟩) (g_recv hK hM kk_Mod ce_Mod rfl) rfl hl.1 rfl (Nat.le_of_ble_eq_true rfl) dL_law_1093 ⟨by show C + _ ≤ 638203; omega, by show S + _ ≤ 7181496; omega⟩ (fun H locs hM hPO hS => ?_)
  have hP := w_first hPO
  have hO := w_last hPO
  clear hPO
  refine lv_iload hx hb dL_law_1096 (lv_at hl 1 rfl) ?_
  refine lv_icmp_eq (tgt := 1103) hx hb dL_law_1098 (by decide) (fun _ => ?_) (fun h => absurd ht h)
  refine lv_iload hx hb dL_law_1103 (lv_at hl 1 rfl) ?_
  by_cases ht0 : t = 0
  · have hzb := hcase ht0
    subst hzb
    refine lv_if_ne (tgt := 1120) hx hb dL_law_1105 (by decide) (fun h => absurd ht0 h) (fun _ => ?_)
    refine lv_aload_n hx hb dL_law_1108 rfl (lv_at hl 5 rfl) ?_
    refine lv_iconst (v := (0 : Int32)) hx hb dL_law_1109 (by decide) ?_
    refine va_lald hx hb hK hO 0 9 rfl rfl (i := (0 : Int32)) (vin_of (by decide)) dL_law_1110 ?_
    refine lv_iload hx hb dL_law_1111 (lv_at hl 0 rfl) ?_
    refine lv_i2l hx hb dL_law_1113 rfl ?_
    refine W.lcmp hx hb dL_law_1114 ?_
    have hcmp : lg_cmp (lo (.inl bb) fo ((0 : Int32).toNatClampNeg)) bb.toInt64 = 0 := l_cmp0 _
    refine lv_if_eq (tgt := 1120) hx hb dL_law_1115 (by decide) (fun _ => ?_) (fun h => absurd hcmp h)
    refine lv_goto (tgt := 2410) hx hb dL_law_1120 (by decide) ?_
    have hl9 := lv_sub hl [2, 3, 4, 5, 6] (l' := [(0, .ref b), (1, .ref (q (0))), (2, .ref (q2 (0))), (3, .ref o), (4, .int (nI (5 * j)))]) rfl
    exact W.widen (k := C + 4) (n := S + 24) (by omega) (by omega) (kk _ _ _ _ hP hM hO hS hl9)
  · refine lv_if_ne (tgt := 1120) hx hb dL_law_1105 (by decide) (fun _ => ?_) (fun h => absurd h ht0)
    refine lv_goto (tgt := 2410) hx hb dL_law_1120 (by decide) ?_
    have hl9 := lv_sub hl [2, 3, 4, 5, 6] (l' := [(0, .ref b), (1, .ref (q (0))), (2, .ref (q2 (0))), (3, .ref o), (4, .int (nI (5 * j)))]) rfl
    exact W.widen (k := C + 4) (n := S + 24) (by omega) (by omega) (kk _ _ _ _ hP hM hO hS hl9)

theorem mwnL_law_1 : Cond.classLink RL 8 RX8 ∈ wsL_law := by decide +kernel
theorem mwnL_law_2 : Cond.instantiable RX8 16 ∈ wsL_law := by decide +kernel
theorem mwnL_law_3 : Cond.initialized RX8 ∈ wsL_law := by decide +kernel
theorem mwnL_law_4 : Cond.methodLink RL 138 yX8_init ∈ wsL_law := by decide +kernel
theorem mwnL_law_5 : Cond.instanceMethod yX8_init ∈ wsL_law := by decide +kernel
theorem mwbL_law_71 : Cond.constant RL 71 (-2000000001) ∈ wsL_law := by decide +kernel
theorem mwbL_law_74 : Cond.constant RL 74 (-2000000002) ∈ wsL_law := by decide +kernel
theorem mwbL_law_80 : Cond.constant RL 80 (-2000000004) ∈ wsL_law := by decide +kernel
theorem mwbL_law_83 : Cond.constant RL 83 (-2000000005) ∈ wsL_law := by decide +kernel
theorem f_blind {D : va_G} {cy : Nat → ClassId} {b L : Nat} {xs : Nat → Int32} {av : List Value} : FrameBlind (va_Pc av (fPre D cy b L xs)) := fun a U g mk h =>
  ⟨h.1, ⟨va_K.moved (u := U) (U := U.calling g mk a) (Vm.Alike.refl U.vm) h.2.1.1, nN_same (u := U) (U := U.calling g mk a) okX8 rfl h.2.1.2⟩, ⟨(gPreX_blind (D := D) (cl := vwCl) (tys := tyL cy) (ws := []) a U g mk ⟨h.1, ⟨fun k q g => by simp at g, h.2.1.1⟩, h.2.2.1.1⟩).2.2, fun k hk => h_nc (u := U) (U := U.calling g mk a) (Vm.Alike.refl U.vm) (h.2.2.1.2 k hk)⟩, va_X.moved (u := U) (U := U.calling g mk a) (Vm.Alike.refl U.vm) h.2.2.2.1, h.2.2.2.2⟩
theorem f_preS {D : va_G} {cy : Nat → ClassId} {b L : Nat} {xs : Nat → Int32} {s : State} {H : Heap} {locs : List Loc} (hK : va_K D vwCl (tyL cy) s) (hN8 : nN nlX8 s) (hX : xPre (fun a => s.heap.size ≤ a) s) (hNt : ∀ k ∈ xNots, va_Nc k.1 k.2 s) (hXs : va_X b L xs s s.heap) (hbl : b < s.heap.size) (hS : va_S (fun a => s.heap.size ≤ a) s.heap H locs) : PreS s H (va_Pc [.ref b] (fPre D cy b L xs)) [.ref b] :=
  ⟨f_blind, fun U hU hWm => ⟨rfl, ⟨va_K.moved hWm.alike hK, nN_warm okX8 hWm hN8⟩, ⟨xPre_narrow (xPre_to hX hS hU hWm) (fun a h => Nat.le_trans hS.1 (by rw [hU] at h; exact h)), fun k hk => h_nc hWm.alike (hNt k hk)⟩, by rw [hU]; exact va_X.moved hWm.alike (hXs.kept (hS.2.1 b hbl (fun h => absurd hbl (Nat.not_lt.mpr h)))), by rw [hU]; exact Nat.lt_of_lt_of_le hbl hS.1⟩⟩
set_option maxHeartbeats 8000000 in
set_option maxRecDepth 100000 in
theorem whole_start {p : Program} {e : Env} {s : State} {m : MethodId} {below : List Frame} {meth : Method} {c : Code} (l : Launch) (hflags : l.flags = flags0) {b L : Nat} {xs : Nat → Int32} (hL : L ≤ 260) (C0 : lw_At p s m meth c b L xs) : W p l e room_1 s m #[Value.ref b] below meth c s.heap [] 0 0 (lw_Z below #[Value.ref b] s) (entryFrame m ([Value.ref b] : List Value).toArray 2) := by
  obtain ⟨hx, hb, hr, hml, hown, htsA, hXs, hbl, hlocks, hgv⟩ := id C0
  have hts : ∀ w ∈ wsL_law, w.before #[Value.ref b] s = true := fun w hw => htsA w (wsL_law_in w hw)
  obtain ⟨D, cy, hK⟩ := s_K htsA
  have hX : xPre (fun a => s.heap.size ≤ a) s := s_X htsA hgv
  have hNt := s_Nt hgv
  have hN8 : nN nlX8 s := s_N8 htsA
  have hlf : l.stackTraces = false := by
    unfold Launch.stackTraces
    rw [hflags]
    decide +kernel
  have hS : va_S (fun a : Nat => s.heap.size ≤ a) s.heap s.heap [] := va_S.rf
  have hP : va_P D vwCl [] s.heap := fun k q h => by simp at h
  have hD : va_D (fun a : Nat => s.heap.size ≤ a) [] := ⟨fun i j p q h => by simp at h, fun k q h => by simp at h⟩
  have hl := lv_entry ([.ref b]) (n := 2) (Nat.le_of_ble_eq_true rfl)
  rw [lg_entry_eq]
  generalize (lg_sl ([.ref b]) ++ List.replicate (2 - (lg_sl ([.ref b])).length) Slot.unset).toArray = ls at hl ⊢
  have hl : lv_has ls 2 [(0, .ref b)] := hl
  have F : lG p l s m #[Value.ref b] c cL_law 2 wsL_law D cy b L xs := ⟨hx, hb, hml, hown, hts, hK, hX, hNt, hlf, hN8, hXs, hbl⟩
  refine ar_tri (WO := []) (ic := 8) (ii := 138) hx hb hml hown hts hK hN8 (fun _ h => h) hP hD hS (fun w h => (gx_law_ask_0 w h).1) mwnL_law_1 mwnL_law_2 mwnL_law_3 mwnL_law_4 mwnL_law_5 gL_law_X8_init ⟨Nat.le_of_ble_eq_true rfl, Nat.le_of_ble_eq_true rfl⟩ hl.1 (Nat.le_of_ble_eq_true rfl) (Nat.le_of_ble_eq_true rfl) dL_law_0 dL_law_3 dL_law_4 (fun q H locs hP hD hS => ?_)
  have hP : va_P D vwCl (gS 78 q (TX cy q) T0 ++ []) H := by rw [List.append_nil]; exact hP
  have hD : va_D (fun a => s.heap.size ≤ a) (gS 78 q (TX cy q) T0 ++ []) := by rw [List.append_nil]; exact hD
  refine lv_astore_n (lv' := [(1, .ref (q 0)), (0, .ref b)]) hx hb dL_law_7 rfl hl (by decide) rfl (fun ls hl => ?_)
  refine lv_aload_n hx hb dL_law_8 rfl (lv_at hl 0 rfl) ?_
  refine ar_cVi (As := []) (rest := []) hx hb hml hown hts hK hP hD hS (fun hJ => mX8_time l hJ tl_time) (cwV 0 hts gL_law_X8_time rfl rfl rfl nVX8_time ⟨Nat.le_of_ble_eq_true rfl, Nat.le_of_ble_eq_true rfl⟩) (g_recv hK (w_first hP) kk_Tri ce_Tri rfl) rfl hl.1 rfl (Nat.le_of_ble_eq_true rfl) dL_law_9 ⟨Nat.le_of_ble_eq_true rfl, Nat.le_of_ble_eq_true rfl⟩ (fun H locs hP hD hS => ?_)
  refine lv_if_ne (tgt := 927) hx hb dL_law_12 (by decide) (fun h => (h rfl).elim) (fun _ => ?_)
  refine lv_aload_n hx hb dL_law_15 rfl (lv_at hl 0 rfl) ?_
  refine ar_cVi (As := []) (rest := []) hx hb hml hown hts hK hP hD hS (fun hJ => mX8_mode l hJ tl_mode) (cwV 0 hts gL_law_X8_mode rfl rfl rfl nVX8_mode ⟨Nat.le_of_ble_eq_true rfl, Nat.le_of_ble_eq_true rfl⟩) (g_recv hK (w_first hP) kk_Tri ce_Tri rfl) rfl hl.1 rfl (Nat.le_of_ble_eq_true rfl) dL_law_16 ⟨Nat.le_of_ble_eq_true rfl, Nat.le_of_ble_eq_true rfl⟩ (fun H locs hP hD hS => ?_)
  refine lv_if_ne (tgt := 927) hx hb dL_law_19 (by decide) (fun h => (h rfl).elim) (fun _ => ?_)
  refine lv_aload_n hx hb dL_law_22 rfl (lv_at hl 0 rfl) ?_
  refine ar_cVi (As := []) (rest := []) hx hb hml hown hts hK hP hD hS (fun hJ => mX8_isPlain l hJ tl_plain) (cwV 0 hts gL_law_X8_isPlain rfl rfl rfl nVX8_isPlain ⟨Nat.le_of_ble_eq_true rfl, Nat.le_of_ble_eq_true rfl⟩) (g_recv hK (w_first hP) kk_Tri ce_Tri rfl) rfl hl.1 rfl (Nat.le_of_ble_eq_true rfl) dL_law_23 ⟨Nat.le_of_ble_eq_true rfl, Nat.le_of_ble_eq_true rfl⟩ (fun H locs hP hD hS => ?_)
  refine lv_if_eq (tgt := 927) hx hb dL_law_26 (by decide) (fun h => absurd h (by decide)) (fun _ => ?_)
  refine lv_aload_n hx hb dL_law_29 rfl (lv_at hl 0 rfl) ?_
  refine ar_cVi (As := []) (rest := []) hx hb hml hown hts hK hP hD hS (fun hJ => mX8_isTrue l hJ tl_true) (cwV 0 hts gL_law_X8_isTrue rfl rfl rfl nVX8_isTrue ⟨Nat.le_of_ble_eq_true rfl, Nat.le_of_ble_eq_true rfl⟩) (g_recv hK (w_first hP) kk_Tri ce_Tri rfl) rfl hl.1 rfl (Nat.le_of_ble_eq_true rfl) dL_law_30 ⟨Nat.le_of_ble_eq_true rfl, Nat.le_of_ble_eq_true rfl⟩ (fun H locs hP hD hS => ?_)
  refine lv_if_eq (tgt := 927) hx hb dL_law_33 (by decide) (fun h => absurd h (by decide)) (fun _ => ?_)
  refine lv_aload_n hx hb dL_law_36 rfl (lv_at hl 0 rfl) ?_
  refine ar_cVd (As := []) (rest := []) hx hb hml hown hts hK hP hD hS (fun hJ => mX8_meanOutput l hJ tl_mean) (cwV 0 hts gL_law_X8_meanOutput rfl rfl rfl nVX8_meanOutput ⟨Nat.le_of_ble_eq_true rfl, Nat.le_of_ble_eq_true rfl⟩) (g_recv hK (w_first hP) kk_Tri ce_Tri rfl) rfl hl.1 rfl (Nat.le_of_ble_eq_true rfl) dL_law_37 ⟨Nat.le_of_ble_eq_true rfl, Nat.le_of_ble_eq_true rfl⟩ (fun H locs hP hD hS => ?_)
  refine lv_dconst0 hx hb dL_law_40 ?_
  refine lv_dcmp hx hb dL_law_41 ?_
  refine lv_if_ne (tgt := 927) hx hb dL_law_42 (by decide) (fun h => (h (by decide +kernel)).elim) (fun _ => ?_)
  refine lv_aload_n hx hb dL_law_45 rfl (lv_at hl 0 rfl) ?_
  refine ar_cVf (As := []) (rest := []) hx hb hml hown hts hK hP hD hS (fun hJ => mX8_onShare l hJ tl_share) (cwV 0 hts gL_law_X8_onShare rfl rfl rfl nVX8_onShare ⟨Nat.le_of_ble_eq_true rfl, Nat.le_of_ble_eq_true rfl⟩) (g_recv hK (w_first hP) kk_Tri ce_Tri rfl) rfl hl.1 rfl (Nat.le_of_ble_eq_true rfl) dL_law_46 ⟨Nat.le_of_ble_eq_true rfl, Nat.le_of_ble_eq_true rfl⟩ (fun H locs hP hD hS => ?_)
  refine lv_fconst1 hx hb dL_law_49 ?_
  refine lv_fcmp hx hb dL_law_50 ?_
  refine lv_if_ne (tgt := 927) hx hb dL_law_51 (by decide) (fun h => (h (by decide +kernel)).elim) (fun _ => ?_)
  refine sgL_law_54 F hP hD hS hl.1 (lv_at hl 0 rfl) tl_54 (okZ_r (by decide)) ⟨Nat.le_of_ble_eq_true rfl, Nat.le_of_ble_eq_true rfl⟩ (Nat.le_of_ble_eq_true rfl) (Nat.le_of_ble_eq_true rfl) (fun H locs hP hD hS => ?_)
  refine lv_ldc (v := (-2000000001 : Int32)) hx hb hown (hts _ mwbL_law_71) dL_law_80 ?_
  refine lv_icmp_ne (tgt := 927) hx hb dL_law_82 (by decide) (fun h => (h (by decide)).elim) (fun _ => ?_)
  refine sgL_law_85 F hP hD hS hl.1 (lv_at hl 0 rfl) tl_85 (okZ_r (by decide)) ⟨Nat.le_of_ble_eq_true rfl, Nat.le_of_ble_eq_true rfl⟩ (Nat.le_of_ble_eq_true rfl) (Nat.le_of_ble_eq_true rfl) (fun H locs hP hD hS => ?_)
  refine lv_ldc (v := (-2000000002 : Int32)) hx hb hown (hts _ mwbL_law_74) dL_law_111 ?_
  refine lv_icmp_ne (tgt := 927) hx hb dL_law_113 (by decide) (fun h => (h (by decide)).elim) (fun _ => ?_)
  refine sgL_law_116 F hP hD hS hl.1 (lv_at hl 0 rfl) tl_116 (okZ_r (by decide)) ⟨Nat.le_of_ble_eq_true rfl, Nat.le_of_ble_eq_true rfl⟩ (Nat.le_of_ble_eq_true rfl) (Nat.le_of_ble_eq_true rfl) (fun H locs hP hD hS => ?_)
  refine lv_ldc (v := (-2000000002 : Int32)) hx hb hown (hts _ mwbL_law_74) dL_law_143 ?_
  refine lv_icmp_ne (tgt := 927) hx hb dL_law_145 (by decide) (fun h => (h (by decide)).elim) (fun _ => ?_)
  refine sgL_law_148 F hP hD hS hl.1 (lv_at hl 0 rfl) tl_148 (okZ_r (by decide)) ⟨Nat.le_of_ble_eq_true rfl, Nat.le_of_ble_eq_true rfl⟩ (Nat.le_of_ble_eq_true rfl) (Nat.le_of_ble_eq_true rfl) (fun H locs hP hD hS => ?_)
  refine lv_ldc (v := (-2000000002 : Int32)) hx hb hown (hts _ mwbL_law_74) dL_law_175 ?_
  refine lv_icmp_ne (tgt := 927) hx hb dL_law_177 (by decide) (fun h => (h (by decide)).elim) (fun _ => ?_)
  refine sgL_law_180 F hP hD hS hl.1 (lv_at hl 0 rfl) tl_180 (okZ_r (by decide)) ⟨Nat.le_of_ble_eq_true rfl, Nat.le_of_ble_eq_true rfl⟩ (Nat.le_of_ble_eq_true rfl) (Nat.le_of_ble_eq_true rfl) (fun H locs hP hD hS => ?_)
  refine lv_ldc (v := (-2000000002 : Int32)) hx hb hown (hts _ mwbL_law_74) dL_law_206 ?_
  refine lv_icmp_ne (tgt := 927) hx hb dL_law_208 (by decide) (fun h => (h (by decide)).elim) (fun _ => ?_)
  refine sgL_law_211 F hP hD hS hl.1 (lv_at hl 0 rfl) tl_211 (okZ_r (by decide)) ⟨Nat.le_of_ble_eq_true rfl, Nat.le_of_ble_eq_true rfl⟩ (Nat.le_of_ble_eq_true rfl) (Nat.le_of_ble_eq_true rfl) (fun H locs hP hD hS => ?_)
  refine lv_ldc (v := (-2000000001 : Int32)) hx hb hown (hts _ mwbL_law_71) dL_law_224 ?_
  refine lv_icmp_ne (tgt := 927) hx hb dL_law_226 (by decide) (fun h => (h (by decide)).elim) (fun _ => ?_)
  refine sgL_law_229 F hP hD hS hl.1 (lv_at hl 0 rfl) tl_229 (okZ_r (by decide)) ⟨Nat.le_of_ble_eq_true rfl, Nat.le_of_ble_eq_true rfl⟩ (Nat.le_of_ble_eq_true rfl) (Nat.le_of_ble_eq_true rfl) (fun H locs hP hD hS => ?_)
  refine lv_ldc (v := (-2000000001 : Int32)) hx hb hown (hts _ mwbL_law_71) dL_law_250 ?_
  refine lv_icmp_ne (tgt := 927) hx hb dL_law_252 (by decide) (fun h => (h (by decide)).elim) (fun _ => ?_)
  refine sgL_law_255 F hP hD hS hl.1 (lv_at hl 0 rfl) tl_255 (okZ_r (by decide)) ⟨Nat.le_of_ble_eq_true rfl, Nat.le_of_ble_eq_true rfl⟩ (Nat.le_of_ble_eq_true rfl) (Nat.le_of_ble_eq_true rfl) (fun H locs hP hD hS => ?_)
  refine lv_ldc (v := (-2000000001 : Int32)) hx hb hown (hts _ mwbL_law_71) dL_law_276 ?_
  refine lv_icmp_ne (tgt := 927) hx hb dL_law_278 (by decide) (fun h => (h (by decide)).elim) (fun _ => ?_)
  refine sgL_law_281 F hP hD hS hl.1 (lv_at hl 0 rfl) tl_281 (okZ_r (by decide)) ⟨Nat.le_of_ble_eq_true rfl, Nat.le_of_ble_eq_true rfl⟩ (Nat.le_of_ble_eq_true rfl) (Nat.le_of_ble_eq_true rfl) (fun H locs hP hD hS => ?_)
  refine lv_ldc (v := (-2000000001 : Int32)) hx hb hown (hts _ mwbL_law_71) dL_law_302 ?_
  refine lv_icmp_ne (tgt := 927) hx hb dL_law_304 (by decide) (fun h => (h (by decide)).elim) (fun _ => ?_)
  refine sgL_law_307 F hP hD hS hl.1 (lv_at hl 0 rfl) tl_307 (okZ_r (by decide)) ⟨Nat.le_of_ble_eq_true rfl, Nat.le_of_ble_eq_true rfl⟩ (Nat.le_of_ble_eq_true rfl) (Nat.le_of_ble_eq_true rfl) (fun H locs hP hD hS => ?_)
  refine lv_ldc (v := (-2000000001 : Int32)) hx hb hown (hts _ mwbL_law_71) dL_law_320 ?_
  refine lv_icmp_ne (tgt := 927) hx hb dL_law_322 (by decide) (fun h => (h (by decide)).elim) (fun _ => ?_)
  refine sgL_law_325 F hP hD hS hl.1 (lv_at hl 0 rfl) tl_325 (okZ_r (by decide)) ⟨Nat.le_of_ble_eq_true rfl, Nat.le_of_ble_eq_true rfl⟩ (Nat.le_of_ble_eq_true rfl) (Nat.le_of_ble_eq_true rfl) (fun H locs hP hD hS => ?_)
  refine lv_ldc (v := (-2000000001 : Int32)) hx hb hown (hts _ mwbL_law_71) dL_law_338 ?_
  refine lv_icmp_ne (tgt := 927) hx hb dL_law_340 (by decide) (fun h => (h (by decide)).elim) (fun _ => ?_)
  refine sgL_law_343 F hP hD hS hl.1 (lv_at hl 0 rfl) tl_343 (okZ_r (by decide)) ⟨Nat.le_of_ble_eq_true rfl, Nat.le_of_ble_eq_true rfl⟩ (Nat.le_of_ble_eq_true rfl) (Nat.le_of_ble_eq_true rfl) (fun H locs hP hD hS => ?_)
  refine lv_ldc (v := (-2000000001 : Int32)) hx hb hown (hts _ mwbL_law_71) dL_law_365 ?_
  refine lv_icmp_ne (tgt := 927) hx hb dL_law_367 (by decide) (fun h => (h (by decide)).elim) (fun _ => ?_)
  refine sgL_law_370 F hP hD hS hl.1 (lv_at hl 0 rfl) tl_370 (okZ_r (by decide)) ⟨Nat.le_of_ble_eq_true rfl, Nat.le_of_ble_eq_true rfl⟩ (Nat.le_of_ble_eq_true rfl) (Nat.le_of_ble_eq_true rfl) (fun H locs hP hD hS => ?_)
  refine lv_ldc (v := (-2000000001 : Int32)) hx hb hown (hts _ mwbL_law_71) dL_law_396 ?_
  refine lv_icmp_ne (tgt := 927) hx hb dL_law_398 (by decide) (fun h => (h (by decide)).elim) (fun _ => ?_)
  refine sgL_law_401 F hP hD hS hl.1 (lv_at hl 0 rfl) tl_401 (okZ_r (by decide)) ⟨Nat.le_of_ble_eq_true rfl, Nat.le_of_ble_eq_true rfl⟩ (Nat.le_of_ble_eq_true rfl) (Nat.le_of_ble_eq_true rfl) (fun H locs hP hD hS => ?_)
  refine lv_ldc (v := (-2000000001 : Int32)) hx hb hown (hts _ mwbL_law_71) dL_law_426 ?_
  refine lv_icmp_ne (tgt := 927) hx hb dL_law_428 (by decide) (fun h => (h (by decide)).elim) (fun _ => ?_)
  refine sgL_law_431 F hP hD hS hl.1 (lv_at hl 0 rfl) tl_431 (okZ_r (by decide)) ⟨Nat.le_of_ble_eq_true rfl, Nat.le_of_ble_eq_true rfl⟩ (Nat.le_of_ble_eq_true rfl) (Nat.le_of_ble_eq_true rfl) (fun H locs hP hD hS => ?_)
  refine lv_ldc (v := (-2000000001 : Int32)) hx hb hown (hts _ mwbL_law_71) dL_law_444 ?_
  refine lv_icmp_ne (tgt := 927) hx hb dL_law_446 (by decide) (fun h => (h (by decide)).elim) (fun _ => ?_)
  refine sgL_law_449 F hP hD hS hl.1 (lv_at hl 0 rfl) tl_449 (okZ_r (by decide)) ⟨Nat.le_of_ble_eq_true rfl, Nat.le_of_ble_eq_true rfl⟩ (Nat.le_of_ble_eq_true rfl) (Nat.le_of_ble_eq_true rfl) (fun H locs hP hD hS => ?_)
  refine lv_ldc (v := (-2000000001 : Int32)) hx hb hown (hts _ mwbL_law_71) dL_law_462 ?_
  refine lv_icmp_ne (tgt := 927) hx hb dL_law_464 (by decide) (fun h => (h (by decide)).elim) (fun _ => ?_)
  refine sgL_law_467 F hP hD hS hl.1 (lv_at hl 0 rfl) tl_467 (okZ_r (by decide)) ⟨Nat.le_of_ble_eq_true rfl, Nat.le_of_ble_eq_true rfl⟩ (Nat.le_of_ble_eq_true rfl) (Nat.le_of_ble_eq_true rfl) (fun H locs hP hD hS => ?_)
  refine lv_ldc (v := (-2000000001 : Int32)) hx hb hown (hts _ mwbL_law_71) dL_law_480 ?_
  refine lv_icmp_ne (tgt := 927) hx hb dL_law_482 (by decide) (fun h => (h (by decide)).elim) (fun _ => ?_)
  refine sgL_law_485 F hP hD hS hl.1 (lv_at hl 0 rfl) tl_485 (okZ_r (by decide)) ⟨Nat.le_of_ble_eq_true rfl, Nat.le_of_ble_eq_true rfl⟩ (Nat.le_of_ble_eq_true rfl) (Nat.le_of_ble_eq_true rfl) (fun H locs hP hD hS => ?_)
  refine lv_ldc (v := (-2000000001 : Int32)) hx hb hown (hts _ mwbL_law_71) dL_law_498 ?_
  refine lv_icmp_ne (tgt := 927) hx hb dL_law_500 (by decide) (fun h => (h (by decide)).elim) (fun _ => ?_)
  refine sgL_law_503 F hP hD hS hl.1 (lv_at hl 0 rfl) tl_503 (okZ_r (by decide)) ⟨Nat.le_of_ble_eq_true rfl, Nat.le_of_ble_eq_true rfl⟩ (Nat.le_of_ble_eq_true rfl) (Nat.le_of_ble_eq_true rfl) (fun H locs hP hD hS => ?_)
  refine lv_ldc (v := (-2000000001 : Int32)) hx hb hown (hts _ mwbL_law_71) dL_law_516 ?_
  refine lv_icmp_ne (tgt := 927) hx hb dL_law_518 (by decide) (fun h => (h (by decide)).elim) (fun _ => ?_)
  refine sgL_law_521 F hP hD hS hl.1 (lv_at hl 0 rfl) tl_521 (okZ_r (by decide)) ⟨Nat.le_of_ble_eq_true rfl, Nat.le_of_ble_eq_true rfl⟩ (Nat.le_of_ble_eq_true rfl) (Nat.le_of_ble_eq_true rfl) (fun H locs hP hD hS => ?_)
  refine lv_ldc (v := (-2000000004 : Int32)) hx hb hown (hts _ mwbL_law_80) dL_law_534 ?_
  refine lv_icmp_ne (tgt := 927) hx hb dL_law_536 (by decide) (fun h => (h (by decide)).elim) (fun _ => ?_)
  refine sgL_law_539 F hP hD hS hl.1 (lv_at hl 0 rfl) tl_539 (okZ_r (by decide)) ⟨Nat.le_of_ble_eq_true rfl, Nat.le_of_ble_eq_true rfl⟩ (Nat.le_of_ble_eq_true rfl) (Nat.le_of_ble_eq_true rfl) (fun H locs hP hD hS => ?_)
  refine lv_ldc (v := (-2000000004 : Int32)) hx hb hown (hts _ mwbL_law_80) dL_law_552 ?_
  refine lv_icmp_ne (tgt := 927) hx hb dL_law_554 (by decide) (fun h => (h (by decide)).elim) (fun _ => ?_)
  refine sgL_law_557 F hP hD hS hl.1 (lv_at hl 0 rfl) tl_557 (okZ_r (by decide)) ⟨Nat.le_of_ble_eq_true rfl, Nat.le_of_ble_eq_true rfl⟩ (Nat.le_of_ble_eq_true rfl) (Nat.le_of_ble_eq_true rfl) (fun H locs hP hD hS => ?_)
  refine lv_ldc (v := (-2000000001 : Int32)) hx hb hown (hts _ mwbL_law_71) dL_law_570 ?_
  refine lv_icmp_ne (tgt := 927) hx hb dL_law_572 (by decide) (fun h => (h (by decide)).elim) (fun _ => ?_)
  refine sgL_law_575 F hP hD hS hl.1 (lv_at hl 0 rfl) tl_575 (okZ_r (by decide)) ⟨Nat.le_of_ble_eq_true rfl, Nat.le_of_ble_eq_true rfl⟩ (Nat.le_of_ble_eq_true rfl) (Nat.le_of_ble_eq_true rfl) (fun H locs hP hD hS => ?_)
  refine lv_ldc (v := (-2000000001 : Int32)) hx hb hown (hts _ mwbL_law_71) dL_law_588 ?_
  refine lv_icmp_ne (tgt := 927) hx hb dL_law_590 (by decide) (fun h => (h (by decide)).elim) (fun _ => ?_)
  refine sgL_law_593 F hP hD hS hl.1 (lv_at hl 0 rfl) tl_593 (okZ_r (by decide)) ⟨Nat.le_of_ble_eq_true rfl, Nat.le_of_ble_eq_true rfl⟩ (Nat.le_of_ble_eq_true rfl) (Nat.le_of_ble_eq_true rfl) (fun H locs hP hD hS => ?_)
  refine lv_ldc (v := (-2000000001 : Int32)) hx hb hown (hts _ mwbL_law_71) dL_law_618 ?_
  refine lv_icmp_ne (tgt := 927) hx hb dL_law_620 (by decide) (fun h => (h (by decide)).elim) (fun _ => ?_)
  refine sgL_law_623 F hP hD hS hl.1 (lv_at hl 0 rfl) tl_623 (okZ_r (by decide)) ⟨Nat.le_of_ble_eq_true rfl, Nat.le_of_ble_eq_true rfl⟩ (Nat.le_of_ble_eq_true rfl) (Nat.le_of_ble_eq_true rfl) (fun H locs hP hD hS => ?_)
  refine lv_ldc (v := (-2000000002 : Int32)) hx hb hown (hts _ mwbL_law_74) dL_law_649 ?_
  refine lv_icmp_ne (tgt := 927) hx hb dL_law_651 (by decide) (fun h => (h (by decide)).elim) (fun _ => ?_)
  refine sgL_law_654 F hP hD hS hl.1 (lv_at hl 0 rfl) tl_654 (okZ_r (by decide)) ⟨Nat.le_of_ble_eq_true rfl, Nat.le_of_ble_eq_true rfl⟩ (Nat.le_of_ble_eq_true rfl) (Nat.le_of_ble_eq_true rfl) (fun H locs hP hD hS => ?_)
  refine lv_ldc (v := (-2000000002 : Int32)) hx hb hown (hts _ mwbL_law_74) dL_law_671 ?_
  refine lv_icmp_ne (tgt := 927) hx hb dL_law_673 (by decide) (fun h => (h (by decide)).elim) (fun _ => ?_)
  refine sgL_law_676 F hP hD hS hl.1 (lv_at hl 0 rfl) tl_676 (okZ_r (by decide)) ⟨Nat.le_of_ble_eq_true rfl, Nat.le_of_ble_eq_true rfl⟩ (Nat.le_of_ble_eq_true rfl) (Nat.le_of_ble_eq_true rfl) (fun H locs hP hD hS => ?_)
  refine lv_ldc (v := (-2000000001 : Int32)) hx hb hown (hts _ mwbL_law_71) dL_law_689 ?_
  refine lv_icmp_ne (tgt := 927) hx hb dL_law_691 (by decide) (fun h => (h (by decide)).elim) (fun _ => ?_)
  refine sgL_law_694 F hP hD hS hl.1 (lv_at hl 0 rfl) tl_694 (okZ_r (by decide)) ⟨Nat.le_of_ble_eq_true rfl, Nat.le_of_ble_eq_true rfl⟩ (Nat.le_of_ble_eq_true rfl) (Nat.le_of_ble_eq_true rfl) (fun H locs hP hD hS => ?_)
  refine lv_ldc (v := (-2000000002 : Int32)) hx hb hown (hts _ mwbL_law_74) dL_law_715 ?_
  refine lv_icmp_ne (tgt := 927) hx hb dL_law_717 (by decide) (fun h => (h (by decide)).elim) (fun _ => ?_)
  refine sgL_law_720 F hP hD hS hl.1 (lv_at hl 0 rfl) tl_720 (okZ_r (by decide)) ⟨Nat.le_of_ble_eq_true rfl, Nat.le_of_ble_eq_true rfl⟩ (Nat.le_of_ble_eq_true rfl) (Nat.le_of_ble_eq_true rfl) (fun H locs hP hD hS => ?_)
  refine lv_ldc (v := (-2000000001 : Int32)) hx hb hown (hts _ mwbL_law_71) dL_law_741 ?_
  refine lv_icmp_ne (tgt := 927) hx hb dL_law_743 (by decide) (fun h => (h (by decide)).elim) (fun _ => ?_)
  refine sgL_law_746 F hP hD hS hl.1 (lv_at hl 0 rfl) tl_746 (okZ_r (by decide)) ⟨Nat.le_of_ble_eq_true rfl, Nat.le_of_ble_eq_true rfl⟩ (Nat.le_of_ble_eq_true rfl) (Nat.le_of_ble_eq_true rfl) (fun H locs hP hD hS => ?_)
  refine lv_ldc (v := (-2000000001 : Int32)) hx hb hown (hts _ mwbL_law_71) dL_law_759 ?_
  refine lv_icmp_ne (tgt := 927) hx hb dL_law_761 (by decide) (fun h => (h (by decide)).elim) (fun _ => ?_)
  refine sgL_law_764 F hP hD hS hl.1 (lv_at hl 0 rfl) tl_764 (okZ_r (by decide)) ⟨Nat.le_of_ble_eq_true rfl, Nat.le_of_ble_eq_true rfl⟩ (Nat.le_of_ble_eq_true rfl) (Nat.le_of_ble_eq_true rfl) (fun H locs hP hD hS => ?_)
  refine lv_ldc (v := (-2000000001 : Int32)) hx hb hown (hts _ mwbL_law_71) dL_law_781 ?_
  refine lv_icmp_ne (tgt := 927) hx hb dL_law_783 (by decide) (fun h => (h (by decide)).elim) (fun _ => ?_)
  refine sgL_law_786 F hP hD hS hl.1 (lv_at hl 0 rfl) tl_786 (okZ_r (by decide)) ⟨Nat.le_of_ble_eq_true rfl, Nat.le_of_ble_eq_true rfl⟩ (Nat.le_of_ble_eq_true rfl) (Nat.le_of_ble_eq_true rfl) (fun H locs hP hD hS => ?_)
  refine lv_ldc (v := (-2000000005 : Int32)) hx hb hown (hts _ mwbL_law_83) dL_law_799 ?_
  refine lv_icmp_ne (tgt := 927) hx hb dL_law_801 (by decide) (fun h => (h (by decide)).elim) (fun _ => ?_)
  refine sgL_law_804 F hP hD hS hl.1 (lv_at hl 0 rfl) tl_804 (okZ_r (by decide)) ⟨Nat.le_of_ble_eq_true rfl, Nat.le_of_ble_eq_true rfl⟩ (Nat.le_of_ble_eq_true rfl) (Nat.le_of_ble_eq_true rfl) (fun H locs hP hD hS => ?_)
  refine lv_ldc (v := (-2000000001 : Int32)) hx hb hown (hts _ mwbL_law_71) dL_law_825 ?_
  refine lv_icmp_ne (tgt := 927) hx hb dL_law_827 (by decide) (fun h => (h (by decide)).elim) (fun _ => ?_)
  refine sgL_law_830 F hP hD hS hl.1 (lv_at hl 0 rfl) tl_830 (okZ_r (by decide)) ⟨Nat.le_of_ble_eq_true rfl, Nat.le_of_ble_eq_true rfl⟩ (Nat.le_of_ble_eq_true rfl) (Nat.le_of_ble_eq_true rfl) (fun H locs hP hD hS => ?_)
  refine lv_ldc (v := (-2000000001 : Int32)) hx hb hown (hts _ mwbL_law_71) dL_law_843 ?_
  refine lv_icmp_ne (tgt := 927) hx hb dL_law_845 (by decide) (fun h => (h (by decide)).elim) (fun _ => ?_)
  refine sgL_law_848 F hP hD hS hl.1 (lv_at hl 0 rfl) tl_848 (okZ_r (by decide)) ⟨Nat.le_of_ble_eq_true rfl, Nat.le_of_ble_eq_true rfl⟩ (Nat.le_of_ble_eq_true rfl) (Nat.le_of_ble_eq_true rfl) (fun H locs hP hD hS => ?_)
  refine lv_ldc (v := (-2000000001 : Int32)) hx hb hown (hts _ mwbL_law_71) dL_law_861 ?_
  refine lv_icmp_ne (tgt := 927) hx hb dL_law_863 (by decide) (fun h => (h (by decide)).elim) (fun _ => ?_)
  refine sgL_law_866 F hP hD hS hl.1 (lv_at hl 0 rfl) tl_866 (okZ_r (by decide)) ⟨Nat.le_of_ble_eq_true rfl, Nat.le_of_ble_eq_true rfl⟩ (Nat.le_of_ble_eq_true rfl) (Nat.le_of_ble_eq_true rfl) (fun H locs hP hD hS => ?_)
  refine lv_ldc (v := (-2000000002 : Int32)) hx hb hown (hts _ mwbL_law_74) dL_law_880 ?_
  refine lv_icmp_ne (tgt := 927) hx hb dL_law_882 (by decide) (fun h => (h (by decide)).elim) (fun _ => ?_)
  refine sgL_law_885 F hP hD hS hl.1 (lv_at hl 0 rfl) tl_885 (okZ_r (by decide)) ⟨Nat.le_of_ble_eq_true rfl, Nat.le_of_ble_eq_true rfl⟩ (Nat.le_of_ble_eq_true rfl) (Nat.le_of_ble_eq_true rfl) (fun H locs hP hD hS => ?_)
  refine lv_ldc (v := (-2000000004 : Int32)) hx hb hown (hts _ mwbL_law_80) dL_law_899 ?_
  refine lv_icmp_ne (tgt := 927) hx hb dL_law_901 (by decide) (fun h => (h (by decide)).elim) (fun _ => ?_)
  refine sgL_law_904 F hP hD hS hl.1 (lv_at hl 0 rfl) tl_904 (okZ_r (by decide)) ⟨Nat.le_of_ble_eq_true rfl, Nat.le_of_ble_eq_true rfl⟩ (Nat.le_of_ble_eq_true rfl) (Nat.le_of_ble_eq_true rfl) (fun H locs hP hD hS => ?_)
  refine lv_ldc (v := (-2000000005 : Int32)) hx hb hown (hts _ mwbL_law_83) dL_law_922 ?_
  refine lv_icmp_eq (tgt := 929) hx hb dL_law_924 (by decide) (fun _ => ?_) (fun h => (h (by decide)).elim)
  refine lv_aload_n hx hb dL_law_929 rfl (lv_at hl 1 rfl) ?_
  refine ar_pure (As := [.ref b]) (rest := []) hx hb hml hown hts hP hS (mL_flips l hlf (D := D) (cy := cy) (b := b) (L := L) (xs := xs) (by omega)) (va_cwS 1 hts gL_law_L_flips rfl rfl rfl nVL_flips ⟨Nat.le_of_ble_eq_true rfl, Nat.le_of_ble_eq_true rfl⟩) (f_preS hK hN8 hX hNt hXs hbl hS) rfl hl.1 rfl (Nat.le_of_ble_eq_true rfl) dL_law_930 ⟨Nat.le_of_ble_eq_true rfl, Nat.le_of_ble_eq_true rfl⟩ (fun H locs hP hS => ?_)
  refine lv_if_eq (tgt := 954) hx hb dL_law_933 (by decide) (fun h => absurd h (by decide)) (fun _ => ?_)
  refine lv_aload_n hx hb dL_law_936 rfl (lv_at hl 1 rfl) ?_
  refine ar_pure (As := [.ref b]) (rest := []) hx hb hml hown hts hP hS (mL_sticks l hlf (D := D) (cy := cy) (b := b) (L := L) (xs := xs) (by omega)) (va_cwS 1 hts gL_law_L_sticks rfl rfl rfl nVL_sticks ⟨Nat.le_of_ble_eq_true rfl, Nat.le_of_ble_eq_true rfl⟩) (f_preS hK hN8 hX hNt hXs hbl hS) rfl hl.1 rfl (Nat.le_of_ble_eq_true rfl) dL_law_937 ⟨Nat.le_of_ble_eq_true rfl, Nat.le_of_ble_eq_true rfl⟩ (fun H locs hP hS => ?_)
  refine lv_if_eq (tgt := 954) hx hb dL_law_940 (by decide) (fun h => absurd h (by decide)) (fun _ => ?_)
  refine lv_aload_n hx hb dL_law_943 rfl (lv_at hl 1 rfl) ?_
  refine ar_pure (As := [.ref b]) (rest := []) hx hb hml hown hts hP hS (mL_full l hlf (D := D) (cy := cy) (b := b) (L := L) (xs := xs) (by omega)) (va_cwS 1 hts gL_law_L_full rfl rfl rfl nVL_full ⟨Nat.le_of_ble_eq_true rfl, Nat.le_of_ble_eq_true rfl⟩) (f_preS hK hN8 hX hNt hXs hbl hS) rfl hl.1 rfl (Nat.le_of_ble_eq_true rfl) dL_law_944 ⟨Nat.le_of_ble_eq_true rfl, Nat.le_of_ble_eq_true rfl⟩ (fun H locs hP hS => ?_)
  refine lv_if_eq (tgt := 954) hx hb dL_law_947 (by decide) (fun h => absurd h (by decide)) (fun _ => ?_)
  refine lv_iconst (v := (1 : Int32)) hx hb dL_law_950 (by decide) ?_
  refine lv_goto (tgt := 955) hx hb dL_law_951 (by decide) ?_
  refine W.widen (k := 760453) (n := 6820264) (Nat.le_of_ble_eq_true rfl) (Nat.le_of_ble_eq_true rfl) ?_
  refine va_forget (fun q hq => hS.2.2 q hq) ?_
  refine W.base ?_
  exact lw_ret (Drawn.sameBut.refl s.drawn lw_cs) hx hb hr hlocks dL_law_955

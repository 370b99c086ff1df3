abbrev rmL_ask : Room := { frames := 9, cells := 4, slots := 24, locals := 157 }
theorem nVL_ask : yL_ask.cls ≠ "java/lang/invoke/MethodHandle" ∧ yL_ask.cls ≠ "java/lang/invoke/VarHandle" ∧ (parseMethodDescriptor yL_ask.desc).map (fun d => d.parameters.length) = some 3 := by decide +kernel
def hhA : List (Nat × Nat × Nat × Nat) := [(0, 249, 448, 69), (250, 257, 448, 69), (258, 271, 448, 69), (272, 279, 448, 69), (280, 287, 448, 69), (288, 301, 448, 69), (302, 318, 448, 69), (319, 352, 448, 69), (353, 368, 448, 69), (369, 384, 448, 69), (385, 392, 448, 69), (393, 400, 448, 69), (401, 416, 448, 69), (417, 424, 448, 69), (425, 432, 448, 69), (433, 440, 448, 69), (441, 447, 448, 69), (0, 249, 452, 72), (250, 257, 452, 72), (258, 271, 452, 72), (272, 279, 452, 72), (280, 287, 452, 72), (288, 301, 452, 72), (302, 318, 452, 72), (319, 352, 452, 72), (353, 368, 452, 72), (369, 384, 452, 72), (385, 392, 452, 72), (393, 400, 452, 72), (401, 416, 452, 72), (417, 424, 452, 72), (425, 432, 452, 72), (433, 440, 452, 72), (441, 447, 452, 72), (0, 249, 456, 75), (250, 257, 456, 75), (258, 271, 456, 75), (272, 279, 456, 75), (280, 287, 456, 75), (288, 301, 456, 75), (302, 318, 456, 75), (319, 352, 456, 75), (353, 368, 456, 75), (369, 384, 456, 75), (385, 392, 456, 75), (393, 400, 456, 75), (401, 416, 456, 75), (417, 424, 456, 75), (425, 432, 456, 75), (433, 440, 456, 75), (441, 447, 456, 75), (0, 249, 460, 78), (250, 257, 460, 78), (258, 271, 460, 78), (272, 279, 460, 78), (280, 287, 460, 78), (288, 301, 460, 78), (302, 318, 460, 78), (319, 352, 460, 78), (353, 368, 460, 78), (369, 384, 460, 78), (385, 392, 460, 78), (393, 400, 460, 78), (401, 416, 460, 78), (417, 424, 460, 78), (425, 432, 460, 78), (433, 440, 460, 78), (441, 447, 460, 78), (0, 249, 464, 81), (250, 257, 464, 81), (258, 271, 464, 81), (272, 279, 464, 81), (280, 287, 464, 81), (288, 301, 464, 81), (302, 318, 464, 81), (319, 352, 464, 81), (353, 368, 464, 81), (369, 384, 464, 81), (385, 392, 464, 81), (393, 400, 464, 81), (401, 416, 464, 81), (417, 424, 464, 81), (425, 432, 464, 81), (433, 440, 464, 81), (441, 447, 464, 81)]
def askPc (pc : Nat) : Bool := chkT pc 69 448 [] (tableOf hhA) && chkT pc 72 452 [69] (tableOf hhA) && chkT pc 75 456 [69, 72] (tableOf hhA) && chkT pc 78 460 [69, 72, 75] (tableOf hhA) && chkT pc 81 464 [69, 72, 75, 78] (tableOf hhA)
theorem mwask_69 : Cond.classLink RL 69 (xn 1) ∈ wsL_ask := by decide +kernel
theorem mwaskc_71 : Cond.constant RL 71 (-2000000001) ∈ wsL_ask := by decide +kernel
theorem mwask_72 : Cond.classLink RL 72 (xn 2) ∈ wsL_ask := by decide +kernel
theorem mwaskc_74 : Cond.constant RL 74 (-2000000002) ∈ wsL_ask := by decide +kernel
theorem mwask_75 : Cond.classLink RL 75 (xn 3) ∈ wsL_ask := by decide +kernel
theorem mwaskc_77 : Cond.constant RL 77 (-2000000003) ∈ wsL_ask := by decide +kernel
theorem mwask_78 : Cond.classLink RL 78 (xn 4) ∈ wsL_ask := by decide +kernel
theorem mwaskc_80 : Cond.constant RL 80 (-2000000004) ∈ wsL_ask := by decide +kernel
theorem mwask_81 : Cond.classLink RL 81 (xn 5) ∈ wsL_ask := by decide +kernel
theorem mwaskc_83 : Cond.constant RL 83 (-2000000005) ∈ wsL_ask := by decide +kernel
set_option maxHeartbeats 4000000 in
set_option maxRecDepth 100000 in
theorem ask_end {p : Program} {l : Launch} {e : Env} {s : State} {m : MethodId} {args : Array Value} {below : List Frame} {meth : Method} {c : Code} {H : Heap} {locs : List Loc} {cells slots pc q9 a : Nat} {ls : Array Slot} {rest : List Value} {D : va_G} {cy : Nat → ClassId} {q : Nat → Nat} {u : TS} {ce : Cell} {ch : Int32} {k1 : Nat} (hk : k1 = 1 ∨ k1 = 2 ∨ k1 = 3 ∨ k1 = 4 ∨ k1 = 5) (hpc : askPc pc = true) (hx : p.tables.exec = Jvm.exec) (hb : c.code = cL_ask) (hr : meth.sig.returnType = some .int) (hlocks : meth.locks = false) (hown : s.vm.findClass RL = some m.cls) (hts : ∀ w ∈ wsL_ask, w.before args s = true) (hX : xPre (gA 78 q) s) (hNt : ∀ k ∈ xNots, va_Nc k.1 k.2 s) (htab : c.exceptionTable.toList = tableOf hhA) (hl : lv_has ls 4 [(0, .ref (q 0)), (1, .int ch), (2, .ref a)]) (hP : va_P D vwCl (gS 78 q (TX cy q) u) H) (hS : va_S (gA 78 q) s.heap H locs) (g1 : H[q9]? = some ce) (g2 : ce.vm = .none) (g3 : s.vm.findClass (xn k1) = some ce.cls) (hc : cells ≤ 4) (hsl : slots ≤ 24) : vx_W p l e rmL_ask s m args below meth c H locs cells slots (MQ below (gQi D vwCl (askR (.inr k1)) (gS 78 q (TX cy q) u) (gA 78 q)) args s 4 24 (gA 78 q)) (F0 m pc ls rest) q9 := by
  unfold askPc at hpc
  simp only [Bool.and_eq_true] at hpc
  obtain ⟨⟨⟨⟨p1, p2⟩, p3⟩, p4⟩, p5⟩ := hpc
  rcases hk with rfl | rfl | rfl | rfl | rfl
  · refine h_catch (k := 1) hown htab p1 (by decide) (hts _ mwask_69) (fun j hj => nomatch hj) (va_Nw.use rfl (hX.2.2.2.1 (xn 1, xn 1) (by decide +kernel))) g1 g2 g3 ?_
    refine lv_astore_n (lv' := [(3, .ref q9), (0, .ref (q 0)), (1, .int ch), (2, .ref a)]) hx hb dL_ask_448 rfl hl (by decide) rfl (fun ls hl => ?_)
    refine lv_ldc (v := (-2000000001 : Int32)) hx hb hown (hts _ mwaskc_71) dL_ask_449 ?_
    refine W.widen (k := 4) (n := 24) hc hsl ?_
    exact W.iret (v := (-2000000001 : Int32)) hx hb hr (fun t ht hW => ⟨⟨(-2000000001 : Int32), (), rfl, rfl, by subst ht; exact hP⟩, hS.F ht⟩) hS.2.2 dL_ask_451
  · refine h_catch (k := 2) hown htab p2 (by decide) (hts _ mwask_72) (fun j hj => by
      simp only [List.mem_cons, List.not_mem_nil, or_false] at hj
      rcases hj with rfl
      · exact ⟨by decide, xn 1, hts _ mwask_69, hNt (xn 2, xn 1) (by decide +kernel)⟩) (va_Nw.use rfl (hX.2.2.2.1 (xn 2, xn 2) (by decide +kernel))) g1 g2 g3 ?_
    refine lv_astore_n (lv' := [(3, .ref q9), (0, .ref (q 0)), (1, .int ch), (2, .ref a)]) hx hb dL_ask_452 rfl hl (by decide) rfl (fun ls hl => ?_)
    refine lv_ldc (v := (-2000000002 : Int32)) hx hb hown (hts _ mwaskc_74) dL_ask_453 ?_
    refine W.widen (k := 4) (n := 24) hc hsl ?_
    exact W.iret (v := (-2000000002 : Int32)) hx hb hr (fun t ht hW => ⟨⟨(-2000000002 : Int32), (), rfl, rfl, by subst ht; exact hP⟩, hS.F ht⟩) hS.2.2 dL_ask_455
  · refine h_catch (k := 3) hown htab p3 (by decide) (hts _ mwask_75) (fun j hj => by
      simp only [List.mem_cons, List.not_mem_nil, or_false] at hj
      rcases hj with rfl | rfl
      · exact ⟨by decide, xn 1, hts _ mwask_69, hNt (xn 3, xn 1) (by decide +kernel)⟩
      · exact ⟨by decide, xn 2, hts _ mwask_72, hNt (xn 3, xn 2) (by decide +kernel)⟩) (va_Nw.use rfl (hX.2.2.2.1 (xn 3, xn 3) (by decide +kernel))) g1 g2 g3 ?_
    refine lv_astore_n (lv' := [(3, .ref q9), (0, .ref (q 0)), (1, .int ch), (2, .ref a)]) hx hb dL_ask_456 rfl hl (by decide) rfl (fun ls hl => ?_)
    refine lv_ldc (v := (-2000000003 : Int32)) hx hb hown (hts _ mwaskc_77) dL_ask_457 ?_
    refine W.widen (k := 4) (n := 24) hc hsl ?_
    exact W.iret (v := (-2000000003 : Int32)) hx hb hr (fun t ht hW => ⟨⟨(-2000000003 : Int32), (), rfl, rfl, by subst ht; exact hP⟩, hS.F ht⟩) hS.2.2 dL_ask_459
  · refine h_catch (k := 4) hown htab p4 (by decide) (hts _ mwask_78) (fun j hj => by
      simp only [List.mem_cons, List.not_mem_nil, or_false] at hj
      rcases hj with rfl | rfl | rfl
      · exact ⟨by decide, xn 1, hts _ mwask_69, hNt (xn 4, xn 1) (by decide +kernel)⟩
      · exact ⟨by decide, xn 2, hts _ mwask_72, hNt (xn 4, xn 2) (by decide +kernel)⟩
      · exact ⟨by decide, xn 3, hts _ mwask_75, hNt (xn 4, xn 3) (by decide +kernel)⟩) (va_Nw.use rfl (hX.2.2.2.1 (xn 4, xn 4) (by decide +kernel))) g1 g2 g3 ?_
    refine lv_astore_n (lv' := [(3, .ref q9), (0, .ref (q 0)), (1, .int ch), (2, .ref a)]) hx hb dL_ask_460 rfl hl (by decide) rfl (fun ls hl => ?_)
    refine lv_ldc (v := (-2000000004 : Int32)) hx hb hown (hts _ mwaskc_80) dL_ask_461 ?_
    refine W.widen (k := 4) (n := 24) hc hsl ?_
    exact W.iret (v := (-2000000004 : Int32)) hx hb hr (fun t ht hW => ⟨⟨(-2000000004 : Int32), (), rfl, rfl, by subst ht; exact hP⟩, hS.F ht⟩) hS.2.2 dL_ask_463
  · refine h_catch (k := 5) hown htab p5 (by decide) (hts _ mwask_81) (fun j hj => by
      simp only [List.mem_cons, List.not_mem_nil, or_false] at hj
      rcases hj with rfl | rfl | rfl | rfl
      · exact ⟨by decide, xn 1, hts _ mwask_69, hNt (xn 5, xn 1) (by decide +kernel)⟩
      · exact ⟨by decide, xn 2, hts _ mwask_72, hNt (xn 5, xn 2) (by decide +kernel)⟩
      · exact ⟨by decide, xn 3, hts _ mwask_75, hNt (xn 5, xn 3) (by decide +kernel)⟩
      · exact ⟨by decide, xn 4, hts _ mwask_78, hNt (xn 5, xn 4) (by decide +kernel)⟩) (va_Nw.use rfl (hX.2.2.2.1 (xn 5, xn 5) (by decide +kernel))) g1 g2 g3 ?_
    refine lv_astore_n (lv' := [(3, .ref q9), (0, .ref (q 0)), (1, .int ch), (2, .ref a)]) hx hb dL_ask_464 rfl hl (by decide) rfl (fun ls hl => ?_)
    refine lv_ldc (v := (-2000000005 : Int32)) hx hb hown (hts _ mwaskc_83) dL_ask_465 ?_
    refine W.widen (k := 4) (n := 24) hc hsl ?_
    exact W.iret (v := (-2000000005 : Int32)) hx hb hr (fun t ht hW => ⟨⟨(-2000000005 : Int32), (), rfl, rfl, by subst ht; exact hP⟩, hS.F ht⟩) hS.2.2 dL_ask_467
set_option maxHeartbeats 4000000 in
set_option maxRecDepth 100000 in
theorem mL_ask_code {D : va_G} {cy : Nat → ClassId} {q : Nat → Nat} (l : Launch) (hlf : l.stackTraces = false) (hJ : gJ 78 q) {a : Nat} (ha : ¬ gA 78 q a) {f : Nat → Int32} {σ : TS} {z : Int32 ⊕ Nat} {u : TS} (hp : sX8_code (f 0) (lchr (f 1)) (f 2) (f 3) σ = some (z, u)) (hz : okZ z) : Met l yL_ask wsL_ask rmL_ask (va_Pc [.ref (q 0), .int (67 : Int32), .ref a] (hPre D vwCl (tyL cy) (gS 78 q (TX cy q) σ) (iW a cy 4 f) (gA 78 q))) (gQi D vwCl (askR z) (gS 78 q (TX cy q) u) (gA 78 q)) 4 24 (gA 78 q) := by
  refine g_ofWH (cc := cL_ask) (maxL := 4) (ret := (some .int)) (hh := hhA) (by decide +kernel) rfl ?_
  intro p e s m args below meth c s₁ B hml htab hv
  obtain ⟨rfl, ⟨hP, hO, hK⟩, hX, hNt⟩ := hv
  have hx := B.exec
  have hb := B.bytes
  have hr := B.returns
  have hlocks := B.notSynchronized
  have hts := atoms_spec (ws := wsL_ask) B.pre
  have hown : s.vm.findClass RL = some m.cls := findClass_of_methodNamed B.named
  have hS : va_S (gA 78 q) s.heap s.heap [] := va_S.rf
  have hl := lv_entry ([.ref (q 0), .int (67 : Int32), .ref a]) (n := 4) (Nat.le_of_ble_eq_true rfl)
  rw [lg_entry_eq]
  generalize (lg_sl ([.ref (q 0), .int (67 : Int32), .ref a]) ++ List.replicate (4 - (lg_sl ([.ref (q 0), .int (67 : Int32), .ref a])).length) Slot.unset).toArray = ls at hl ⊢
  have hl : lv_has ls 4 [(0, .ref (q 0)), (1, .int (67 : Int32)), (2, .ref a)] := hl
  refine lv_iload_n hx hb dL_ask_0 rfl (lv_at hl 1 rfl) ?_
  refine g_sw hx hb (off := 231) (tgt := 232) dL_ask_1 (by decide) (by decide) (by decide) ?_
  refine lv_aload_n hx hb dL_ask_232 rfl (lv_at hl 0 rfl) ?_
  refine lv_aload_n hx hb dL_ask_233 rfl (lv_at hl 2 rfl) ?_
  refine lv_iconst (v := (0 : Int32)) hx hb dL_ask_234 (by decide) ?_
  refine h_ild (j := 0) hx hb hK hO (by decide) rfl dL_ask_235 ?_
  refine lv_aload_n hx hb dL_ask_236 rfl (lv_at hl 2 rfl) ?_
  refine lv_iconst (v := (1 : Int32)) hx hb dL_ask_237 (by decide) ?_
  refine h_ild (j := 1) hx hb hK hO (by decide) rfl dL_ask_238 ?_
  refine lv_i2c (v := lchr (f 1)) hx hb dL_ask_239 rfl ?_
  refine lv_aload_n hx hb dL_ask_240 rfl (lv_at hl 2 rfl) ?_
  refine lv_iconst (v := (2 : Int32)) hx hb dL_ask_241 (by decide) ?_
  refine h_ild (j := 2) hx hb hK hO (by decide) rfl dL_ask_242 ?_
  refine lv_aload_n hx hb dL_ask_243 rfl (lv_at hl 2 rfl) ?_
  refine lv_iconst (v := (3 : Int32)) hx hb dL_ask_244 (by decide) ?_
  refine h_ild (j := 3) hx hb hK hO (by decide) rfl dL_ask_245 ?_
  rcases z with r1 | k1
  · refine h_cVi (As := [.int (f 0), .int (lchr (f 1)), .int (f 2), .int (f 3)]) (rest := []) hx hb hml hown hts hK hX (fun a h => h) hP hO (i_dis ha) hS (mX8_code l hlf hJ hp) (cwV 4 hts gL_ask_X8_code rfl rfl rfl nVX8_code ⟨Nat.le_of_ble_eq_true rfl, Nat.le_of_ble_eq_true rfl⟩) (g_recv hK hP kk_Tri ce_Tri rfl) rfl hl.1 rfl (Nat.le_of_ble_eq_true rfl) dL_ask_246 ⟨Nat.le_of_ble_eq_true rfl, Nat.le_of_ble_eq_true rfl⟩ (fun H locs hP hO hS => ?_)
    refine W.widen (k := 4) (n := 24) (Nat.le_of_ble_eq_true rfl) (Nat.le_of_ble_eq_true rfl) ?_
    exact W.iret (v := r1) hx hb hr (fun t ht hW => ⟨⟨r1, (), rfl, rfl, by subst ht; exact hP⟩, hS.F ht⟩) hS.2.2 dL_ask_249
  · refine h_cVx (As := [.int (f 0), .int (lchr (f 1)), .int (f 2), .int (f 3)]) (rest := []) hx hb hml hown hts hK hX (fun a h => h) hP hO (i_dis ha) hS (mX8_code l hlf hJ hp) (cwV 4 hts gL_ask_X8_code rfl rfl rfl nVX8_code ⟨Nat.le_of_ble_eq_true rfl, Nat.le_of_ble_eq_true rfl⟩) (g_recv hK hP kk_Tri ce_Tri rfl) rfl hl.1 rfl (Nat.le_of_ble_eq_true rfl) dL_ask_246 ⟨Nat.le_of_ble_eq_true rfl, Nat.le_of_ble_eq_true rfl⟩ (fun ce q9 H locs hP hO hS g1 g2 g3 => ?_)
    exact ask_end (hz k1 rfl) (by decide +kernel) hx hb hr hlocks hown hts hX hNt htab hl hP hS g1 g2 g3 (Nat.le_of_ble_eq_true rfl) (Nat.le_of_ble_eq_true rfl)
set_option maxHeartbeats 4000000 in
set_option maxRecDepth 100000 in
theorem mL_ask_clear {D : va_G} {cy : Nat → ClassId} {q : Nat → Nat} (l : Launch) (hlf : l.stackTraces = false) (hJ : gJ 78 q) {a : Nat} (ha : ¬ gA 78 q a) {f : Nat → Int32} {σ : TS} {z : Int32 ⊕ Nat} {u : TS} (hp : sX8_clear (f 0) σ = some (z, u)) (hz : okZ z) : Met l yL_ask wsL_ask rmL_ask (va_Pc [.ref (q 0), .int (99 : Int32), .ref a] (hPre D vwCl (tyL cy) (gS 78 q (TX cy q) σ) (iW a cy 1 f) (gA 78 q))) (gQi D vwCl (askR z) (gS 78 q (TX cy q) u) (gA 78 q)) 4 24 (gA 78 q) := by
  refine g_ofWH (cc := cL_ask) (maxL := 4) (ret := (some .int)) (hh := hhA) (by decide +kernel) rfl ?_
  intro p e s m args below meth c s₁ B hml htab hv
  obtain ⟨rfl, ⟨hP, hO, hK⟩, hX, hNt⟩ := hv
  have hx := B.exec
  have hb := B.bytes
  have hr := B.returns
  have hlocks := B.notSynchronized
  have hts := atoms_spec (ws := wsL_ask) B.pre
  have hown : s.vm.findClass RL = some m.cls := findClass_of_methodNamed B.named
  have hS : va_S (gA 78 q) s.heap s.heap [] := va_S.rf
  have hl := lv_entry ([.ref (q 0), .int (99 : Int32), .ref a]) (n := 4) (Nat.le_of_ble_eq_true rfl)
  rw [lg_entry_eq]
  generalize (lg_sl ([.ref (q 0), .int (99 : Int32), .ref a]) ++ List.replicate (4 - (lg_sl ([.ref (q 0), .int (99 : Int32), .ref a])).length) Slot.unset).toArray = ls at hl ⊢
  have hl : lv_has ls 4 [(0, .ref (q 0)), (1, .int (99 : Int32)), (2, .ref a)] := hl
  refine lv_iload_n hx hb dL_ask_0 rfl (lv_at hl 1 rfl) ?_
  refine g_sw hx hb (off := 249) (tgt := 250) dL_ask_1 (by decide) (by decide) (by decide) ?_
  refine lv_aload_n hx hb dL_ask_250 rfl (lv_at hl 0 rfl) ?_
  refine lv_aload_n hx hb dL_ask_251 rfl (lv_at hl 2 rfl) ?_
  refine lv_iconst (v := (0 : Int32)) hx hb dL_ask_252 (by decide) ?_
  refine h_ild (j := 0) hx hb hK hO (by decide) rfl dL_ask_253 ?_
  rcases z with r1 | k1
  · refine h_cVi (As := [.int (f 0)]) (rest := []) hx hb hml hown hts hK hX (fun a h => h) hP hO (i_dis ha) hS (mX8_clear l hlf hJ hp) (cwV 1 hts gL_ask_X8_clear rfl rfl rfl nVX8_clear ⟨Nat.le_of_ble_eq_true rfl, Nat.le_of_ble_eq_true rfl⟩) (g_recv hK hP kk_Tri ce_Tri rfl) rfl hl.1 rfl (Nat.le_of_ble_eq_true rfl) dL_ask_254 ⟨Nat.le_of_ble_eq_true rfl, Nat.le_of_ble_eq_true rfl⟩ (fun H locs hP hO hS => ?_)
    refine W.widen (k := 4) (n := 24) (Nat.le_of_ble_eq_true rfl) (Nat.le_of_ble_eq_true rfl) ?_
    exact W.iret (v := r1) hx hb hr (fun t ht hW => ⟨⟨r1, (), rfl, rfl, by subst ht; exact hP⟩, hS.F ht⟩) hS.2.2 dL_ask_257
  · refine h_cVx (As := [.int (f 0)]) (rest := []) hx hb hml hown hts hK hX (fun a h => h) hP hO (i_dis ha) hS (mX8_clear l hlf hJ hp) (cwV 1 hts gL_ask_X8_clear rfl rfl rfl nVX8_clear ⟨Nat.le_of_ble_eq_true rfl, Nat.le_of_ble_eq_true rfl⟩) (g_recv hK hP kk_Tri ce_Tri rfl) rfl hl.1 rfl (Nat.le_of_ble_eq_true rfl) dL_ask_254 ⟨Nat.le_of_ble_eq_true rfl, Nat.le_of_ble_eq_true rfl⟩ (fun ce q9 H locs hP hO hS g1 g2 g3 => ?_)
    exact ask_end (hz k1 rfl) (by decide +kernel) hx hb hr hlocks hown hts hX hNt htab hl hP hS g1 g2 g3 (Nat.le_of_ble_eq_true rfl) (Nat.le_of_ble_eq_true rfl)
set_option maxHeartbeats 4000000 in
set_option maxRecDepth 100000 in
theorem mL_ask_slot {D : va_G} {cy : Nat → ClassId} {q : Nat → Nat} (l : Launch) (hlf : l.stackTraces = false) (hJ : gJ 78 q) {a : Nat} (ha : ¬ gA 78 q a) {f : Nat → Int32} {σ : TS} {z : Int32 ⊕ Nat} {u : TS} (hp : sX8_slot (f 0) (f 1) (f 2) σ = some (z, u)) (hz : okZ z) : Met l yL_ask wsL_ask rmL_ask (va_Pc [.ref (q 0), .int (83 : Int32), .ref a] (hPre D vwCl (tyL cy) (gS 78 q (TX cy q) σ) (iW a cy 3 f) (gA 78 q))) (gQi D vwCl (askR z) (gS 78 q (TX cy q) u) (gA 78 q)) 4 24 (gA 78 q) := by
  refine g_ofWH (cc := cL_ask) (maxL := 4) (ret := (some .int)) (hh := hhA) (by decide +kernel) rfl ?_
  intro p e s m args below meth c s₁ B hml htab hv
  obtain ⟨rfl, ⟨hP, hO, hK⟩, hX, hNt⟩ := hv
  have hx := B.exec
  have hb := B.bytes
  have hr := B.returns
  have hlocks := B.notSynchronized
  have hts := atoms_spec (ws := wsL_ask) B.pre
  have hown : s.vm.findClass RL = some m.cls := findClass_of_methodNamed B.named
  have hS : va_S (gA 78 q) s.heap s.heap [] := va_S.rf
  have hl := lv_entry ([.ref (q 0), .int (83 : Int32), .ref a]) (n := 4) (Nat.le_of_ble_eq_true rfl)
  rw [lg_entry_eq]
  generalize (lg_sl ([.ref (q 0), .int (83 : Int32), .ref a]) ++ List.replicate (4 - (lg_sl ([.ref (q 0), .int (83 : Int32), .ref a])).length) Slot.unset).toArray = ls at hl ⊢
  have hl : lv_has ls 4 [(0, .ref (q 0)), (1, .int (83 : Int32)), (2, .ref a)] := hl
  refine lv_iload_n hx hb dL_ask_0 rfl (lv_at hl 1 rfl) ?_
  refine g_sw hx hb (off := 257) (tgt := 258) dL_ask_1 (by decide) (by decide) (by decide) ?_
  refine lv_aload_n hx hb dL_ask_258 rfl (lv_at hl 0 rfl) ?_
  refine lv_aload_n hx hb dL_ask_259 rfl (lv_at hl 2 rfl) ?_
  refine lv_iconst (v := (0 : Int32)) hx hb dL_ask_260 (by decide) ?_
  refine h_ild (j := 0) hx hb hK hO (by decide) rfl dL_ask_261 ?_
  refine lv_aload_n hx hb dL_ask_262 rfl (lv_at hl 2 rfl) ?_
  refine lv_iconst (v := (1 : Int32)) hx hb dL_ask_263 (by decide) ?_
  refine h_ild (j := 1) hx hb hK hO (by decide) rfl dL_ask_264 ?_
  refine lv_aload_n hx hb dL_ask_265 rfl (lv_at hl 2 rfl) ?_
  refine lv_iconst (v := (2 : Int32)) hx hb dL_ask_266 (by decide) ?_
  refine h_ild (j := 2) hx hb hK hO (by decide) rfl dL_ask_267 ?_
  rcases z with r1 | k1
  · refine h_cVi (As := [.int (f 0), .int (f 1), .int (f 2)]) (rest := []) hx hb hml hown hts hK hX (fun a h => h) hP hO (i_dis ha) hS (mX8_slot l hlf hJ hp) (cwV 3 hts gL_ask_X8_slot rfl rfl rfl nVX8_slot ⟨Nat.le_of_ble_eq_true rfl, Nat.le_of_ble_eq_true rfl⟩) (g_recv hK hP kk_Tri ce_Tri rfl) rfl hl.1 rfl (Nat.le_of_ble_eq_true rfl) dL_ask_268 ⟨Nat.le_of_ble_eq_true rfl, Nat.le_of_ble_eq_true rfl⟩ (fun H locs hP hO hS => ?_)
    refine W.widen (k := 4) (n := 24) (Nat.le_of_ble_eq_true rfl) (Nat.le_of_ble_eq_true rfl) ?_
    exact W.iret (v := r1) hx hb hr (fun t ht hW => ⟨⟨r1, (), rfl, rfl, by subst ht; exact hP⟩, hS.F ht⟩) hS.2.2 dL_ask_271
  · refine h_cVx (As := [.int (f 0), .int (f 1), .int (f 2)]) (rest := []) hx hb hml hown hts hK hX (fun a h => h) hP hO (i_dis ha) hS (mX8_slot l hlf hJ hp) (cwV 3 hts gL_ask_X8_slot rfl rfl rfl nVX8_slot ⟨Nat.le_of_ble_eq_true rfl, Nat.le_of_ble_eq_true rfl⟩) (g_recv hK hP kk_Tri ce_Tri rfl) rfl hl.1 rfl (Nat.le_of_ble_eq_true rfl) dL_ask_268 ⟨Nat.le_of_ble_eq_true rfl, Nat.le_of_ble_eq_true rfl⟩ (fun ce q9 H locs hP hO hS g1 g2 g3 => ?_)
    exact ask_end (hz k1 rfl) (by decide +kernel) hx hb hr hlocks hown hts hX hNt htab hl hP hS g1 g2 g3 (Nat.le_of_ble_eq_true rfl) (Nat.le_of_ble_eq_true rfl)
set_option maxHeartbeats 4000000 in
set_option maxRecDepth 100000 in
theorem mL_ask_output {D : va_G} {cy : Nat → ClassId} {q : Nat → Nat} (l : Launch) (hlf : l.stackTraces = false) (hJ : gJ 78 q) {a : Nat} (ha : ¬ gA 78 q a) {f : Nat → Int32} {σ : TS} {z : Int32 ⊕ Nat} {u : TS} (hp : sX8_output (f 0) σ = some (z, u)) (hz : okZ z) : Met l yL_ask wsL_ask rmL_ask (va_Pc [.ref (q 0), .int (111 : Int32), .ref a] (hPre D vwCl (tyL cy) (gS 78 q (TX cy q) σ) (iW a cy 1 f) (gA 78 q))) (gQi D vwCl (askR z) (gS 78 q (TX cy q) u) (gA 78 q)) 4 24 (gA 78 q) := by
  refine g_ofWH (cc := cL_ask) (maxL := 4) (ret := (some .int)) (hh := hhA) (by decide +kernel) rfl ?_
  intro p e s m args below meth c s₁ B hml htab hv
  obtain ⟨rfl, ⟨hP, hO, hK⟩, hX, hNt⟩ := hv
  have hx := B.exec
  have hb := B.bytes
  have hr := B.returns
  have hlocks := B.notSynchronized
  have hts := atoms_spec (ws := wsL_ask) B.pre
  have hown : s.vm.findClass RL = some m.cls := findClass_of_methodNamed B.named
  have hS : va_S (gA 78 q) s.heap s.heap [] := va_S.rf
  have hl := lv_entry ([.ref (q 0), .int (111 : Int32), .ref a]) (n := 4) (Nat.le_of_ble_eq_true rfl)
  rw [lg_entry_eq]
  generalize (lg_sl ([.ref (q 0), .int (111 : Int32), .ref a]) ++ List.replicate (4 - (lg_sl ([.ref (q 0), .int (111 : Int32), .ref a])).length) Slot.unset).toArray = ls at hl ⊢
  have hl : lv_has ls 4 [(0, .ref (q 0)), (1, .int (111 : Int32)), (2, .ref a)] := hl
  refine lv_iload_n hx hb dL_ask_0 rfl (lv_at hl 1 rfl) ?_
  refine g_sw hx hb (off := 271) (tgt := 272) dL_ask_1 (by decide) (by decide) (by decide) ?_
  refine lv_aload_n hx hb dL_ask_272 rfl (lv_at hl 0 rfl) ?_
  refine lv_aload_n hx hb dL_ask_273 rfl (lv_at hl 2 rfl) ?_
  refine lv_iconst (v := (0 : Int32)) hx hb dL_ask_274 (by decide) ?_
  refine h_ild (j := 0) hx hb hK hO (by decide) rfl dL_ask_275 ?_
  rcases z with r1 | k1
  · refine h_cVi (As := [.int (f 0)]) (rest := []) hx hb hml hown hts hK hX (fun a h => h) hP hO (i_dis ha) hS (mX8_output l hlf hJ hp) (cwV 1 hts gL_ask_X8_output rfl rfl rfl nVX8_output ⟨Nat.le_of_ble_eq_true rfl, Nat.le_of_ble_eq_true rfl⟩) (g_recv hK hP kk_Tri ce_Tri rfl) rfl hl.1 rfl (Nat.le_of_ble_eq_true rfl) dL_ask_276 ⟨Nat.le_of_ble_eq_true rfl, Nat.le_of_ble_eq_true rfl⟩ (fun H locs hP hO hS => ?_)
    refine W.widen (k := 4) (n := 24) (Nat.le_of_ble_eq_true rfl) (Nat.le_of_ble_eq_true rfl) ?_
    exact W.iret (v := r1) hx hb hr (fun t ht hW => ⟨⟨r1, (), rfl, rfl, by subst ht; exact hP⟩, hS.F ht⟩) hS.2.2 dL_ask_279
  · refine h_cVx (As := [.int (f 0)]) (rest := []) hx hb hml hown hts hK hX (fun a h => h) hP hO (i_dis ha) hS (mX8_output l hlf hJ hp) (cwV 1 hts gL_ask_X8_output rfl rfl rfl nVX8_output ⟨Nat.le_of_ble_eq_true rfl, Nat.le_of_ble_eq_true rfl⟩) (g_recv hK hP kk_Tri ce_Tri rfl) rfl hl.1 rfl (Nat.le_of_ble_eq_true rfl) dL_ask_276 ⟨Nat.le_of_ble_eq_true rfl, Nat.le_of_ble_eq_true rfl⟩ (fun ce q9 H locs hP hO hS g1 g2 g3 => ?_)
    exact ask_end (hz k1 rfl) (by decide +kernel) hx hb hr hlocks hown hts hX hNt htab hl hP hS g1 g2 g3 (Nat.le_of_ble_eq_true rfl) (Nat.le_of_ble_eq_true rfl)
set_option maxHeartbeats 4000000 in
set_option maxRecDepth 100000 in
theorem mL_ask_plain {D : va_G} {cy : Nat → ClassId} {q : Nat → Nat} (l : Launch) (hlf : l.stackTraces = false) (hJ : gJ 78 q) {a : Nat} (ha : ¬ gA 78 q a) {f : Nat → Int32} {σ : TS} {z : Int32 ⊕ Nat} {u : TS} (hp : sX8_plain (f 0) σ = some (z, u)) (hz : okZ z) : Met l yL_ask wsL_ask rmL_ask (va_Pc [.ref (q 0), .int (112 : Int32), .ref a] (hPre D vwCl (tyL cy) (gS 78 q (TX cy q) σ) (iW a cy 1 f) (gA 78 q))) (gQi D vwCl (askR z) (gS 78 q (TX cy q) u) (gA 78 q)) 4 24 (gA 78 q) := by
  refine g_ofWH (cc := cL_ask) (maxL := 4) (ret := (some .int)) (hh := hhA) (by decide +kernel) rfl ?_
  intro p e s m args below meth c s₁ B hml htab hv
  obtain ⟨rfl, ⟨hP, hO, hK⟩, hX, hNt⟩ := hv
  have hx := B.exec
  have hb := B.bytes
  have hr := B.returns
  have hlocks := B.notSynchronized
  have hts := atoms_spec (ws := wsL_ask) B.pre
  have hown : s.vm.findClass RL = some m.cls := findClass_of_methodNamed B.named
  have hS : va_S (gA 78 q) s.heap s.heap [] := va_S.rf
  have hl := lv_entry ([.ref (q 0), .int (112 : Int32), .ref a]) (n := 4) (Nat.le_of_ble_eq_true rfl)
  rw [lg_entry_eq]
  generalize (lg_sl ([.ref (q 0), .int (112 : Int32), .ref a]) ++ List.replicate (4 - (lg_sl ([.ref (q 0), .int (112 : Int32), .ref a])).length) Slot.unset).toArray = ls at hl ⊢
  have hl : lv_has ls 4 [(0, .ref (q 0)), (1, .int (112 : Int32)), (2, .ref a)] := hl
  refine lv_iload_n hx hb dL_ask_0 rfl (lv_at hl 1 rfl) ?_
  refine g_sw hx hb (off := 279) (tgt := 280) dL_ask_1 (by decide) (by decide) (by decide) ?_
  refine lv_aload_n hx hb dL_ask_280 rfl (lv_at hl 0 rfl) ?_
  refine lv_aload_n hx hb dL_ask_281 rfl (lv_at hl 2 rfl) ?_
  refine lv_iconst (v := (0 : Int32)) hx hb dL_ask_282 (by decide) ?_
  refine h_ild (j := 0) hx hb hK hO (by decide) rfl dL_ask_283 ?_
  rcases z with r1 | k1
  · refine h_cVi (As := [.int (f 0)]) (rest := []) hx hb hml hown hts hK hX (fun a h => h) hP hO (i_dis ha) hS (mX8_plain l hlf hJ hp) (cwV 1 hts gL_ask_X8_plain rfl rfl rfl nVX8_plain ⟨Nat.le_of_ble_eq_true rfl, Nat.le_of_ble_eq_true rfl⟩) (g_recv hK hP kk_Tri ce_Tri rfl) rfl hl.1 rfl (Nat.le_of_ble_eq_true rfl) dL_ask_284 ⟨Nat.le_of_ble_eq_true rfl, Nat.le_of_ble_eq_true rfl⟩ (fun H locs hP hO hS => ?_)
    refine W.widen (k := 4) (n := 24) (Nat.le_of_ble_eq_true rfl) (Nat.le_of_ble_eq_true rfl) ?_
    exact W.iret (v := r1) hx hb hr (fun t ht hW => ⟨⟨r1, (), rfl, rfl, by subst ht; exact hP⟩, hS.F ht⟩) hS.2.2 dL_ask_287
  · refine h_cVx (As := [.int (f 0)]) (rest := []) hx hb hml hown hts hK hX (fun a h => h) hP hO (i_dis ha) hS (mX8_plain l hlf hJ hp) (cwV 1 hts gL_ask_X8_plain rfl rfl rfl nVX8_plain ⟨Nat.le_of_ble_eq_true rfl, Nat.le_of_ble_eq_true rfl⟩) (g_recv hK hP kk_Tri ce_Tri rfl) rfl hl.1 rfl (Nat.le_of_ble_eq_true rfl) dL_ask_284 ⟨Nat.le_of_ble_eq_true rfl, Nat.le_of_ble_eq_true rfl⟩ (fun ce q9 H locs hP hO hS g1 g2 g3 => ?_)
    exact ask_end (hz k1 rfl) (by decide +kernel) hx hb hr hlocks hown hts hX hNt htab hl hP hS g1 g2 g3 (Nat.le_of_ble_eq_true rfl) (Nat.le_of_ble_eq_true rfl)
set_option maxHeartbeats 4000000 in
set_option maxRecDepth 100000 in
theorem mL_ask_word {D : va_G} {cy : Nat → ClassId} {q : Nat → Nat} (l : Launch) (hlf : l.stackTraces = false) (hJ : gJ 78 q) {a : Nat} (ha : ¬ gA 78 q a) {f : Nat → Int32} {σ : TS} {z : Int32 ⊕ Nat} {u : TS} (hp : sX8_word (f 0) (f 1) (f 2) σ = some (z, u)) (hz : okZ z) : Met l yL_ask wsL_ask rmL_ask (va_Pc [.ref (q 0), .int (119 : Int32), .ref a] (hPre D vwCl (tyL cy) (gS 78 q (TX cy q) σ) (iW a cy 3 f) (gA 78 q))) (gQi D vwCl (askR z) (gS 78 q (TX cy q) u) (gA 78 q)) 4 24 (gA 78 q) := by
  refine g_ofWH (cc := cL_ask) (maxL := 4) (ret := (some .int)) (hh := hhA) (by decide +kernel) rfl ?_
  intro p e s m args below meth c s₁ B hml htab hv
  obtain ⟨rfl, ⟨hP, hO, hK⟩, hX, hNt⟩ := hv
  have hx := B.exec
  have hb := B.bytes
  have hr := B.returns
  have hlocks := B.notSynchronized
  have hts := atoms_spec (ws := wsL_ask) B.pre
  have hown : s.vm.findClass RL = some m.cls := findClass_of_methodNamed B.named
  have hS : va_S (gA 78 q) s.heap s.heap [] := va_S.rf
  have hl := lv_entry ([.ref (q 0), .int (119 : Int32), .ref a]) (n := 4) (Nat.le_of_ble_eq_true rfl)
  rw [lg_entry_eq]
  generalize (lg_sl ([.ref (q 0), .int (119 : Int32), .ref a]) ++ List.replicate (4 - (lg_sl ([.ref (q 0), .int (119 : Int32), .ref a])).length) Slot.unset).toArray = ls at hl ⊢
  have hl : lv_has ls 4 [(0, .ref (q 0)), (1, .int (119 : Int32)), (2, .ref a)] := hl
  refine lv_iload_n hx hb dL_ask_0 rfl (lv_at hl 1 rfl) ?_
  refine g_sw hx hb (off := 287) (tgt := 288) dL_ask_1 (by decide) (by decide) (by decide) ?_
  refine lv_aload_n hx hb dL_ask_288 rfl (lv_at hl 0 rfl) ?_
  refine lv_aload_n hx hb dL_ask_289 rfl (lv_at hl 2 rfl) ?_
  refine lv_iconst (v := (0 : Int32)) hx hb dL_ask_290 (by decide) ?_
  refine h_ild (j := 0) hx hb hK hO (by decide) rfl dL_ask_291 ?_
  refine lv_aload_n hx hb dL_ask_292 rfl (lv_at hl 2 rfl) ?_
  refine lv_iconst (v := (1 : Int32)) hx hb dL_ask_293 (by decide) ?_
  refine h_ild (j := 1) hx hb hK hO (by decide) rfl dL_ask_294 ?_
  refine lv_aload_n hx hb dL_ask_295 rfl (lv_at hl 2 rfl) ?_
  refine lv_iconst (v := (2 : Int32)) hx hb dL_ask_296 (by decide) ?_
  refine h_ild (j := 2) hx hb hK hO (by decide) rfl dL_ask_297 ?_
  rcases z with r1 | k1
  · refine h_cVi (As := [.int (f 0), .int (f 1), .int (f 2)]) (rest := []) hx hb hml hown hts hK hX (fun a h => h) hP hO (i_dis ha) hS (mX8_word l hlf hJ hp) (cwV 3 hts gL_ask_X8_word rfl rfl rfl nVX8_word ⟨Nat.le_of_ble_eq_true rfl, Nat.le_of_ble_eq_true rfl⟩) (g_recv hK hP kk_Tri ce_Tri rfl) rfl hl.1 rfl (Nat.le_of_ble_eq_true rfl) dL_ask_298 ⟨Nat.le_of_ble_eq_true rfl, Nat.le_of_ble_eq_true rfl⟩ (fun H locs hP hO hS => ?_)
    refine W.widen (k := 4) (n := 24) (Nat.le_of_ble_eq_true rfl) (Nat.le_of_ble_eq_true rfl) ?_
    exact W.iret (v := r1) hx hb hr (fun t ht hW => ⟨⟨r1, (), rfl, rfl, by subst ht; exact hP⟩, hS.F ht⟩) hS.2.2 dL_ask_301
  · refine h_cVx (As := [.int (f 0), .int (f 1), .int (f 2)]) (rest := []) hx hb hml hown hts hK hX (fun a h => h) hP hO (i_dis ha) hS (mX8_word l hlf hJ hp) (cwV 3 hts gL_ask_X8_word rfl rfl rfl nVX8_word ⟨Nat.le_of_ble_eq_true rfl, Nat.le_of_ble_eq_true rfl⟩) (g_recv hK hP kk_Tri ce_Tri rfl) rfl hl.1 rfl (Nat.le_of_ble_eq_true rfl) dL_ask_298 ⟨Nat.le_of_ble_eq_true rfl, Nat.le_of_ble_eq_true rfl⟩ (fun ce q9 H locs hP hO hS g1 g2 g3 => ?_)
    exact ask_end (hz k1 rfl) (by decide +kernel) hx hb hr hlocks hown hts hX hNt htab hl hP hS g1 g2 g3 (Nat.le_of_ble_eq_true rfl) (Nat.le_of_ble_eq_true rfl)
set_option maxHeartbeats 4000000 in
set_option maxRecDepth 100000 in
theorem mL_ask_flip {D : va_G} {cy : Nat → ClassId} {q : Nat → Nat} (l : Launch) (hlf : l.stackTraces = false) (hJ : gJ 78 q) {a : Nat} (ha : ¬ gA 78 q a) {f : Nat → Int32} {σ : TS} {z : Int32 ⊕ Nat} {u : TS} (hp : sX8_flip (f 0) (f 1) (f 2) (f 3) σ = some (z, u)) (hz : okZ z) : Met l yL_ask wsL_ask rmL_ask (va_Pc [.ref (q 0), .int (102 : Int32), .ref a] (hPre D vwCl (tyL cy) (gS 78 q (TX cy q) σ) (iW a cy 4 f) (gA 78 q))) (gQi D vwCl (askR z) (gS 78 q (TX cy q) u) (gA 78 q)) 4 24 (gA 78 q) := by
  refine g_ofWH (cc := cL_ask) (maxL := 4) (ret := (some .int)) (hh := hhA) (by decide +kernel) rfl ?_
  intro p e s m args below meth c s₁ B hml htab hv
  obtain ⟨rfl, ⟨hP, hO, hK⟩, hX, hNt⟩ := hv
  have hx := B.exec
  have hb := B.bytes
  have hr := B.returns
  have hlocks := B.notSynchronized
  have hts := atoms_spec (ws := wsL_ask) B.pre
  have hown : s.vm.findClass RL = some m.cls := findClass_of_methodNamed B.named
  have hS : va_S (gA 78 q) s.heap s.heap [] := va_S.rf
  have hl := lv_entry ([.ref (q 0), .int (102 : Int32), .ref a]) (n := 4) (Nat.le_of_ble_eq_true rfl)
  rw [lg_entry_eq]
  generalize (lg_sl ([.ref (q 0), .int (102 : Int32), .ref a]) ++ List.replicate (4 - (lg_sl ([.ref (q 0), .int (102 : Int32), .ref a])).length) Slot.unset).toArray = ls at hl ⊢
  have hl : lv_has ls 4 [(0, .ref (q 0)), (1, .int (102 : Int32)), (2, .ref a)] := hl
  refine lv_iload_n hx hb dL_ask_0 rfl (lv_at hl 1 rfl) ?_
  refine g_sw hx hb (off := 301) (tgt := 302) dL_ask_1 (by decide) (by decide) (by decide) ?_
  refine lv_aload_n hx hb dL_ask_302 rfl (lv_at hl 0 rfl) ?_
  refine lv_aload_n hx hb dL_ask_303 rfl (lv_at hl 2 rfl) ?_
  refine lv_iconst (v := (0 : Int32)) hx hb dL_ask_304 (by decide) ?_
  refine h_ild (j := 0) hx hb hK hO (by decide) rfl dL_ask_305 ?_
  refine lv_aload_n hx hb dL_ask_306 rfl (lv_at hl 2 rfl) ?_
  refine lv_iconst (v := (1 : Int32)) hx hb dL_ask_307 (by decide) ?_
  refine h_ild (j := 1) hx hb hK hO (by decide) rfl dL_ask_308 ?_
  refine lv_aload_n hx hb dL_ask_309 rfl (lv_at hl 2 rfl) ?_
  refine lv_iconst (v := (2 : Int32)) hx hb dL_ask_310 (by decide) ?_
  refine h_ild (j := 2) hx hb hK hO (by decide) rfl dL_ask_311 ?_
  refine lv_aload_n hx hb dL_ask_312 rfl (lv_at hl 2 rfl) ?_
  refine lv_iconst (v := (3 : Int32)) hx hb dL_ask_313 (by decide) ?_
  refine h_ild (j := 3) hx hb hK hO (by decide) rfl dL_ask_314 ?_
  rcases z with r1 | k1
  · refine h_cVi (As := [.int (f 0), .int (f 1), .int (f 2), .int (f 3)]) (rest := []) hx hb hml hown hts hK hX (fun a h => h) hP hO (i_dis ha) hS (mX8_flip l hlf hJ hp) (cwV 4 hts gL_ask_X8_flip rfl rfl rfl nVX8_flip ⟨Nat.le_of_ble_eq_true rfl, Nat.le_of_ble_eq_true rfl⟩) (g_recv hK hP kk_Tri ce_Tri rfl) rfl hl.1 rfl (Nat.le_of_ble_eq_true rfl) dL_ask_315 ⟨Nat.le_of_ble_eq_true rfl, Nat.le_of_ble_eq_true rfl⟩ (fun H locs hP hO hS => ?_)
    refine W.widen (k := 4) (n := 24) (Nat.le_of_ble_eq_true rfl) (Nat.le_of_ble_eq_true rfl) ?_
    exact W.iret (v := r1) hx hb hr (fun t ht hW => ⟨⟨r1, (), rfl, rfl, by subst ht; exact hP⟩, hS.F ht⟩) hS.2.2 dL_ask_318
  · refine h_cVx (As := [.int (f 0), .int (f 1), .int (f 2), .int (f 3)]) (rest := []) hx hb hml hown hts hK hX (fun a h => h) hP hO (i_dis ha) hS (mX8_flip l hlf hJ hp) (cwV 4 hts gL_ask_X8_flip rfl rfl rfl nVX8_flip ⟨Nat.le_of_ble_eq_true rfl, Nat.le_of_ble_eq_true rfl⟩) (g_recv hK hP kk_Tri ce_Tri rfl) rfl hl.1 rfl (Nat.le_of_ble_eq_true rfl) dL_ask_315 ⟨Nat.le_of_ble_eq_true rfl, Nat.le_of_ble_eq_true rfl⟩ (fun ce q9 H locs hP hO hS g1 g2 g3 => ?_)
    exact ask_end (hz k1 rfl) (by decide +kernel) hx hb hr hlocks hown hts hX hNt htab hl hP hS g1 g2 g3 (Nat.le_of_ble_eq_true rfl) (Nat.le_of_ble_eq_true rfl)
set_option maxHeartbeats 4000000 in
set_option maxRecDepth 100000 in
theorem mL_ask_stick {D : va_G} {cy : Nat → ClassId} {q : Nat → Nat} (l : Launch) (hlf : l.stackTraces = false) (hJ : gJ 78 q) {a : Nat} (ha : ¬ gA 78 q a) {f : Nat → Int32} {σ : TS} {z : Int32 ⊕ Nat} {u : TS} (hp : sX8_stick (f 0) (f 1) (f 2) (if f 3 = 1 then 1 else 0) σ = some (z, u)) (hz : okZ z) : Met l yL_ask wsL_ask rmL_ask (va_Pc [.ref (q 0), .int (107 : Int32), .ref a] (hPre D vwCl (tyL cy) (gS 78 q (TX cy q) σ) (iW a cy 4 f) (gA 78 q))) (gQi D vwCl (askR (zB z)) (gS 78 q (TX cy q) u) (gA 78 q)) 4 24 (gA 78 q) := by
  refine g_ofWH (cc := cL_ask) (maxL := 4) (ret := (some .int)) (hh := hhA) (by decide +kernel) rfl ?_
  intro p e s m args below meth c s₁ B hml htab hv
  obtain ⟨rfl, ⟨hP, hO, hK⟩, hX, hNt⟩ := hv
  have hx := B.exec
  have hb := B.bytes
  have hr := B.returns
  have hlocks := B.notSynchronized
  have hts := atoms_spec (ws := wsL_ask) B.pre
  have hown : s.vm.findClass RL = some m.cls := findClass_of_methodNamed B.named
  have hS : va_S (gA 78 q) s.heap s.heap [] := va_S.rf
  have hl := lv_entry ([.ref (q 0), .int (107 : Int32), .ref a]) (n := 4) (Nat.le_of_ble_eq_true rfl)
  rw [lg_entry_eq]
  generalize (lg_sl ([.ref (q 0), .int (107 : Int32), .ref a]) ++ List.replicate (4 - (lg_sl ([.ref (q 0), .int (107 : Int32), .ref a])).length) Slot.unset).toArray = ls at hl ⊢
  have hl : lv_has ls 4 [(0, .ref (q 0)), (1, .int (107 : Int32)), (2, .ref a)] := hl
  refine lv_iload_n hx hb dL_ask_0 rfl (lv_at hl 1 rfl) ?_
  refine g_sw hx hb (off := 318) (tgt := 319) dL_ask_1 (by decide) (by decide) (by decide) ?_
  refine lv_aload_n hx hb dL_ask_319 rfl (lv_at hl 0 rfl) ?_
  refine lv_aload_n hx hb dL_ask_320 rfl (lv_at hl 2 rfl) ?_
  refine lv_iconst (v := (0 : Int32)) hx hb dL_ask_321 (by decide) ?_
  refine h_ild (j := 0) hx hb hK hO (by decide) rfl dL_ask_322 ?_
  refine lv_aload_n hx hb dL_ask_323 rfl (lv_at hl 2 rfl) ?_
  refine lv_iconst (v := (1 : Int32)) hx hb dL_ask_324 (by decide) ?_
  refine h_ild (j := 1) hx hb hK hO (by decide) rfl dL_ask_325 ?_
  refine lv_aload_n hx hb dL_ask_326 rfl (lv_at hl 2 rfl) ?_
  refine lv_iconst (v := (2 : Int32)) hx hb dL_ask_327 (by decide) ?_
  refine h_ild (j := 2) hx hb hK hO (by decide) rfl dL_ask_328 ?_
  refine lv_aload_n hx hb dL_ask_329 rfl (lv_at hl 2 rfl) ?_
  refine lv_iconst (v := (3 : Int32)) hx hb dL_ask_330 (by decide) ?_
  refine h_ild (j := 3) hx hb hK hO (by decide) rfl dL_ask_331 ?_
  refine lv_iconst (v := (1 : Int32)) hx hb dL_ask_332 (by decide) ?_
  refine lv_icmp_ne (tgt := 340) hx hb dL_ask_333 (by decide) (fun hn => ?_) (fun hn => ?_)
  · rw [if_neg hn] at hp
    refine lv_iconst (v := (0 : Int32)) hx hb dL_ask_340 (by decide) ?_
    rcases z with r1 | k1
    · refine h_cVi (As := [.int (f 0), .int (f 1), .int (f 2), .int (0 : Int32)]) (rest := []) hx hb hml hown hts hK hX (fun a h => h) hP hO (i_dis ha) hS (mX8_stick l hlf hJ hp) (cwV 4 hts gL_ask_X8_stick rfl rfl rfl nVX8_stick ⟨Nat.le_of_ble_eq_true rfl, Nat.le_of_ble_eq_true rfl⟩) (g_recv hK hP kk_Tri ce_Tri rfl) rfl hl.1 rfl (Nat.le_of_ble_eq_true rfl) dL_ask_341 ⟨Nat.le_of_ble_eq_true rfl, Nat.le_of_ble_eq_true rfl⟩ (fun H locs hP hO hS => ?_)
      refine lv_if_eq (tgt := 351) hx hb dL_ask_344 (by decide) (fun h0 => ?_) (fun h0 => ?_)
      · refine lv_iconst (v := (0 : Int32)) hx hb dL_ask_351 (by decide) ?_
        refine W.widen (k := 4) (n := 24) (Nat.le_of_ble_eq_true rfl) (Nat.le_of_ble_eq_true rfl) ?_
        exact W.iret (v := (0 : Int32)) hx hb hr (fun t ht hW => ⟨⟨(0 : Int32), (), rfl, (if_pos h0).symm, by subst ht; exact hP⟩, hS.F ht⟩) hS.2.2 dL_ask_352
      · refine lv_iconst (v := (1 : Int32)) hx hb dL_ask_347 (by decide) ?_
        refine lv_goto (tgt := 352) hx hb dL_ask_348 (by decide) ?_
        refine W.widen (k := 4) (n := 24) (Nat.le_of_ble_eq_true rfl) (Nat.le_of_ble_eq_true rfl) ?_
        exact W.iret (v := (1 : Int32)) hx hb hr (fun t ht hW => ⟨⟨(1 : Int32), (), rfl, (if_neg h0).symm, by subst ht; exact hP⟩, hS.F ht⟩) hS.2.2 dL_ask_352
    · refine h_cVx (As := [.int (f 0), .int (f 1), .int (f 2), .int (0 : Int32)]) (rest := []) hx hb hml hown hts hK hX (fun a h => h) hP hO (i_dis ha) hS (mX8_stick l hlf hJ hp) (cwV 4 hts gL_ask_X8_stick rfl rfl rfl nVX8_stick ⟨Nat.le_of_ble_eq_true rfl, Nat.le_of_ble_eq_true rfl⟩) (g_recv hK hP kk_Tri ce_Tri rfl) rfl hl.1 rfl (Nat.le_of_ble_eq_true rfl) dL_ask_341 ⟨Nat.le_of_ble_eq_true rfl, Nat.le_of_ble_eq_true rfl⟩ (fun ce q9 H locs hP hO hS g1 g2 g3 => ?_)
      exact ask_end (hz k1 rfl) (by decide +kernel) hx hb hr hlocks hown hts hX hNt htab hl hP hS g1 g2 g3 (Nat.le_of_ble_eq_true rfl) (Nat.le_of_ble_eq_true rfl)
  · rw [if_pos hn] at hp
    refine lv_iconst (v := (1 : Int32)) hx hb dL_ask_336 (by decide) ?_
    refine lv_goto (tgt := 341) hx hb dL_ask_337 (by decide) ?_
    rcases z with r1 | k1
    · refine h_cVi (As := [.int (f 0), .int (f 1), .int (f 2), .int (1 : Int32)]) (rest := []) hx hb hml hown hts hK hX (fun a h => h) hP hO (i_dis ha) hS (mX8_stick l hlf hJ hp) (cwV 4 hts gL_ask_X8_stick rfl rfl rfl nVX8_stick ⟨Nat.le_of_ble_eq_true rfl, Nat.le_of_ble_eq_true rfl⟩) (g_recv hK hP kk_Tri ce_Tri rfl) rfl hl.1 rfl (Nat.le_of_ble_eq_true rfl) dL_ask_341 ⟨Nat.le_of_ble_eq_true rfl, Nat.le_of_ble_eq_true rfl⟩ (fun H locs hP hO hS => ?_)
      refine lv_if_eq (tgt := 351) hx hb dL_ask_344 (by decide) (fun h0 => ?_) (fun h0 => ?_)
      · refine lv_iconst (v := (0 : Int32)) hx hb dL_ask_351 (by decide) ?_
        refine W.widen (k := 4) (n := 24) (Nat.le_of_ble_eq_true rfl) (Nat.le_of_ble_eq_true rfl) ?_
        exact W.iret (v := (0 : Int32)) hx hb hr (fun t ht hW => ⟨⟨(0 : Int32), (), rfl, (if_pos h0).symm, by subst ht; exact hP⟩, hS.F ht⟩) hS.2.2 dL_ask_352
      · refine lv_iconst (v := (1 : Int32)) hx hb dL_ask_347 (by decide) ?_
        refine lv_goto (tgt := 352) hx hb dL_ask_348 (by decide) ?_
        refine W.widen (k := 4) (n := 24) (Nat.le_of_ble_eq_true rfl) (Nat.le_of_ble_eq_true rfl) ?_
        exact W.iret (v := (1 : Int32)) hx hb hr (fun t ht hW => ⟨⟨(1 : Int32), (), rfl, (if_neg h0).symm, by subst ht; exact hP⟩, hS.F ht⟩) hS.2.2 dL_ask_352
    · refine h_cVx (As := [.int (f 0), .int (f 1), .int (f 2), .int (1 : Int32)]) (rest := []) hx hb hml hown hts hK hX (fun a h => h) hP hO (i_dis ha) hS (mX8_stick l hlf hJ hp) (cwV 4 hts gL_ask_X8_stick rfl rfl rfl nVX8_stick ⟨Nat.le_of_ble_eq_true rfl, Nat.le_of_ble_eq_true rfl⟩) (g_recv hK hP kk_Tri ce_Tri rfl) rfl hl.1 rfl (Nat.le_of_ble_eq_true rfl) dL_ask_341 ⟨Nat.le_of_ble_eq_true rfl, Nat.le_of_ble_eq_true rfl⟩ (fun ce q9 H locs hP hO hS g1 g2 g3 => ?_)
      exact ask_end (hz k1 rfl) (by decide +kernel) hx hb hr hlocks hown hts hX hNt htab hl hP hS g1 g2 g3 (Nat.le_of_ble_eq_true rfl) (Nat.le_of_ble_eq_true rfl)
set_option maxHeartbeats 4000000 in
set_option maxRecDepth 100000 in
theorem mL_ask_fix {D : va_G} {cy : Nat → ClassId} {q : Nat → Nat} (l : Launch) (hlf : l.stackTraces = false) (hJ : gJ 78 q) {a : Nat} (ha : ¬ gA 78 q a) {f : Nat → Int32} {σ : TS} {z : Int32 ⊕ Nat} {u : TS} (hp : sX8_fix (f 0) σ = some (z, u)) (hz : okZ z) : Met l yL_ask wsL_ask rmL_ask (va_Pc [.ref (q 0), .int (120 : Int32), .ref a] (hPre D vwCl (tyL cy) (gS 78 q (TX cy q) σ) (iW a cy 1 f) (gA 78 q))) (gQi D vwCl (askR (zB z)) (gS 78 q (TX cy q) u) (gA 78 q)) 4 24 (gA 78 q) := by
  refine g_ofWH (cc := cL_ask) (maxL := 4) (ret := (some .int)) (hh := hhA) (by decide +kernel) rfl ?_
  intro p e s m args below meth c s₁ B hml htab hv
  obtain ⟨rfl, ⟨hP, hO, hK⟩, hX, hNt⟩ := hv
  have hx := B.exec
  have hb := B.bytes
  have hr := B.returns
  have hlocks := B.notSynchronized
  have hts := atoms_spec (ws := wsL_ask) B.pre
  have hown : s.vm.findClass RL = some m.cls := findClass_of_methodNamed B.named
  have hS : va_S (gA 78 q) s.heap s.heap [] := va_S.rf
  have hl := lv_entry ([.ref (q 0), .int (120 : Int32), .ref a]) (n := 4) (Nat.le_of_ble_eq_true rfl)
  rw [lg_entry_eq]
  generalize (lg_sl ([.ref (q 0), .int (120 : Int32), .ref a]) ++ List.replicate (4 - (lg_sl ([.ref (q 0), .int (120 : Int32), .ref a])).length) Slot.unset).toArray = ls at hl ⊢
  have hl : lv_has ls 4 [(0, .ref (q 0)), (1, .int (120 : Int32)), (2, .ref a)] := hl
  refine lv_iload_n hx hb dL_ask_0 rfl (lv_at hl 1 rfl) ?_
  refine g_sw hx hb (off := 352) (tgt := 353) dL_ask_1 (by decide) (by decide) (by decide) ?_
  refine lv_aload_n hx hb dL_ask_353 rfl (lv_at hl 0 rfl) ?_
  refine lv_aload_n hx hb dL_ask_354 rfl (lv_at hl 2 rfl) ?_
  refine lv_iconst (v := (0 : Int32)) hx hb dL_ask_355 (by decide) ?_
  refine h_ild (j := 0) hx hb hK hO (by decide) rfl dL_ask_356 ?_
  rcases z with r1 | k1
  · refine h_cVi (As := [.int (f 0)]) (rest := []) hx hb hml hown hts hK hX (fun a h => h) hP hO (i_dis ha) hS (mX8_fix l hlf hJ hp) (cwV 1 hts gL_ask_X8_fix rfl rfl rfl nVX8_fix ⟨Nat.le_of_ble_eq_true rfl, Nat.le_of_ble_eq_true rfl⟩) (g_recv hK hP kk_Tri ce_Tri rfl) rfl hl.1 rfl (Nat.le_of_ble_eq_true rfl) dL_ask_357 ⟨Nat.le_of_ble_eq_true rfl, Nat.le_of_ble_eq_true rfl⟩ (fun H locs hP hO hS => ?_)
    refine lv_if_eq (tgt := 367) hx hb dL_ask_360 (by decide) (fun h0 => ?_) (fun h0 => ?_)
    · refine lv_iconst (v := (0 : Int32)) hx hb dL_ask_367 (by decide) ?_
      refine W.widen (k := 4) (n := 24) (Nat.le_of_ble_eq_true rfl) (Nat.le_of_ble_eq_true rfl) ?_
      exact W.iret (v := (0 : Int32)) hx hb hr (fun t ht hW => ⟨⟨(0 : Int32), (), rfl, (if_pos h0).symm, by subst ht; exact hP⟩, hS.F ht⟩) hS.2.2 dL_ask_368
    · refine lv_iconst (v := (1 : Int32)) hx hb dL_ask_363 (by decide) ?_
      refine lv_goto (tgt := 368) hx hb dL_ask_364 (by decide) ?_
      refine W.widen (k := 4) (n := 24) (Nat.le_of_ble_eq_true rfl) (Nat.le_of_ble_eq_true rfl) ?_
      exact W.iret (v := (1 : Int32)) hx hb hr (fun t ht hW => ⟨⟨(1 : Int32), (), rfl, (if_neg h0).symm, by subst ht; exact hP⟩, hS.F ht⟩) hS.2.2 dL_ask_368
  · refine h_cVx (As := [.int (f 0)]) (rest := []) hx hb hml hown hts hK hX (fun a h => h) hP hO (i_dis ha) hS (mX8_fix l hlf hJ hp) (cwV 1 hts gL_ask_X8_fix rfl rfl rfl nVX8_fix ⟨Nat.le_of_ble_eq_true rfl, Nat.le_of_ble_eq_true rfl⟩) (g_recv hK hP kk_Tri ce_Tri rfl) rfl hl.1 rfl (Nat.le_of_ble_eq_true rfl) dL_ask_357 ⟨Nat.le_of_ble_eq_true rfl, Nat.le_of_ble_eq_true rfl⟩ (fun ce q9 H locs hP hO hS g1 g2 g3 => ?_)
    exact ask_end (hz k1 rfl) (by decide +kernel) hx hb hr hlocks hown hts hX hNt htab hl hP hS g1 g2 g3 (Nat.le_of_ble_eq_true rfl) (Nat.le_of_ble_eq_true rfl)
set_option maxHeartbeats 4000000 in
set_option maxRecDepth 100000 in
theorem mL_ask_isOn {D : va_G} {cy : Nat → ClassId} {q : Nat → Nat} (l : Launch) (hlf : l.stackTraces = false) (hJ : gJ 78 q) {a : Nat} (ha : ¬ gA 78 q a) {f : Nat → Int32} {σ : TS} {z : Int32 ⊕ Nat} {u : TS} (hp : sX8_isOn (f 0) σ = some (z, u)) (hz : okZ z) : Met l yL_ask wsL_ask rmL_ask (va_Pc [.ref (q 0), .int (110 : Int32), .ref a] (hPre D vwCl (tyL cy) (gS 78 q (TX cy q) σ) (iW a cy 1 f) (gA 78 q))) (gQi D vwCl (askR (zB z)) (gS 78 q (TX cy q) u) (gA 78 q)) 4 24 (gA 78 q) := by
  refine g_ofWH (cc := cL_ask) (maxL := 4) (ret := (some .int)) (hh := hhA) (by decide +kernel) rfl ?_
  intro p e s m args below meth c s₁ B hml htab hv
  obtain ⟨rfl, ⟨hP, hO, hK⟩, hX, hNt⟩ := hv
  have hx := B.exec
  have hb := B.bytes
  have hr := B.returns
  have hlocks := B.notSynchronized
  have hts := atoms_spec (ws := wsL_ask) B.pre
  have hown : s.vm.findClass RL = some m.cls := findClass_of_methodNamed B.named
  have hS : va_S (gA 78 q) s.heap s.heap [] := va_S.rf
  have hl := lv_entry ([.ref (q 0), .int (110 : Int32), .ref a]) (n := 4) (Nat.le_of_ble_eq_true rfl)
  rw [lg_entry_eq]
  generalize (lg_sl ([.ref (q 0), .int (110 : Int32), .ref a]) ++ List.replicate (4 - (lg_sl ([.ref (q 0), .int (110 : Int32), .ref a])).length) Slot.unset).toArray = ls at hl ⊢
  have hl : lv_has ls 4 [(0, .ref (q 0)), (1, .int (110 : Int32)), (2, .ref a)] := hl
  refine lv_iload_n hx hb dL_ask_0 rfl (lv_at hl 1 rfl) ?_
  refine g_sw hx hb (off := 368) (tgt := 369) dL_ask_1 (by decide) (by decide) (by decide) ?_
  refine lv_aload_n hx hb dL_ask_369 rfl (lv_at hl 0 rfl) ?_
  refine lv_aload_n hx hb dL_ask_370 rfl (lv_at hl 2 rfl) ?_
  refine lv_iconst (v := (0 : Int32)) hx hb dL_ask_371 (by decide) ?_
  refine h_ild (j := 0) hx hb hK hO (by decide) rfl dL_ask_372 ?_
  rcases z with r1 | k1
  · refine h_cVi (As := [.int (f 0)]) (rest := []) hx hb hml hown hts hK hX (fun a h => h) hP hO (i_dis ha) hS (mX8_isOn l hlf hJ hp) (cwV 1 hts gL_ask_X8_isOn rfl rfl rfl nVX8_isOn ⟨Nat.le_of_ble_eq_true rfl, Nat.le_of_ble_eq_true rfl⟩) (g_recv hK hP kk_Tri ce_Tri rfl) rfl hl.1 rfl (Nat.le_of_ble_eq_true rfl) dL_ask_373 ⟨Nat.le_of_ble_eq_true rfl, Nat.le_of_ble_eq_true rfl⟩ (fun H locs hP hO hS => ?_)
    refine lv_if_eq (tgt := 383) hx hb dL_ask_376 (by decide) (fun h0 => ?_) (fun h0 => ?_)
    · refine lv_iconst (v := (0 : Int32)) hx hb dL_ask_383 (by decide) ?_
      refine W.widen (k := 4) (n := 24) (Nat.le_of_ble_eq_true rfl) (Nat.le_of_ble_eq_true rfl) ?_
      exact W.iret (v := (0 : Int32)) hx hb hr (fun t ht hW => ⟨⟨(0 : Int32), (), rfl, (if_pos h0).symm, by subst ht; exact hP⟩, hS.F ht⟩) hS.2.2 dL_ask_384
    · refine lv_iconst (v := (1 : Int32)) hx hb dL_ask_379 (by decide) ?_
      refine lv_goto (tgt := 384) hx hb dL_ask_380 (by decide) ?_
      refine W.widen (k := 4) (n := 24) (Nat.le_of_ble_eq_true rfl) (Nat.le_of_ble_eq_true rfl) ?_
      exact W.iret (v := (1 : Int32)) hx hb hr (fun t ht hW => ⟨⟨(1 : Int32), (), rfl, (if_neg h0).symm, by subst ht; exact hP⟩, hS.F ht⟩) hS.2.2 dL_ask_384
  · refine h_cVx (As := [.int (f 0)]) (rest := []) hx hb hml hown hts hK hX (fun a h => h) hP hO (i_dis ha) hS (mX8_isOn l hlf hJ hp) (cwV 1 hts gL_ask_X8_isOn rfl rfl rfl nVX8_isOn ⟨Nat.le_of_ble_eq_true rfl, Nat.le_of_ble_eq_true rfl⟩) (g_recv hK hP kk_Tri ce_Tri rfl) rfl hl.1 rfl (Nat.le_of_ble_eq_true rfl) dL_ask_373 ⟨Nat.le_of_ble_eq_true rfl, Nat.le_of_ble_eq_true rfl⟩ (fun ce q9 H locs hP hO hS g1 g2 g3 => ?_)
    exact ask_end (hz k1 rfl) (by decide +kernel) hx hb hr hlocks hown hts hX hNt htab hl hP hS g1 g2 g3 (Nat.le_of_ble_eq_true rfl) (Nat.le_of_ble_eq_true rfl)
set_option maxHeartbeats 4000000 in
set_option maxRecDepth 100000 in
theorem mL_ask_strikes {D : va_G} {cy : Nat → ClassId} {q : Nat → Nat} (l : Launch) (hlf : l.stackTraces = false) (hJ : gJ 78 q) {a : Nat} (ha : ¬ gA 78 q a) {f : Nat → Int32} {σ : TS} {z : Int32 ⊕ Nat} {u : TS} (hp : sX8_strikes (f 0) σ = some (z, u)) (hz : okZ z) : Met l yL_ask wsL_ask rmL_ask (va_Pc [.ref (q 0), .int (115 : Int32), .ref a] (hPre D vwCl (tyL cy) (gS 78 q (TX cy q) σ) (iW a cy 1 f) (gA 78 q))) (gQi D vwCl (askR z) (gS 78 q (TX cy q) u) (gA 78 q)) 4 24 (gA 78 q) := by
  refine g_ofWH (cc := cL_ask) (maxL := 4) (ret := (some .int)) (hh := hhA) (by decide +kernel) rfl ?_
  intro p e s m args below meth c s₁ B hml htab hv
  obtain ⟨rfl, ⟨hP, hO, hK⟩, hX, hNt⟩ := hv
  have hx := B.exec
  have hb := B.bytes
  have hr := B.returns
  have hlocks := B.notSynchronized
  have hts := atoms_spec (ws := wsL_ask) B.pre
  have hown : s.vm.findClass RL = some m.cls := findClass_of_methodNamed B.named
  have hS : va_S (gA 78 q) s.heap s.heap [] := va_S.rf
  have hl := lv_entry ([.ref (q 0), .int (115 : Int32), .ref a]) (n := 4) (Nat.le_of_ble_eq_true rfl)
  rw [lg_entry_eq]
  generalize (lg_sl ([.ref (q 0), .int (115 : Int32), .ref a]) ++ List.replicate (4 - (lg_sl ([.ref (q 0), .int (115 : Int32), .ref a])).length) Slot.unset).toArray = ls at hl ⊢
  have hl : lv_has ls 4 [(0, .ref (q 0)), (1, .int (115 : Int32)), (2, .ref a)] := hl
  refine lv_iload_n hx hb dL_ask_0 rfl (lv_at hl 1 rfl) ?_
  refine g_sw hx hb (off := 384) (tgt := 385) dL_ask_1 (by decide) (by decide) (by decide) ?_
  refine lv_aload_n hx hb dL_ask_385 rfl (lv_at hl 0 rfl) ?_
  refine lv_aload_n hx hb dL_ask_386 rfl (lv_at hl 2 rfl) ?_
  refine lv_iconst (v := (0 : Int32)) hx hb dL_ask_387 (by decide) ?_
  refine h_ild (j := 0) hx hb hK hO (by decide) rfl dL_ask_388 ?_
  rcases z with r1 | k1
  · refine h_cVi (As := [.int (f 0)]) (rest := []) hx hb hml hown hts hK hX (fun a h => h) hP hO (i_dis ha) hS (mX8_strikes l hlf hJ hp) (cwV 1 hts gL_ask_X8_strikes rfl rfl rfl nVX8_strikes ⟨Nat.le_of_ble_eq_true rfl, Nat.le_of_ble_eq_true rfl⟩) (g_recv hK hP kk_Tri ce_Tri rfl) rfl hl.1 rfl (Nat.le_of_ble_eq_true rfl) dL_ask_389 ⟨Nat.le_of_ble_eq_true rfl, Nat.le_of_ble_eq_true rfl⟩ (fun H locs hP hO hS => ?_)
    refine W.widen (k := 4) (n := 24) (Nat.le_of_ble_eq_true rfl) (Nat.le_of_ble_eq_true rfl) ?_
    exact W.iret (v := r1) hx hb hr (fun t ht hW => ⟨⟨r1, (), rfl, rfl, by subst ht; exact hP⟩, hS.F ht⟩) hS.2.2 dL_ask_392
  · refine h_cVx (As := [.int (f 0)]) (rest := []) hx hb hml hown hts hK hX (fun a h => h) hP hO (i_dis ha) hS (mX8_strikes l hlf hJ hp) (cwV 1 hts gL_ask_X8_strikes rfl rfl rfl nVX8_strikes ⟨Nat.le_of_ble_eq_true rfl, Nat.le_of_ble_eq_true rfl⟩) (g_recv hK hP kk_Tri ce_Tri rfl) rfl hl.1 rfl (Nat.le_of_ble_eq_true rfl) dL_ask_389 ⟨Nat.le_of_ble_eq_true rfl, Nat.le_of_ble_eq_true rfl⟩ (fun ce q9 H locs hP hO hS g1 g2 g3 => ?_)
    exact ask_end (hz k1 rfl) (by decide +kernel) hx hb hr hlocks hown hts hX hNt htab hl hP hS g1 g2 g3 (Nat.le_of_ble_eq_true rfl) (Nat.le_of_ble_eq_true rfl)
set_option maxHeartbeats 4000000 in
set_option maxRecDepth 100000 in
theorem mL_ask_shut {D : va_G} {cy : Nat → ClassId} {q : Nat → Nat} (l : Launch) (hlf : l.stackTraces = false) (hJ : gJ 78 q) {a : Nat} (ha : ¬ gA 78 q a) {f : Nat → Int32} {σ : TS} {z : Int32 ⊕ Nat} {u : TS} (hp : sX8_shut (f 0) σ = some (z, u)) (hz : okZ z) : Met l yL_ask wsL_ask rmL_ask (va_Pc [.ref (q 0), .int (104 : Int32), .ref a] (hPre D vwCl (tyL cy) (gS 78 q (TX cy q) σ) (iW a cy 1 f) (gA 78 q))) (gQi D vwCl (askR z) (gS 78 q (TX cy q) u) (gA 78 q)) 4 24 (gA 78 q) := by
  refine g_ofWH (cc := cL_ask) (maxL := 4) (ret := (some .int)) (hh := hhA) (by decide +kernel) rfl ?_
  intro p e s m args below meth c s₁ B hml htab hv
  obtain ⟨rfl, ⟨hP, hO, hK⟩, hX, hNt⟩ := hv
  have hx := B.exec
  have hb := B.bytes
  have hr := B.returns
  have hlocks := B.notSynchronized
  have hts := atoms_spec (ws := wsL_ask) B.pre
  have hown : s.vm.findClass RL = some m.cls := findClass_of_methodNamed B.named
  have hS : va_S (gA 78 q) s.heap s.heap [] := va_S.rf
  have hl := lv_entry ([.ref (q 0), .int (104 : Int32), .ref a]) (n := 4) (Nat.le_of_ble_eq_true rfl)
  rw [lg_entry_eq]
  generalize (lg_sl ([.ref (q 0), .int (104 : Int32), .ref a]) ++ List.replicate (4 - (lg_sl ([.ref (q 0), .int (104 : Int32), .ref a])).length) Slot.unset).toArray = ls at hl ⊢
  have hl : lv_has ls 4 [(0, .ref (q 0)), (1, .int (104 : Int32)), (2, .ref a)] := hl
  refine lv_iload_n hx hb dL_ask_0 rfl (lv_at hl 1 rfl) ?_
  refine g_sw hx hb (off := 392) (tgt := 393) dL_ask_1 (by decide) (by decide) (by decide) ?_
  refine lv_aload_n hx hb dL_ask_393 rfl (lv_at hl 0 rfl) ?_
  refine lv_aload_n hx hb dL_ask_394 rfl (lv_at hl 2 rfl) ?_
  refine lv_iconst (v := (0 : Int32)) hx hb dL_ask_395 (by decide) ?_
  refine h_ild (j := 0) hx hb hK hO (by decide) rfl dL_ask_396 ?_
  rcases z with r1 | k1
  · refine h_cVi (As := [.int (f 0)]) (rest := []) hx hb hml hown hts hK hX (fun a h => h) hP hO (i_dis ha) hS (mX8_shut l hlf hJ hp) (cwV 1 hts gL_ask_X8_shut rfl rfl rfl nVX8_shut ⟨Nat.le_of_ble_eq_true rfl, Nat.le_of_ble_eq_true rfl⟩) (g_recv hK hP kk_Tri ce_Tri rfl) rfl hl.1 rfl (Nat.le_of_ble_eq_true rfl) dL_ask_397 ⟨Nat.le_of_ble_eq_true rfl, Nat.le_of_ble_eq_true rfl⟩ (fun H locs hP hO hS => ?_)
    refine W.widen (k := 4) (n := 24) (Nat.le_of_ble_eq_true rfl) (Nat.le_of_ble_eq_true rfl) ?_
    exact W.iret (v := r1) hx hb hr (fun t ht hW => ⟨⟨r1, (), rfl, rfl, by subst ht; exact hP⟩, hS.F ht⟩) hS.2.2 dL_ask_400
  · refine h_cVx (As := [.int (f 0)]) (rest := []) hx hb hml hown hts hK hX (fun a h => h) hP hO (i_dis ha) hS (mX8_shut l hlf hJ hp) (cwV 1 hts gL_ask_X8_shut rfl rfl rfl nVX8_shut ⟨Nat.le_of_ble_eq_true rfl, Nat.le_of_ble_eq_true rfl⟩) (g_recv hK hP kk_Tri ce_Tri rfl) rfl hl.1 rfl (Nat.le_of_ble_eq_true rfl) dL_ask_397 ⟨Nat.le_of_ble_eq_true rfl, Nat.le_of_ble_eq_true rfl⟩ (fun ce q9 H locs hP hO hS g1 g2 g3 => ?_)
    exact ask_end (hz k1 rfl) (by decide +kernel) hx hb hr hlocks hown hts hX hNt htab hl hP hS g1 g2 g3 (Nat.le_of_ble_eq_true rfl) (Nat.le_of_ble_eq_true rfl)
set_option maxHeartbeats 4000000 in
set_option maxRecDepth 100000 in
theorem mL_ask_test {D : va_G} {cy : Nat → ClassId} {q : Nat → Nat} (l : Launch) (hlf : l.stackTraces = false) (hJ : gJ 78 q) {a : Nat} (ha : ¬ gA 78 q a) {f : Nat → Int32} {σ : TS} {z : Int32 ⊕ Nat} {u : TS} (hp : sX8_test (f 0) σ = some (z, u)) (hz : okZ z) : Met l yL_ask wsL_ask rmL_ask (va_Pc [.ref (q 0), .int (116 : Int32), .ref a] (hPre D vwCl (tyL cy) (gS 78 q (TX cy q) σ) (iW a cy 1 f) (gA 78 q))) (gQi D vwCl (askR (zB z)) (gS 78 q (TX cy q) u) (gA 78 q)) 4 24 (gA 78 q) := by
  refine g_ofWH (cc := cL_ask) (maxL := 4) (ret := (some .int)) (hh := hhA) (by decide +kernel) rfl ?_
  intro p e s m args below meth c s₁ B hml htab hv
  obtain ⟨rfl, ⟨hP, hO, hK⟩, hX, hNt⟩ := hv
  have hx := B.exec
  have hb := B.bytes
  have hr := B.returns
  have hlocks := B.notSynchronized
  have hts := atoms_spec (ws := wsL_ask) B.pre
  have hown : s.vm.findClass RL = some m.cls := findClass_of_methodNamed B.named
  have hS : va_S (gA 78 q) s.heap s.heap [] := va_S.rf
  have hl := lv_entry ([.ref (q 0), .int (116 : Int32), .ref a]) (n := 4) (Nat.le_of_ble_eq_true rfl)
  rw [lg_entry_eq]
  generalize (lg_sl ([.ref (q 0), .int (116 : Int32), .ref a]) ++ List.replicate (4 - (lg_sl ([.ref (q 0), .int (116 : Int32), .ref a])).length) Slot.unset).toArray = ls at hl ⊢
  have hl : lv_has ls 4 [(0, .ref (q 0)), (1, .int (116 : Int32)), (2, .ref a)] := hl
  refine lv_iload_n hx hb dL_ask_0 rfl (lv_at hl 1 rfl) ?_
  refine g_sw hx hb (off := 400) (tgt := 401) dL_ask_1 (by decide) (by decide) (by decide) ?_
  refine lv_aload_n hx hb dL_ask_401 rfl (lv_at hl 0 rfl) ?_
  refine lv_aload_n hx hb dL_ask_402 rfl (lv_at hl 2 rfl) ?_
  refine lv_iconst (v := (0 : Int32)) hx hb dL_ask_403 (by decide) ?_
  refine h_ild (j := 0) hx hb hK hO (by decide) rfl dL_ask_404 ?_
  rcases z with r1 | k1
  · refine h_cVi (As := [.int (f 0)]) (rest := []) hx hb hml hown hts hK hX (fun a h => h) hP hO (i_dis ha) hS (mX8_test l hlf hJ hp) (cwV 1 hts gL_ask_X8_test rfl rfl rfl nVX8_test ⟨Nat.le_of_ble_eq_true rfl, Nat.le_of_ble_eq_true rfl⟩) (g_recv hK hP kk_Tri ce_Tri rfl) rfl hl.1 rfl (Nat.le_of_ble_eq_true rfl) dL_ask_405 ⟨Nat.le_of_ble_eq_true rfl, Nat.le_of_ble_eq_true rfl⟩ (fun H locs hP hO hS => ?_)
    refine lv_if_eq (tgt := 415) hx hb dL_ask_408 (by decide) (fun h0 => ?_) (fun h0 => ?_)
    · refine lv_iconst (v := (0 : Int32)) hx hb dL_ask_415 (by decide) ?_
      refine W.widen (k := 4) (n := 24) (Nat.le_of_ble_eq_true rfl) (Nat.le_of_ble_eq_true rfl) ?_
      exact W.iret (v := (0 : Int32)) hx hb hr (fun t ht hW => ⟨⟨(0 : Int32), (), rfl, (if_pos h0).symm, by subst ht; exact hP⟩, hS.F ht⟩) hS.2.2 dL_ask_416
    · refine lv_iconst (v := (1 : Int32)) hx hb dL_ask_411 (by decide) ?_
      refine lv_goto (tgt := 416) hx hb dL_ask_412 (by decide) ?_
      refine W.widen (k := 4) (n := 24) (Nat.le_of_ble_eq_true rfl) (Nat.le_of_ble_eq_true rfl) ?_
      exact W.iret (v := (1 : Int32)) hx hb hr (fun t ht hW => ⟨⟨(1 : Int32), (), rfl, (if_neg h0).symm, by subst ht; exact hP⟩, hS.F ht⟩) hS.2.2 dL_ask_416
  · refine h_cVx (As := [.int (f 0)]) (rest := []) hx hb hml hown hts hK hX (fun a h => h) hP hO (i_dis ha) hS (mX8_test l hlf hJ hp) (cwV 1 hts gL_ask_X8_test rfl rfl rfl nVX8_test ⟨Nat.le_of_ble_eq_true rfl, Nat.le_of_ble_eq_true rfl⟩) (g_recv hK hP kk_Tri ce_Tri rfl) rfl hl.1 rfl (Nat.le_of_ble_eq_true rfl) dL_ask_405 ⟨Nat.le_of_ble_eq_true rfl, Nat.le_of_ble_eq_true rfl⟩ (fun ce q9 H locs hP hO hS g1 g2 g3 => ?_)
    exact ask_end (hz k1 rfl) (by decide +kernel) hx hb hr hlocks hown hts hX hNt htab hl hP hS g1 g2 g3 (Nat.le_of_ble_eq_true rfl) (Nat.le_of_ble_eq_true rfl)
set_option maxHeartbeats 4000000 in
set_option maxRecDepth 100000 in
theorem mL_ask_back {D : va_G} {cy : Nat → ClassId} {q : Nat → Nat} (l : Launch) (hlf : l.stackTraces = false) (hJ : gJ 78 q) {a : Nat} (ha : ¬ gA 78 q a) {f : Nat → Int32} {σ : TS} {z : Int32 ⊕ Nat} {u : TS} (hp : sX8_back (f 0) σ = some (z, u)) (hz : okZ z) : Met l yL_ask wsL_ask rmL_ask (va_Pc [.ref (q 0), .int (98 : Int32), .ref a] (hPre D vwCl (tyL cy) (gS 78 q (TX cy q) σ) (iW a cy 1 f) (gA 78 q))) (gQi D vwCl (askR z) (gS 78 q (TX cy q) u) (gA 78 q)) 4 24 (gA 78 q) := by
  refine g_ofWH (cc := cL_ask) (maxL := 4) (ret := (some .int)) (hh := hhA) (by decide +kernel) rfl ?_
  intro p e s m args below meth c s₁ B hml htab hv
  obtain ⟨rfl, ⟨hP, hO, hK⟩, hX, hNt⟩ := hv
  have hx := B.exec
  have hb := B.bytes
  have hr := B.returns
  have hlocks := B.notSynchronized
  have hts := atoms_spec (ws := wsL_ask) B.pre
  have hown : s.vm.findClass RL = some m.cls := findClass_of_methodNamed B.named
  have hS : va_S (gA 78 q) s.heap s.heap [] := va_S.rf
  have hl := lv_entry ([.ref (q 0), .int (98 : Int32), .ref a]) (n := 4) (Nat.le_of_ble_eq_true rfl)
  rw [lg_entry_eq]
  generalize (lg_sl ([.ref (q 0), .int (98 : Int32), .ref a]) ++ List.replicate (4 - (lg_sl ([.ref (q 0), .int (98 : Int32), .ref a])).length) Slot.unset).toArray = ls at hl ⊢
  have hl : lv_has ls 4 [(0, .ref (q 0)), (1, .int (98 : Int32)), (2, .ref a)] := hl
  refine lv_iload_n hx hb dL_ask_0 rfl (lv_at hl 1 rfl) ?_
  refine g_sw hx hb (off := 416) (tgt := 417) dL_ask_1 (by decide) (by decide) (by decide) ?_
  refine lv_aload_n hx hb dL_ask_417 rfl (lv_at hl 0 rfl) ?_
  refine lv_aload_n hx hb dL_ask_418 rfl (lv_at hl 2 rfl) ?_
  refine lv_iconst (v := (0 : Int32)) hx hb dL_ask_419 (by decide) ?_
  refine h_ild (j := 0) hx hb hK hO (by decide) rfl dL_ask_420 ?_
  rcases z with r1 | k1
  · refine h_cVi (As := [.int (f 0)]) (rest := []) hx hb hml hown hts hK hX (fun a h => h) hP hO (i_dis ha) hS (mX8_back l hlf hJ hp) (cwV 1 hts gL_ask_X8_back rfl rfl rfl nVX8_back ⟨Nat.le_of_ble_eq_true rfl, Nat.le_of_ble_eq_true rfl⟩) (g_recv hK hP kk_Tri ce_Tri rfl) rfl hl.1 rfl (Nat.le_of_ble_eq_true rfl) dL_ask_421 ⟨Nat.le_of_ble_eq_true rfl, Nat.le_of_ble_eq_true rfl⟩ (fun H locs hP hO hS => ?_)
    refine W.widen (k := 4) (n := 24) (Nat.le_of_ble_eq_true rfl) (Nat.le_of_ble_eq_true rfl) ?_
    exact W.iret (v := r1) hx hb hr (fun t ht hW => ⟨⟨r1, (), rfl, rfl, by subst ht; exact hP⟩, hS.F ht⟩) hS.2.2 dL_ask_424
  · refine h_cVx (As := [.int (f 0)]) (rest := []) hx hb hml hown hts hK hX (fun a h => h) hP hO (i_dis ha) hS (mX8_back l hlf hJ hp) (cwV 1 hts gL_ask_X8_back rfl rfl rfl nVX8_back ⟨Nat.le_of_ble_eq_true rfl, Nat.le_of_ble_eq_true rfl⟩) (g_recv hK hP kk_Tri ce_Tri rfl) rfl hl.1 rfl (Nat.le_of_ble_eq_true rfl) dL_ask_421 ⟨Nat.le_of_ble_eq_true rfl, Nat.le_of_ble_eq_true rfl⟩ (fun ce q9 H locs hP hO hS g1 g2 g3 => ?_)
    exact ask_end (hz k1 rfl) (by decide +kernel) hx hb hr hlocks hown hts hX hNt htab hl hP hS g1 g2 g3 (Nat.le_of_ble_eq_true rfl) (Nat.le_of_ble_eq_true rfl)
set_option maxHeartbeats 4000000 in
set_option maxRecDepth 100000 in
theorem mL_ask_mended {D : va_G} {cy : Nat → ClassId} {q : Nat → Nat} (l : Launch) (hlf : l.stackTraces = false) (hJ : gJ 78 q) {a : Nat} (ha : ¬ gA 78 q a) {f : Nat → Int32} {σ : TS} {z : Int32 ⊕ Nat} {u : TS} (hp : sX8_mended (f 0) σ = some (z, u)) (hz : okZ z) : Met l yL_ask wsL_ask rmL_ask (va_Pc [.ref (q 0), .int (109 : Int32), .ref a] (hPre D vwCl (tyL cy) (gS 78 q (TX cy q) σ) (iW a cy 1 f) (gA 78 q))) (gQi D vwCl (askR z) (gS 78 q (TX cy q) u) (gA 78 q)) 4 24 (gA 78 q) := by
  refine g_ofWH (cc := cL_ask) (maxL := 4) (ret := (some .int)) (hh := hhA) (by decide +kernel) rfl ?_
  intro p e s m args below meth c s₁ B hml htab hv
  obtain ⟨rfl, ⟨hP, hO, hK⟩, hX, hNt⟩ := hv
  have hx := B.exec
  have hb := B.bytes
  have hr := B.returns
  have hlocks := B.notSynchronized
  have hts := atoms_spec (ws := wsL_ask) B.pre
  have hown : s.vm.findClass RL = some m.cls := findClass_of_methodNamed B.named
  have hS : va_S (gA 78 q) s.heap s.heap [] := va_S.rf
  have hl := lv_entry ([.ref (q 0), .int (109 : Int32), .ref a]) (n := 4) (Nat.le_of_ble_eq_true rfl)
  rw [lg_entry_eq]
  generalize (lg_sl ([.ref (q 0), .int (109 : Int32), .ref a]) ++ List.replicate (4 - (lg_sl ([.ref (q 0), .int (109 : Int32), .ref a])).length) Slot.unset).toArray = ls at hl ⊢
  have hl : lv_has ls 4 [(0, .ref (q 0)), (1, .int (109 : Int32)), (2, .ref a)] := hl
  refine lv_iload_n hx hb dL_ask_0 rfl (lv_at hl 1 rfl) ?_
  refine g_sw hx hb (off := 424) (tgt := 425) dL_ask_1 (by decide) (by decide) (by decide) ?_
  refine lv_aload_n hx hb dL_ask_425 rfl (lv_at hl 0 rfl) ?_
  refine lv_aload_n hx hb dL_ask_426 rfl (lv_at hl 2 rfl) ?_
  refine lv_iconst (v := (0 : Int32)) hx hb dL_ask_427 (by decide) ?_
  refine h_ild (j := 0) hx hb hK hO (by decide) rfl dL_ask_428 ?_
  rcases z with r1 | k1
  · refine h_cVi (As := [.int (f 0)]) (rest := []) hx hb hml hown hts hK hX (fun a h => h) hP hO (i_dis ha) hS (mX8_mended l hlf hJ hp) (cwV 1 hts gL_ask_X8_mended rfl rfl rfl nVX8_mended ⟨Nat.le_of_ble_eq_true rfl, Nat.le_of_ble_eq_true rfl⟩) (g_recv hK hP kk_Tri ce_Tri rfl) rfl hl.1 rfl (Nat.le_of_ble_eq_true rfl) dL_ask_429 ⟨Nat.le_of_ble_eq_true rfl, Nat.le_of_ble_eq_true rfl⟩ (fun H locs hP hO hS => ?_)
    refine W.widen (k := 4) (n := 24) (Nat.le_of_ble_eq_true rfl) (Nat.le_of_ble_eq_true rfl) ?_
    exact W.iret (v := r1) hx hb hr (fun t ht hW => ⟨⟨r1, (), rfl, rfl, by subst ht; exact hP⟩, hS.F ht⟩) hS.2.2 dL_ask_432
  · refine h_cVx (As := [.int (f 0)]) (rest := []) hx hb hml hown hts hK hX (fun a h => h) hP hO (i_dis ha) hS (mX8_mended l hlf hJ hp) (cwV 1 hts gL_ask_X8_mended rfl rfl rfl nVX8_mended ⟨Nat.le_of_ble_eq_true rfl, Nat.le_of_ble_eq_true rfl⟩) (g_recv hK hP kk_Tri ce_Tri rfl) rfl hl.1 rfl (Nat.le_of_ble_eq_true rfl) dL_ask_429 ⟨Nat.le_of_ble_eq_true rfl, Nat.le_of_ble_eq_true rfl⟩ (fun ce q9 H locs hP hO hS g1 g2 g3 => ?_)
    exact ask_end (hz k1 rfl) (by decide +kernel) hx hb hr hlocks hown hts hX hNt htab hl hP hS g1 g2 g3 (Nat.le_of_ble_eq_true rfl) (Nat.le_of_ble_eq_true rfl)
set_option maxHeartbeats 4000000 in
set_option maxRecDepth 100000 in
theorem mL_ask_overruns {D : va_G} {cy : Nat → ClassId} {q : Nat → Nat} (l : Launch) (hlf : l.stackTraces = false) (hJ : gJ 78 q) {a : Nat} (ha : ¬ gA 78 q a) {f : Nat → Int32} {σ : TS} {z : Int32 ⊕ Nat} {u : TS} (hp : sX8_overruns (f 0) σ = some (z, u)) (hz : okZ z) : Met l yL_ask wsL_ask rmL_ask (va_Pc [.ref (q 0), .int (118 : Int32), .ref a] (hPre D vwCl (tyL cy) (gS 78 q (TX cy q) σ) (iW a cy 1 f) (gA 78 q))) (gQi D vwCl (askR z) (gS 78 q (TX cy q) u) (gA 78 q)) 4 24 (gA 78 q) := by
  refine g_ofWH (cc := cL_ask) (maxL := 4) (ret := (some .int)) (hh := hhA) (by decide +kernel) rfl ?_
  intro p e s m args below meth c s₁ B hml htab hv
  obtain ⟨rfl, ⟨hP, hO, hK⟩, hX, hNt⟩ := hv
  have hx := B.exec
  have hb := B.bytes
  have hr := B.returns
  have hlocks := B.notSynchronized
  have hts := atoms_spec (ws := wsL_ask) B.pre
  have hown : s.vm.findClass RL = some m.cls := findClass_of_methodNamed B.named
  have hS : va_S (gA 78 q) s.heap s.heap [] := va_S.rf
  have hl := lv_entry ([.ref (q 0), .int (118 : Int32), .ref a]) (n := 4) (Nat.le_of_ble_eq_true rfl)
  rw [lg_entry_eq]
  generalize (lg_sl ([.ref (q 0), .int (118 : Int32), .ref a]) ++ List.replicate (4 - (lg_sl ([.ref (q 0), .int (118 : Int32), .ref a])).length) Slot.unset).toArray = ls at hl ⊢
  have hl : lv_has ls 4 [(0, .ref (q 0)), (1, .int (118 : Int32)), (2, .ref a)] := hl
  refine lv_iload_n hx hb dL_ask_0 rfl (lv_at hl 1 rfl) ?_
  refine g_sw hx hb (off := 432) (tgt := 433) dL_ask_1 (by decide) (by decide) (by decide) ?_
  refine lv_aload_n hx hb dL_ask_433 rfl (lv_at hl 0 rfl) ?_
  refine lv_aload_n hx hb dL_ask_434 rfl (lv_at hl 2 rfl) ?_
  refine lv_iconst (v := (0 : Int32)) hx hb dL_ask_435 (by decide) ?_
  refine h_ild (j := 0) hx hb hK hO (by decide) rfl dL_ask_436 ?_
  rcases z with r1 | k1
  · refine h_cVi (As := [.int (f 0)]) (rest := []) hx hb hml hown hts hK hX (fun a h => h) hP hO (i_dis ha) hS (mX8_overruns l hlf hJ hp) (cwV 1 hts gL_ask_X8_overruns rfl rfl rfl nVX8_overruns ⟨Nat.le_of_ble_eq_true rfl, Nat.le_of_ble_eq_true rfl⟩) (g_recv hK hP kk_Tri ce_Tri rfl) rfl hl.1 rfl (Nat.le_of_ble_eq_true rfl) dL_ask_437 ⟨Nat.le_of_ble_eq_true rfl, Nat.le_of_ble_eq_true rfl⟩ (fun H locs hP hO hS => ?_)
    refine W.widen (k := 4) (n := 24) (Nat.le_of_ble_eq_true rfl) (Nat.le_of_ble_eq_true rfl) ?_
    exact W.iret (v := r1) hx hb hr (fun t ht hW => ⟨⟨r1, (), rfl, rfl, by subst ht; exact hP⟩, hS.F ht⟩) hS.2.2 dL_ask_440
  · refine h_cVx (As := [.int (f 0)]) (rest := []) hx hb hml hown hts hK hX (fun a h => h) hP hO (i_dis ha) hS (mX8_overruns l hlf hJ hp) (cwV 1 hts gL_ask_X8_overruns rfl rfl rfl nVX8_overruns ⟨Nat.le_of_ble_eq_true rfl, Nat.le_of_ble_eq_true rfl⟩) (g_recv hK hP kk_Tri ce_Tri rfl) rfl hl.1 rfl (Nat.le_of_ble_eq_true rfl) dL_ask_437 ⟨Nat.le_of_ble_eq_true rfl, Nat.le_of_ble_eq_true rfl⟩ (fun ce q9 H locs hP hO hS g1 g2 g3 => ?_)
    exact ask_end (hz k1 rfl) (by decide +kernel) hx hb hr hlocks hown hts hX hNt htab hl hP hS g1 g2 g3 (Nat.le_of_ble_eq_true rfl) (Nat.le_of_ble_eq_true rfl)
set_option maxHeartbeats 4000000 in
set_option maxRecDepth 100000 in
theorem mL_ask_read {D : va_G} {cy : Nat → ClassId} {q : Nat → Nat} (l : Launch) (hlf : l.stackTraces = false) (hJ : gJ 78 q) {a : Nat} (ha : ¬ gA 78 q a) {f : Nat → Int32} {σ : TS} {z : Int32 ⊕ Nat} {u : TS} (hp : sX8_read (f 0) (f 1) (f 2) (f 3) σ = some (z, u)) (hz : okZ z) : Met l yL_ask wsL_ask rmL_ask (va_Pc [.ref (q 0), .int (114 : Int32), .ref a] (hPre D vwCl (tyL cy) (gS 78 q (TX cy q) σ) (iW a cy 4 f) (gA 78 q))) (gQi D vwCl (askR z) (gS 78 q (TX cy q) u) (gA 78 q)) 4 24 (gA 78 q) := by
  refine g_ofWH (cc := cL_ask) (maxL := 4) (ret := (some .int)) (hh := hhA) (by decide +kernel) rfl ?_
  intro p e s m args below meth c s₁ B hml htab hv
  obtain ⟨rfl, ⟨hP, hO, hK⟩, hX, hNt⟩ := hv
  have hx := B.exec
  have hb := B.bytes
  have hr := B.returns
  have hlocks := B.notSynchronized
  have hts := atoms_spec (ws := wsL_ask) B.pre
  have hown : s.vm.findClass RL = some m.cls := findClass_of_methodNamed B.named
  have hS : va_S (gA 78 q) s.heap s.heap [] := va_S.rf
  have hl := lv_entry ([.ref (q 0), .int (114 : Int32), .ref a]) (n := 4) (Nat.le_of_ble_eq_true rfl)
  rw [lg_entry_eq]
  generalize (lg_sl ([.ref (q 0), .int (114 : Int32), .ref a]) ++ List.replicate (4 - (lg_sl ([.ref (q 0), .int (114 : Int32), .ref a])).length) Slot.unset).toArray = ls at hl ⊢
  have hl : lv_has ls 4 [(0, .ref (q 0)), (1, .int (114 : Int32)), (2, .ref a)] := hl
  refine lv_iload_n hx hb dL_ask_0 rfl (lv_at hl 1 rfl) ?_
  refine g_sw hx hb (off := 440) (tgt := 441) dL_ask_1 (by decide) (by decide) (by decide) ?_
  refine lv_aload_n hx hb dL_ask_441 rfl (lv_at hl 0 rfl) ?_
  refine lv_iload_n hx hb dL_ask_442 rfl (lv_at hl 1 rfl) ?_
  refine lv_aload_n hx hb dL_ask_443 rfl (lv_at hl 2 rfl) ?_
  rcases z with r1 | k1
  · refine h_cSi (As := [.ref (q 0), .int (114 : Int32), .ref a]) (rest := []) hx hb hml hown hts hK hX hNt (fun a h => h) hP hO hS (mL_asked_read l hlf hJ ha hp) (va_cwS 3 hts gL_ask_L_asked rfl rfl rfl nVL_asked ⟨Nat.le_of_ble_eq_true rfl, Nat.le_of_ble_eq_true rfl⟩) rfl hl.1 rfl (Nat.le_of_ble_eq_true rfl) dL_ask_444 ⟨Nat.le_of_ble_eq_true rfl, Nat.le_of_ble_eq_true rfl⟩ (fun H locs hP hS => ?_)
    refine W.widen (k := 4) (n := 24) (Nat.le_of_ble_eq_true rfl) (Nat.le_of_ble_eq_true rfl) ?_
    exact W.iret (v := r1) hx hb hr (fun t ht hW => ⟨⟨r1, (), rfl, rfl, by subst ht; exact hP⟩, hS.F ht⟩) hS.2.2 dL_ask_447
  · refine h_cSx (As := [.ref (q 0), .int (114 : Int32), .ref a]) (rest := []) hx hb hml hown hts hK hX hNt (fun a h => h) hP hO hS (mL_asked_read l hlf hJ ha hp) (va_cwS 3 hts gL_ask_L_asked rfl rfl rfl nVL_asked ⟨Nat.le_of_ble_eq_true rfl, Nat.le_of_ble_eq_true rfl⟩) rfl hl.1 rfl (Nat.le_of_ble_eq_true rfl) dL_ask_444 ⟨Nat.le_of_ble_eq_true rfl, Nat.le_of_ble_eq_true rfl⟩ (fun ce q9 H locs hP hS g1 g2 g3 => ?_)
    exact ask_end (hz k1 rfl) (by decide +kernel) hx hb hr hlocks hown hts hX hNt htab hl hP hS g1 g2 g3 (Nat.le_of_ble_eq_true rfl) (Nat.le_of_ble_eq_true rfl)
set_option maxHeartbeats 4000000 in
set_option maxRecDepth 100000 in
theorem mL_ask_limit {D : va_G} {cy : Nat → ClassId} {q : Nat → Nat} (l : Launch) (hlf : l.stackTraces = false) (hJ : gJ 78 q) {a : Nat} (ha : ¬ gA 78 q a) {f : Nat → Int32} {σ : TS} {z : Int32 ⊕ Nat} {u : TS} (hp : sX8_limit (f 0) (f 1) σ = some (z, u)) (hz : okZ z) : Met l yL_ask wsL_ask rmL_ask (va_Pc [.ref (q 0), .int (108 : Int32), .ref a] (hPre D vwCl (tyL cy) (gS 78 q (TX cy q) σ) (iW a cy 2 f) (gA 78 q))) (gQi D vwCl (askR z) (gS 78 q (TX cy q) u) (gA 78 q)) 4 24 (gA 78 q) := by
  refine g_ofWH (cc := cL_ask) (maxL := 4) (ret := (some .int)) (hh := hhA) (by decide +kernel) rfl ?_
  intro p e s m args below meth c s₁ B hml htab hv
  obtain ⟨rfl, ⟨hP, hO, hK⟩, hX, hNt⟩ := hv
  have hx := B.exec
  have hb := B.bytes
  have hr := B.returns
  have hlocks := B.notSynchronized
  have hts := atoms_spec (ws := wsL_ask) B.pre
  have hown : s.vm.findClass RL = some m.cls := findClass_of_methodNamed B.named
  have hS : va_S (gA 78 q) s.heap s.heap [] := va_S.rf
  have hl := lv_entry ([.ref (q 0), .int (108 : Int32), .ref a]) (n := 4) (Nat.le_of_ble_eq_true rfl)
  rw [lg_entry_eq]
  generalize (lg_sl ([.ref (q 0), .int (108 : Int32), .ref a]) ++ List.replicate (4 - (lg_sl ([.ref (q 0), .int (108 : Int32), .ref a])).length) Slot.unset).toArray = ls at hl ⊢
  have hl : lv_has ls 4 [(0, .ref (q 0)), (1, .int (108 : Int32)), (2, .ref a)] := hl
  refine lv_iload_n hx hb dL_ask_0 rfl (lv_at hl 1 rfl) ?_
  refine g_sw hx hb (off := 440) (tgt := 441) dL_ask_1 (by decide) (by decide) (by decide) ?_
  refine lv_aload_n hx hb dL_ask_441 rfl (lv_at hl 0 rfl) ?_
  refine lv_iload_n hx hb dL_ask_442 rfl (lv_at hl 1 rfl) ?_
  refine lv_aload_n hx hb dL_ask_443 rfl (lv_at hl 2 rfl) ?_
  rcases z with r1 | k1
  · refine h_cSi (As := [.ref (q 0), .int (108 : Int32), .ref a]) (rest := []) hx hb hml hown hts hK hX hNt (fun a h => h) hP hO hS (mL_asked_limit l hlf hJ ha hp) (va_cwS 3 hts gL_ask_L_asked rfl rfl rfl nVL_asked ⟨Nat.le_of_ble_eq_true rfl, Nat.le_of_ble_eq_true rfl⟩) rfl hl.1 rfl (Nat.le_of_ble_eq_true rfl) dL_ask_444 ⟨Nat.le_of_ble_eq_true rfl, Nat.le_of_ble_eq_true rfl⟩ (fun H locs hP hS => ?_)
    refine W.widen (k := 4) (n := 24) (Nat.le_of_ble_eq_true rfl) (Nat.le_of_ble_eq_true rfl) ?_
    exact W.iret (v := r1) hx hb hr (fun t ht hW => ⟨⟨r1, (), rfl, rfl, by subst ht; exact hP⟩, hS.F ht⟩) hS.2.2 dL_ask_447
  · refine h_cSx (As := [.ref (q 0), .int (108 : Int32), .ref a]) (rest := []) hx hb hml hown hts hK hX hNt (fun a h => h) hP hO hS (mL_asked_limit l hlf hJ ha hp) (va_cwS 3 hts gL_ask_L_asked rfl rfl rfl nVL_asked ⟨Nat.le_of_ble_eq_true rfl, Nat.le_of_ble_eq_true rfl⟩) rfl hl.1 rfl (Nat.le_of_ble_eq_true rfl) dL_ask_444 ⟨Nat.le_of_ble_eq_true rfl, Nat.le_of_ble_eq_true rfl⟩ (fun ce q9 H locs hP hS g1 g2 g3 => ?_)
    exact ask_end (hz k1 rfl) (by decide +kernel) hx hb hr hlocks hown hts hX hNt htab hl hP hS g1 g2 g3 (Nat.le_of_ble_eq_true rfl) (Nat.le_of_ble_eq_true rfl)
set_option maxHeartbeats 4000000 in
set_option maxRecDepth 100000 in
theorem mL_ask_agreed {D : va_G} {cy : Nat → ClassId} {q : Nat → Nat} (l : Launch) (hlf : l.stackTraces = false) (hJ : gJ 78 q) {a : Nat} (ha : ¬ gA 78 q a) {f : Nat → Int32} {σ : TS} {z : Int32 ⊕ Nat} {u : TS} (hp : sX8_agreed (f 0) σ = some (z, u)) (hz : okZ z) : Met l yL_ask wsL_ask rmL_ask (va_Pc [.ref (q 0), .int (97 : Int32), .ref a] (hPre D vwCl (tyL cy) (gS 78 q (TX cy q) σ) (iW a cy 1 f) (gA 78 q))) (gQi D vwCl (askR z) (gS 78 q (TX cy q) u) (gA 78 q)) 4 24 (gA 78 q) := by
  refine g_ofWH (cc := cL_ask) (maxL := 4) (ret := (some .int)) (hh := hhA) (by decide +kernel) rfl ?_
  intro p e s m args below meth c s₁ B hml htab hv
  obtain ⟨rfl, ⟨hP, hO, hK⟩, hX, hNt⟩ := hv
  have hx := B.exec
  have hb := B.bytes
  have hr := B.returns
  have hlocks := B.notSynchronized
  have hts := atoms_spec (ws := wsL_ask) B.pre
  have hown : s.vm.findClass RL = some m.cls := findClass_of_methodNamed B.named
  have hS : va_S (gA 78 q) s.heap s.heap [] := va_S.rf
  have hl := lv_entry ([.ref (q 0), .int (97 : Int32), .ref a]) (n := 4) (Nat.le_of_ble_eq_true rfl)
  rw [lg_entry_eq]
  generalize (lg_sl ([.ref (q 0), .int (97 : Int32), .ref a]) ++ List.replicate (4 - (lg_sl ([.ref (q 0), .int (97 : Int32), .ref a])).length) Slot.unset).toArray = ls at hl ⊢
  have hl : lv_has ls 4 [(0, .ref (q 0)), (1, .int (97 : Int32)), (2, .ref a)] := hl
  refine lv_iload_n hx hb dL_ask_0 rfl (lv_at hl 1 rfl) ?_
  refine g_sw hx hb (off := 440) (tgt := 441) dL_ask_1 (by decide) (by decide) (by decide) ?_
  refine lv_aload_n hx hb dL_ask_441 rfl (lv_at hl 0 rfl) ?_
  refine lv_iload_n hx hb dL_ask_442 rfl (lv_at hl 1 rfl) ?_
  refine lv_aload_n hx hb dL_ask_443 rfl (lv_at hl 2 rfl) ?_
  rcases z with r1 | k1
  · refine h_cSi (As := [.ref (q 0), .int (97 : Int32), .ref a]) (rest := []) hx hb hml hown hts hK hX hNt (fun a h => h) hP hO hS (mL_asked_agreed l hlf hJ ha hp) (va_cwS 3 hts gL_ask_L_asked rfl rfl rfl nVL_asked ⟨Nat.le_of_ble_eq_true rfl, Nat.le_of_ble_eq_true rfl⟩) rfl hl.1 rfl (Nat.le_of_ble_eq_true rfl) dL_ask_444 ⟨Nat.le_of_ble_eq_true rfl, Nat.le_of_ble_eq_true rfl⟩ (fun H locs hP hS => ?_)
    refine W.widen (k := 4) (n := 24) (Nat.le_of_ble_eq_true rfl) (Nat.le_of_ble_eq_true rfl) ?_
    exact W.iret (v := r1) hx hb hr (fun t ht hW => ⟨⟨r1, (), rfl, rfl, by subst ht; exact hP⟩, hS.F ht⟩) hS.2.2 dL_ask_447
  · refine h_cSx (As := [.ref (q 0), .int (97 : Int32), .ref a]) (rest := []) hx hb hml hown hts hK hX hNt (fun a h => h) hP hO hS (mL_asked_agreed l hlf hJ ha hp) (va_cwS 3 hts gL_ask_L_asked rfl rfl rfl nVL_asked ⟨Nat.le_of_ble_eq_true rfl, Nat.le_of_ble_eq_true rfl⟩) rfl hl.1 rfl (Nat.le_of_ble_eq_true rfl) dL_ask_444 ⟨Nat.le_of_ble_eq_true rfl, Nat.le_of_ble_eq_true rfl⟩ (fun ce q9 H locs hP hS g1 g2 g3 => ?_)
    exact ask_end (hz k1 rfl) (by decide +kernel) hx hb hr hlocks hown hts hX hNt htab hl hP hS g1 g2 g3 (Nat.le_of_ble_eq_true rfl) (Nat.le_of_ble_eq_true rfl)
set_option maxHeartbeats 4000000 in
set_option maxRecDepth 100000 in
theorem mL_ask_lie {D : va_G} {cy : Nat → ClassId} {q : Nat → Nat} (l : Launch) (hlf : l.stackTraces = false) (hJ : gJ 78 q) {a : Nat} (ha : ¬ gA 78 q a) {f : Nat → Int32} {σ : TS} {z : Int32 ⊕ Nat} {u : TS} (hp : sX8_lie (f 0) (f 1) (f 2) σ = some (z, u)) (hz : okZ z) : Met l yL_ask wsL_ask rmL_ask (va_Pc [.ref (q 0), .int (105 : Int32), .ref a] (hPre D vwCl (tyL cy) (gS 78 q (TX cy q) σ) (iW a cy 3 f) (gA 78 q))) (gQi D vwCl (askR z) (gS 78 q (TX cy q) u) (gA 78 q)) 4 24 (gA 78 q) := by
  refine g_ofWH (cc := cL_ask) (maxL := 4) (ret := (some .int)) (hh := hhA) (by decide +kernel) rfl ?_
  intro p e s m args below meth c s₁ B hml htab hv
  obtain ⟨rfl, ⟨hP, hO, hK⟩, hX, hNt⟩ := hv
  have hx := B.exec
  have hb := B.bytes
  have hr := B.returns
  have hlocks := B.notSynchronized
  have hts := atoms_spec (ws := wsL_ask) B.pre
  have hown : s.vm.findClass RL = some m.cls := findClass_of_methodNamed B.named
  have hS : va_S (gA 78 q) s.heap s.heap [] := va_S.rf
  have hl := lv_entry ([.ref (q 0), .int (105 : Int32), .ref a]) (n := 4) (Nat.le_of_ble_eq_true rfl)
  rw [lg_entry_eq]
  generalize (lg_sl ([.ref (q 0), .int (105 : Int32), .ref a]) ++ List.replicate (4 - (lg_sl ([.ref (q 0), .int (105 : Int32), .ref a])).length) Slot.unset).toArray = ls at hl ⊢
  have hl : lv_has ls 4 [(0, .ref (q 0)), (1, .int (105 : Int32)), (2, .ref a)] := hl
  refine lv_iload_n hx hb dL_ask_0 rfl (lv_at hl 1 rfl) ?_
  refine g_sw hx hb (off := 440) (tgt := 441) dL_ask_1 (by decide) (by decide) (by decide) ?_
  refine lv_aload_n hx hb dL_ask_441 rfl (lv_at hl 0 rfl) ?_
  refine lv_iload_n hx hb dL_ask_442 rfl (lv_at hl 1 rfl) ?_
  refine lv_aload_n hx hb dL_ask_443 rfl (lv_at hl 2 rfl) ?_
  rcases z with r1 | k1
  · refine h_cSi (As := [.ref (q 0), .int (105 : Int32), .ref a]) (rest := []) hx hb hml hown hts hK hX hNt (fun a h => h) hP hO hS (mL_asked_lie l hlf hJ ha hp) (va_cwS 3 hts gL_ask_L_asked rfl rfl rfl nVL_asked ⟨Nat.le_of_ble_eq_true rfl, Nat.le_of_ble_eq_true rfl⟩) rfl hl.1 rfl (Nat.le_of_ble_eq_true rfl) dL_ask_444 ⟨Nat.le_of_ble_eq_true rfl, Nat.le_of_ble_eq_true rfl⟩ (fun H locs hP hS => ?_)
    refine W.widen (k := 4) (n := 24) (Nat.le_of_ble_eq_true rfl) (Nat.le_of_ble_eq_true rfl) ?_
    exact W.iret (v := r1) hx hb hr (fun t ht hW => ⟨⟨r1, (), rfl, rfl, by subst ht; exact hP⟩, hS.F ht⟩) hS.2.2 dL_ask_447
  · refine h_cSx (As := [.ref (q 0), .int (105 : Int32), .ref a]) (rest := []) hx hb hml hown hts hK hX hNt (fun a h => h) hP hO hS (mL_asked_lie l hlf hJ ha hp) (va_cwS 3 hts gL_ask_L_asked rfl rfl rfl nVL_asked ⟨Nat.le_of_ble_eq_true rfl, Nat.le_of_ble_eq_true rfl⟩) rfl hl.1 rfl (Nat.le_of_ble_eq_true rfl) dL_ask_444 ⟨Nat.le_of_ble_eq_true rfl, Nat.le_of_ble_eq_true rfl⟩ (fun ce q9 H locs hP hS g1 g2 g3 => ?_)
    exact ask_end (hz k1 rfl) (by decide +kernel) hx hb hr hlocks hown hts hX hNt htab hl hP hS g1 g2 g3 (Nat.le_of_ble_eq_true rfl) (Nat.le_of_ble_eq_true rfl)
set_option maxHeartbeats 4000000 in
set_option maxRecDepth 100000 in
theorem mL_ask_clock {D : va_G} {cy : Nat → ClassId} {q : Nat → Nat} (l : Launch) (hlf : l.stackTraces = false) (hJ : gJ 78 q) {a : Nat} (ha : ¬ gA 78 q a) {f : Nat → Int32} {σ : TS} {z : Int32 ⊕ Nat} {u : TS} (hp : sX8_clock (f 0) σ = some (z, u)) (hz : okZ z) : Met l yL_ask wsL_ask rmL_ask (va_Pc [.ref (q 0), .int (75 : Int32), .ref a] (hPre D vwCl (tyL cy) (gS 78 q (TX cy q) σ) (iW a cy 1 f) (gA 78 q))) (gQi D vwCl (askR z) (gS 78 q (TX cy q) u) (gA 78 q)) 4 24 (gA 78 q) := by
  refine g_ofWH (cc := cL_ask) (maxL := 4) (ret := (some .int)) (hh := hhA) (by decide +kernel) rfl ?_
  intro p e s m args below meth c s₁ B hml htab hv
  obtain ⟨rfl, ⟨hP, hO, hK⟩, hX, hNt⟩ := hv
  have hx := B.exec
  have hb := B.bytes
  have hr := B.returns
  have hlocks := B.notSynchronized
  have hts := atoms_spec (ws := wsL_ask) B.pre
  have hown : s.vm.findClass RL = some m.cls := findClass_of_methodNamed B.named
  have hS : va_S (gA 78 q) s.heap s.heap [] := va_S.rf
  have hl := lv_entry ([.ref (q 0), .int (75 : Int32), .ref a]) (n := 4) (Nat.le_of_ble_eq_true rfl)
  rw [lg_entry_eq]
  generalize (lg_sl ([.ref (q 0), .int (75 : Int32), .ref a]) ++ List.replicate (4 - (lg_sl ([.ref (q 0), .int (75 : Int32), .ref a])).length) Slot.unset).toArray = ls at hl ⊢
  have hl : lv_has ls 4 [(0, .ref (q 0)), (1, .int (75 : Int32)), (2, .ref a)] := hl
  refine lv_iload_n hx hb dL_ask_0 rfl (lv_at hl 1 rfl) ?_
  refine g_sw hx hb (off := 440) (tgt := 441) dL_ask_1 (by decide) (by decide) (by decide) ?_
  refine lv_aload_n hx hb dL_ask_441 rfl (lv_at hl 0 rfl) ?_
  refine lv_iload_n hx hb dL_ask_442 rfl (lv_at hl 1 rfl) ?_
  refine lv_aload_n hx hb dL_ask_443 rfl (lv_at hl 2 rfl) ?_
  rcases z with r1 | k1
  · refine h_cSi (As := [.ref (q 0), .int (75 : Int32), .ref a]) (rest := []) hx hb hml hown hts hK hX hNt (fun a h => h) hP hO hS (mL_asked_clock l hlf hJ ha hp) (va_cwS 3 hts gL_ask_L_asked rfl rfl rfl nVL_asked ⟨Nat.le_of_ble_eq_true rfl, Nat.le_of_ble_eq_true rfl⟩) rfl hl.1 rfl (Nat.le_of_ble_eq_true rfl) dL_ask_444 ⟨Nat.le_of_ble_eq_true rfl, Nat.le_of_ble_eq_true rfl⟩ (fun H locs hP hS => ?_)
    refine W.widen (k := 4) (n := 24) (Nat.le_of_ble_eq_true rfl) (Nat.le_of_ble_eq_true rfl) ?_
    exact W.iret (v := r1) hx hb hr (fun t ht hW => ⟨⟨r1, (), rfl, rfl, by subst ht; exact hP⟩, hS.F ht⟩) hS.2.2 dL_ask_447
  · refine h_cSx (As := [.ref (q 0), .int (75 : Int32), .ref a]) (rest := []) hx hb hml hown hts hK hX hNt (fun a h => h) hP hO hS (mL_asked_clock l hlf hJ ha hp) (va_cwS 3 hts gL_ask_L_asked rfl rfl rfl nVL_asked ⟨Nat.le_of_ble_eq_true rfl, Nat.le_of_ble_eq_true rfl⟩) rfl hl.1 rfl (Nat.le_of_ble_eq_true rfl) dL_ask_444 ⟨Nat.le_of_ble_eq_true rfl, Nat.le_of_ble_eq_true rfl⟩ (fun ce q9 H locs hP hS g1 g2 g3 => ?_)
    exact ask_end (hz k1 rfl) (by decide +kernel) hx hb hr hlocks hown hts hX hNt htab hl hP hS g1 g2 g3 (Nat.le_of_ble_eq_true rfl) (Nat.le_of_ble_eq_true rfl)
set_option maxHeartbeats 4000000 in
set_option maxRecDepth 100000 in
theorem mL_ask_save {D : va_G} {cy : Nat → ClassId} {q : Nat → Nat} (l : Launch) (hlf : l.stackTraces = false) (hJ : gJ 78 q) {a : Nat} (ha : ¬ gA 78 q a) {f : Nat → Int32} {σ : TS} {z : Int32 ⊕ Nat} {u : TS} (hp : sX8_save (f 0) (if f 1 = 1 then 1 else 0) σ = some (z, u)) (hz : okZ z) : Met l yL_ask wsL_ask rmL_ask (va_Pc [.ref (q 0), .int (86 : Int32), .ref a] (hPre D vwCl (tyL cy) (gS 78 q (TX cy q) σ) (iW a cy 2 f) (gA 78 q))) (gQi D vwCl (askR z) (gS 78 q (TX cy q) u) (gA 78 q)) 4 24 (gA 78 q) := by
  refine g_ofWH (cc := cL_ask) (maxL := 4) (ret := (some .int)) (hh := hhA) (by decide +kernel) rfl ?_
  intro p e s m args below meth c s₁ B hml htab hv
  obtain ⟨rfl, ⟨hP, hO, hK⟩, hX, hNt⟩ := hv
  have hx := B.exec
  have hb := B.bytes
  have hr := B.returns
  have hlocks := B.notSynchronized
  have hts := atoms_spec (ws := wsL_ask) B.pre
  have hown : s.vm.findClass RL = some m.cls := findClass_of_methodNamed B.named
  have hS : va_S (gA 78 q) s.heap s.heap [] := va_S.rf
  have hl := lv_entry ([.ref (q 0), .int (86 : Int32), .ref a]) (n := 4) (Nat.le_of_ble_eq_true rfl)
  rw [lg_entry_eq]
  generalize (lg_sl ([.ref (q 0), .int (86 : Int32), .ref a]) ++ List.replicate (4 - (lg_sl ([.ref (q 0), .int (86 : Int32), .ref a])).length) Slot.unset).toArray = ls at hl ⊢
  have hl : lv_has ls 4 [(0, .ref (q 0)), (1, .int (86 : Int32)), (2, .ref a)] := hl
  refine lv_iload_n hx hb dL_ask_0 rfl (lv_at hl 1 rfl) ?_
  refine g_sw hx hb (off := 440) (tgt := 441) dL_ask_1 (by decide) (by decide) (by decide) ?_
  refine lv_aload_n hx hb dL_ask_441 rfl (lv_at hl 0 rfl) ?_
  refine lv_iload_n hx hb dL_ask_442 rfl (lv_at hl 1 rfl) ?_
  refine lv_aload_n hx hb dL_ask_443 rfl (lv_at hl 2 rfl) ?_
  rcases z with r1 | k1
  · refine h_cSi (As := [.ref (q 0), .int (86 : Int32), .ref a]) (rest := []) hx hb hml hown hts hK hX hNt (fun a h => h) hP hO hS (mL_asked_save l hlf hJ ha hp) (va_cwS 3 hts gL_ask_L_asked rfl rfl rfl nVL_asked ⟨Nat.le_of_ble_eq_true rfl, Nat.le_of_ble_eq_true rfl⟩) rfl hl.1 rfl (Nat.le_of_ble_eq_true rfl) dL_ask_444 ⟨Nat.le_of_ble_eq_true rfl, Nat.le_of_ble_eq_true rfl⟩ (fun H locs hP hS => ?_)
    refine W.widen (k := 4) (n := 24) (Nat.le_of_ble_eq_true rfl) (Nat.le_of_ble_eq_true rfl) ?_
    exact W.iret (v := r1) hx hb hr (fun t ht hW => ⟨⟨r1, (), rfl, rfl, by subst ht; exact hP⟩, hS.F ht⟩) hS.2.2 dL_ask_447
  · refine h_cSx (As := [.ref (q 0), .int (86 : Int32), .ref a]) (rest := []) hx hb hml hown hts hK hX hNt (fun a h => h) hP hO hS (mL_asked_save l hlf hJ ha hp) (va_cwS 3 hts gL_ask_L_asked rfl rfl rfl nVL_asked ⟨Nat.le_of_ble_eq_true rfl, Nat.le_of_ble_eq_true rfl⟩) rfl hl.1 rfl (Nat.le_of_ble_eq_true rfl) dL_ask_444 ⟨Nat.le_of_ble_eq_true rfl, Nat.le_of_ble_eq_true rfl⟩ (fun ce q9 H locs hP hS g1 g2 g3 => ?_)
    exact ask_end (hz k1 rfl) (by decide +kernel) hx hb hr hlocks hown hts hX hNt htab hl hP hS g1 g2 g3 (Nat.le_of_ble_eq_true rfl) (Nat.le_of_ble_eq_true rfl)
set_option maxHeartbeats 4000000 in
set_option maxRecDepth 100000 in
theorem mL_ask_load {D : va_G} {cy : Nat → ClassId} {q : Nat → Nat} (l : Launch) (hlf : l.stackTraces = false) (hJ : gJ 78 q) {a : Nat} (ha : ¬ gA 78 q a) {f : Nat → Int32} {σ : TS} {z : Int32 ⊕ Nat} {u : TS} (hp : sX8_load (f 0) σ = some (z, u)) (hz : okZ z) : Met l yL_ask wsL_ask rmL_ask (va_Pc [.ref (q 0), .int (76 : Int32), .ref a] (hPre D vwCl (tyL cy) (gS 78 q (TX cy q) σ) (iW a cy 1 f) (gA 78 q))) (gQi D vwCl (askR z) (gS 78 q (TX cy q) u) (gA 78 q)) 4 24 (gA 78 q) := by
  refine g_ofWH (cc := cL_ask) (maxL := 4) (ret := (some .int)) (hh := hhA) (by decide +kernel) rfl ?_
  intro p e s m args below meth c s₁ B hml htab hv
  obtain ⟨rfl, ⟨hP, hO, hK⟩, hX, hNt⟩ := hv
  have hx := B.exec
  have hb := B.bytes
  have hr := B.returns
  have hlocks := B.notSynchronized
  have hts := atoms_spec (ws := wsL_ask) B.pre
  have hown : s.vm.findClass RL = some m.cls := findClass_of_methodNamed B.named
  have hS : va_S (gA 78 q) s.heap s.heap [] := va_S.rf
  have hl := lv_entry ([.ref (q 0), .int (76 : Int32), .ref a]) (n := 4) (Nat.le_of_ble_eq_true rfl)
  rw [lg_entry_eq]
  generalize (lg_sl ([.ref (q 0), .int (76 : Int32), .ref a]) ++ List.replicate (4 - (lg_sl ([.ref (q 0), .int (76 : Int32), .ref a])).length) Slot.unset).toArray = ls at hl ⊢
  have hl : lv_has ls 4 [(0, .ref (q 0)), (1, .int (76 : Int32)), (2, .ref a)] := hl
  refine lv_iload_n hx hb dL_ask_0 rfl (lv_at hl 1 rfl) ?_
  refine g_sw hx hb (off := 440) (tgt := 441) dL_ask_1 (by decide) (by decide) (by decide) ?_
  refine lv_aload_n hx hb dL_ask_441 rfl (lv_at hl 0 rfl) ?_
  refine lv_iload_n hx hb dL_ask_442 rfl (lv_at hl 1 rfl) ?_
  refine lv_aload_n hx hb dL_ask_443 rfl (lv_at hl 2 rfl) ?_
  rcases z with r1 | k1
  · refine h_cSi (As := [.ref (q 0), .int (76 : Int32), .ref a]) (rest := []) hx hb hml hown hts hK hX hNt (fun a h => h) hP hO hS (mL_asked_load l hlf hJ ha hp) (va_cwS 3 hts gL_ask_L_asked rfl rfl rfl nVL_asked ⟨Nat.le_of_ble_eq_true rfl, Nat.le_of_ble_eq_true rfl⟩) rfl hl.1 rfl (Nat.le_of_ble_eq_true rfl) dL_ask_444 ⟨Nat.le_of_ble_eq_true rfl, Nat.le_of_ble_eq_true rfl⟩ (fun H locs hP hS => ?_)
    refine W.widen (k := 4) (n := 24) (Nat.le_of_ble_eq_true rfl) (Nat.le_of_ble_eq_true rfl) ?_
    exact W.iret (v := r1) hx hb hr (fun t ht hW => ⟨⟨r1, (), rfl, rfl, by subst ht; exact hP⟩, hS.F ht⟩) hS.2.2 dL_ask_447
  · refine h_cSx (As := [.ref (q 0), .int (76 : Int32), .ref a]) (rest := []) hx hb hml hown hts hK hX hNt (fun a h => h) hP hO hS (mL_asked_load l hlf hJ ha hp) (va_cwS 3 hts gL_ask_L_asked rfl rfl rfl nVL_asked ⟨Nat.le_of_ble_eq_true rfl, Nat.le_of_ble_eq_true rfl⟩) rfl hl.1 rfl (Nat.le_of_ble_eq_true rfl) dL_ask_444 ⟨Nat.le_of_ble_eq_true rfl, Nat.le_of_ble_eq_true rfl⟩ (fun ce q9 H locs hP hS g1 g2 g3 => ?_)
    exact ask_end (hz k1 rfl) (by decide +kernel) hx hb hr hlocks hown hts hX hNt htab hl hP hS g1 g2 g3 (Nat.le_of_ble_eq_true rfl) (Nat.le_of_ble_eq_true rfl)
set_option maxHeartbeats 4000000 in
set_option maxRecDepth 100000 in
theorem mL_ask_fault {D : va_G} {cy : Nat → ClassId} {q : Nat → Nat} (l : Launch) (hlf : l.stackTraces = false) (hJ : gJ 78 q) {a : Nat} (ha : ¬ gA 78 q a) {f : Nat → Int32} {σ : TS} {z : Int32 ⊕ Nat} {u : TS} (hp : sX8_fault (f 0) (f 1) (f 2) σ = some (z, u)) (hz : okZ z) : Met l yL_ask wsL_ask rmL_ask (va_Pc [.ref (q 0), .int (70 : Int32), .ref a] (hPre D vwCl (tyL cy) (gS 78 q (TX cy q) σ) (iW a cy 3 f) (gA 78 q))) (gQi D vwCl (askR z) (gS 78 q (TX cy q) u) (gA 78 q)) 4 24 (gA 78 q) := by
  refine g_ofWH (cc := cL_ask) (maxL := 4) (ret := (some .int)) (hh := hhA) (by decide +kernel) rfl ?_
  intro p e s m args below meth c s₁ B hml htab hv
  obtain ⟨rfl, ⟨hP, hO, hK⟩, hX, hNt⟩ := hv
  have hx := B.exec
  have hb := B.bytes
  have hr := B.returns
  have hlocks := B.notSynchronized
  have hts := atoms_spec (ws := wsL_ask) B.pre
  have hown : s.vm.findClass RL = some m.cls := findClass_of_methodNamed B.named
  have hS : va_S (gA 78 q) s.heap s.heap [] := va_S.rf
  have hl := lv_entry ([.ref (q 0), .int (70 : Int32), .ref a]) (n := 4) (Nat.le_of_ble_eq_true rfl)
  rw [lg_entry_eq]
  generalize (lg_sl ([.ref (q 0), .int (70 : Int32), .ref a]) ++ List.replicate (4 - (lg_sl ([.ref (q 0), .int (70 : Int32), .ref a])).length) Slot.unset).toArray = ls at hl ⊢
  have hl : lv_has ls 4 [(0, .ref (q 0)), (1, .int (70 : Int32)), (2, .ref a)] := hl
  refine lv_iload_n hx hb dL_ask_0 rfl (lv_at hl 1 rfl) ?_
  refine g_sw hx hb (off := 440) (tgt := 441) dL_ask_1 (by decide) (by decide) (by decide) ?_
  refine lv_aload_n hx hb dL_ask_441 rfl (lv_at hl 0 rfl) ?_
  refine lv_iload_n hx hb dL_ask_442 rfl (lv_at hl 1 rfl) ?_
  refine lv_aload_n hx hb dL_ask_443 rfl (lv_at hl 2 rfl) ?_
  rcases z with r1 | k1
  · refine h_cSi (As := [.ref (q 0), .int (70 : Int32), .ref a]) (rest := []) hx hb hml hown hts hK hX hNt (fun a h => h) hP hO hS (mL_asked_fault l hlf hJ ha hp) (va_cwS 3 hts gL_ask_L_asked rfl rfl rfl nVL_asked ⟨Nat.le_of_ble_eq_true rfl, Nat.le_of_ble_eq_true rfl⟩) rfl hl.1 rfl (Nat.le_of_ble_eq_true rfl) dL_ask_444 ⟨Nat.le_of_ble_eq_true rfl, Nat.le_of_ble_eq_true rfl⟩ (fun H locs hP hS => ?_)
    refine W.widen (k := 4) (n := 24) (Nat.le_of_ble_eq_true rfl) (Nat.le_of_ble_eq_true rfl) ?_
    exact W.iret (v := r1) hx hb hr (fun t ht hW => ⟨⟨r1, (), rfl, rfl, by subst ht; exact hP⟩, hS.F ht⟩) hS.2.2 dL_ask_447
  · refine h_cSx (As := [.ref (q 0), .int (70 : Int32), .ref a]) (rest := []) hx hb hml hown hts hK hX hNt (fun a h => h) hP hO hS (mL_asked_fault l hlf hJ ha hp) (va_cwS 3 hts gL_ask_L_asked rfl rfl rfl nVL_asked ⟨Nat.le_of_ble_eq_true rfl, Nat.le_of_ble_eq_true rfl⟩) rfl hl.1 rfl (Nat.le_of_ble_eq_true rfl) dL_ask_444 ⟨Nat.le_of_ble_eq_true rfl, Nat.le_of_ble_eq_true rfl⟩ (fun ce q9 H locs hP hS g1 g2 g3 => ?_)
    exact ask_end (hz k1 rfl) (by decide +kernel) hx hb hr hlocks hown hts hX hNt htab hl hP hS g1 g2 g3 (Nat.le_of_ble_eq_true rfl) (Nat.le_of_ble_eq_true rfl)
set_option maxHeartbeats 4000000 in
set_option maxRecDepth 100000 in
theorem mL_ask_position {D : va_G} {cy : Nat → ClassId} {q : Nat → Nat} (l : Launch) (hlf : l.stackTraces = false) (hJ : gJ 78 q) {a : Nat} (ha : ¬ gA 78 q a) {f : Nat → Int32} {σ : TS} {z : Int32 ⊕ Nat} {u : TS} (hp : sX8_position (f 0) σ = some (z, u)) (hz : okZ z) : Met l yL_ask wsL_ask rmL_ask (va_Pc [.ref (q 0), .int (80 : Int32), .ref a] (hPre D vwCl (tyL cy) (gS 78 q (TX cy q) σ) (iW a cy 1 f) (gA 78 q))) (gQi D vwCl (askR z) (gS 78 q (TX cy q) u) (gA 78 q)) 4 24 (gA 78 q) := by
  refine g_ofWH (cc := cL_ask) (maxL := 4) (ret := (some .int)) (hh := hhA) (by decide +kernel) rfl ?_
  intro p e s m args below meth c s₁ B hml htab hv
  obtain ⟨rfl, ⟨hP, hO, hK⟩, hX, hNt⟩ := hv
  have hx := B.exec
  have hb := B.bytes
  have hr := B.returns
  have hlocks := B.notSynchronized
  have hts := atoms_spec (ws := wsL_ask) B.pre
  have hown : s.vm.findClass RL = some m.cls := findClass_of_methodNamed B.named
  have hS : va_S (gA 78 q) s.heap s.heap [] := va_S.rf
  have hl := lv_entry ([.ref (q 0), .int (80 : Int32), .ref a]) (n := 4) (Nat.le_of_ble_eq_true rfl)
  rw [lg_entry_eq]
  generalize (lg_sl ([.ref (q 0), .int (80 : Int32), .ref a]) ++ List.replicate (4 - (lg_sl ([.ref (q 0), .int (80 : Int32), .ref a])).length) Slot.unset).toArray = ls at hl ⊢
  have hl : lv_has ls 4 [(0, .ref (q 0)), (1, .int (80 : Int32)), (2, .ref a)] := hl
  refine lv_iload_n hx hb dL_ask_0 rfl (lv_at hl 1 rfl) ?_
  refine g_sw hx hb (off := 440) (tgt := 441) dL_ask_1 (by decide) (by decide) (by decide) ?_
  refine lv_aload_n hx hb dL_ask_441 rfl (lv_at hl 0 rfl) ?_
  refine lv_iload_n hx hb dL_ask_442 rfl (lv_at hl 1 rfl) ?_
  refine lv_aload_n hx hb dL_ask_443 rfl (lv_at hl 2 rfl) ?_
  rcases z with r1 | k1
  · refine h_cSi (As := [.ref (q 0), .int (80 : Int32), .ref a]) (rest := []) hx hb hml hown hts hK hX hNt (fun a h => h) hP hO hS (mL_asked_position l hlf hJ ha hp) (va_cwS 3 hts gL_ask_L_asked rfl rfl rfl nVL_asked ⟨Nat.le_of_ble_eq_true rfl, Nat.le_of_ble_eq_true rfl⟩) rfl hl.1 rfl (Nat.le_of_ble_eq_true rfl) dL_ask_444 ⟨Nat.le_of_ble_eq_true rfl, Nat.le_of_ble_eq_true rfl⟩ (fun H locs hP hS => ?_)
    refine W.widen (k := 4) (n := 24) (Nat.le_of_ble_eq_true rfl) (Nat.le_of_ble_eq_true rfl) ?_
    exact W.iret (v := r1) hx hb hr (fun t ht hW => ⟨⟨r1, (), rfl, rfl, by subst ht; exact hP⟩, hS.F ht⟩) hS.2.2 dL_ask_447
  · refine h_cSx (As := [.ref (q 0), .int (80 : Int32), .ref a]) (rest := []) hx hb hml hown hts hK hX hNt (fun a h => h) hP hO hS (mL_asked_position l hlf hJ ha hp) (va_cwS 3 hts gL_ask_L_asked rfl rfl rfl nVL_asked ⟨Nat.le_of_ble_eq_true rfl, Nat.le_of_ble_eq_true rfl⟩) rfl hl.1 rfl (Nat.le_of_ble_eq_true rfl) dL_ask_444 ⟨Nat.le_of_ble_eq_true rfl, Nat.le_of_ble_eq_true rfl⟩ (fun ce q9 H locs hP hS g1 g2 g3 => ?_)
    exact ask_end (hz k1 rfl) (by decide +kernel) hx hb hr hlocks hown hts hX hNt htab hl hP hS g1 g2 g3 (Nat.le_of_ble_eq_true rfl) (Nat.le_of_ble_eq_true rfl)
set_option maxHeartbeats 4000000 in
set_option maxRecDepth 100000 in
theorem mL_ask_hasLetGo {D : va_G} {cy : Nat → ClassId} {q : Nat → Nat} (l : Launch) (hlf : l.stackTraces = false) (hJ : gJ 78 q) {a : Nat} (ha : ¬ gA 78 q a) {f : Nat → Int32} {σ : TS} {z : Int32 ⊕ Nat} {u : TS} (hp : sX8_hasLetGo (f 0) σ = some (z, u)) (hz : okZ z) : Met l yL_ask wsL_ask rmL_ask (va_Pc [.ref (q 0), .int (103 : Int32), .ref a] (hPre D vwCl (tyL cy) (gS 78 q (TX cy q) σ) (iW a cy 1 f) (gA 78 q))) (gQi D vwCl (askR (zB z)) (gS 78 q (TX cy q) u) (gA 78 q)) 4 24 (gA 78 q) := by
  refine g_ofWH (cc := cL_ask) (maxL := 4) (ret := (some .int)) (hh := hhA) (by decide +kernel) rfl ?_
  intro p e s m args below meth c s₁ B hml htab hv
  obtain ⟨rfl, ⟨hP, hO, hK⟩, hX, hNt⟩ := hv
  have hx := B.exec
  have hb := B.bytes
  have hr := B.returns
  have hlocks := B.notSynchronized
  have hts := atoms_spec (ws := wsL_ask) B.pre
  have hown : s.vm.findClass RL = some m.cls := findClass_of_methodNamed B.named
  have hS : va_S (gA 78 q) s.heap s.heap [] := va_S.rf
  have hl := lv_entry ([.ref (q 0), .int (103 : Int32), .ref a]) (n := 4) (Nat.le_of_ble_eq_true rfl)
  rw [lg_entry_eq]
  generalize (lg_sl ([.ref (q 0), .int (103 : Int32), .ref a]) ++ List.replicate (4 - (lg_sl ([.ref (q 0), .int (103 : Int32), .ref a])).length) Slot.unset).toArray = ls at hl ⊢
  have hl : lv_has ls 4 [(0, .ref (q 0)), (1, .int (103 : Int32)), (2, .ref a)] := hl
  refine lv_iload_n hx hb dL_ask_0 rfl (lv_at hl 1 rfl) ?_
  refine g_sw hx hb (off := 440) (tgt := 441) dL_ask_1 (by decide) (by decide) (by decide) ?_
  refine lv_aload_n hx hb dL_ask_441 rfl (lv_at hl 0 rfl) ?_
  refine lv_iload_n hx hb dL_ask_442 rfl (lv_at hl 1 rfl) ?_
  refine lv_aload_n hx hb dL_ask_443 rfl (lv_at hl 2 rfl) ?_
  rcases z with r1 | k1
  · refine h_cSi (As := [.ref (q 0), .int (103 : Int32), .ref a]) (rest := []) hx hb hml hown hts hK hX hNt (fun a h => h) hP hO hS (mL_asked_hasLetGo l hlf hJ ha hp) (va_cwS 3 hts gL_ask_L_asked rfl rfl rfl nVL_asked ⟨Nat.le_of_ble_eq_true rfl, Nat.le_of_ble_eq_true rfl⟩) rfl hl.1 rfl (Nat.le_of_ble_eq_true rfl) dL_ask_444 ⟨Nat.le_of_ble_eq_true rfl, Nat.le_of_ble_eq_true rfl⟩ (fun H locs hP hS => ?_)
    refine W.widen (k := 4) (n := 24) (Nat.le_of_ble_eq_true rfl) (Nat.le_of_ble_eq_true rfl) ?_
    exact W.iret (v := (if r1 = 0 then 0 else 1)) hx hb hr (fun t ht hW => ⟨⟨(if r1 = 0 then 0 else 1), (), rfl, rfl, by subst ht; exact hP⟩, hS.F ht⟩) hS.2.2 dL_ask_447
  · refine h_cSx (As := [.ref (q 0), .int (103 : Int32), .ref a]) (rest := []) hx hb hml hown hts hK hX hNt (fun a h => h) hP hO hS (mL_asked_hasLetGo l hlf hJ ha hp) (va_cwS 3 hts gL_ask_L_asked rfl rfl rfl nVL_asked ⟨Nat.le_of_ble_eq_true rfl, Nat.le_of_ble_eq_true rfl⟩) rfl hl.1 rfl (Nat.le_of_ble_eq_true rfl) dL_ask_444 ⟨Nat.le_of_ble_eq_true rfl, Nat.le_of_ble_eq_true rfl⟩ (fun ce q9 H locs hP hS g1 g2 g3 => ?_)
    exact ask_end (hz k1 rfl) (by decide +kernel) hx hb hr hlocks hown hts hX hNt htab hl hP hS g1 g2 g3 (Nat.le_of_ble_eq_true rfl) (Nat.le_of_ble_eq_true rfl)
set_option maxHeartbeats 4000000 in
set_option maxRecDepth 100000 in
theorem mL_ask_arm {D : va_G} {cy : Nat → ClassId} {q : Nat → Nat} (l : Launch) (hlf : l.stackTraces = false) (hJ : gJ 78 q) {a : Nat} (ha : ¬ gA 78 q a) {f : Nat → Int32} {σ : TS} {z : Int32 ⊕ Nat} {u : TS} (hp : sX8_arm (lchr (f 0)) σ = some (z, u)) (hz : okZ z) : Met l yL_ask wsL_ask rmL_ask (va_Pc [.ref (q 0), .int (65 : Int32), .ref a] (hPre D vwCl (tyL cy) (gS 78 q (TX cy q) σ) (iW a cy 1 f) (gA 78 q))) (gQi D vwCl (askR z) (gS 78 q (TX cy q) u) (gA 78 q)) 4 24 (gA 78 q) := by
  refine g_ofWH (cc := cL_ask) (maxL := 4) (ret := (some .int)) (hh := hhA) (by decide +kernel) rfl ?_
  intro p e s m args below meth c s₁ B hml htab hv
  obtain ⟨rfl, ⟨hP, hO, hK⟩, hX, hNt⟩ := hv
  have hx := B.exec
  have hb := B.bytes
  have hr := B.returns
  have hlocks := B.notSynchronized
  have hts := atoms_spec (ws := wsL_ask) B.pre
  have hown : s.vm.findClass RL = some m.cls := findClass_of_methodNamed B.named
  have hS : va_S (gA 78 q) s.heap s.heap [] := va_S.rf
  have hl := lv_entry ([.ref (q 0), .int (65 : Int32), .ref a]) (n := 4) (Nat.le_of_ble_eq_true rfl)
  rw [lg_entry_eq]
  generalize (lg_sl ([.ref (q 0), .int (65 : Int32), .ref a]) ++ List.replicate (4 - (lg_sl ([.ref (q 0), .int (65 : Int32), .ref a])).length) Slot.unset).toArray = ls at hl ⊢
  have hl : lv_has ls 4 [(0, .ref (q 0)), (1, .int (65 : Int32)), (2, .ref a)] := hl
  refine lv_iload_n hx hb dL_ask_0 rfl (lv_at hl 1 rfl) ?_
  refine g_sw hx hb (off := 440) (tgt := 441) dL_ask_1 (by decide) (by decide) (by decide) ?_
  refine lv_aload_n hx hb dL_ask_441 rfl (lv_at hl 0 rfl) ?_
  refine lv_iload_n hx hb dL_ask_442 rfl (lv_at hl 1 rfl) ?_
  refine lv_aload_n hx hb dL_ask_443 rfl (lv_at hl 2 rfl) ?_
  rcases z with r1 | k1
  · refine h_cSi (As := [.ref (q 0), .int (65 : Int32), .ref a]) (rest := []) hx hb hml hown hts hK hX hNt (fun a h => h) hP hO hS (mL_asked_arm l hlf hJ ha hp) (va_cwS 3 hts gL_ask_L_asked rfl rfl rfl nVL_asked ⟨Nat.le_of_ble_eq_true rfl, Nat.le_of_ble_eq_true rfl⟩) rfl hl.1 rfl (Nat.le_of_ble_eq_true rfl) dL_ask_444 ⟨Nat.le_of_ble_eq_true rfl, Nat.le_of_ble_eq_true rfl⟩ (fun H locs hP hS => ?_)
    refine W.widen (k := 4) (n := 24) (Nat.le_of_ble_eq_true rfl) (Nat.le_of_ble_eq_true rfl) ?_
    exact W.iret (v := r1) hx hb hr (fun t ht hW => ⟨⟨r1, (), rfl, rfl, by subst ht; exact hP⟩, hS.F ht⟩) hS.2.2 dL_ask_447
  · refine h_cSx (As := [.ref (q 0), .int (65 : Int32), .ref a]) (rest := []) hx hb hml hown hts hK hX hNt (fun a h => h) hP hO hS (mL_asked_arm l hlf hJ ha hp) (va_cwS 3 hts gL_ask_L_asked rfl rfl rfl nVL_asked ⟨Nat.le_of_ble_eq_true rfl, Nat.le_of_ble_eq_true rfl⟩) rfl hl.1 rfl (Nat.le_of_ble_eq_true rfl) dL_ask_444 ⟨Nat.le_of_ble_eq_true rfl, Nat.le_of_ble_eq_true rfl⟩ (fun ce q9 H locs hP hS g1 g2 g3 => ?_)
    exact ask_end (hz k1 rfl) (by decide +kernel) hx hb hr hlocks hown hts hX hNt htab hl hP hS g1 g2 g3 (Nat.le_of_ble_eq_true rfl) (Nat.le_of_ble_eq_true rfl)
set_option maxHeartbeats 4000000 in
set_option maxRecDepth 100000 in
theorem mL_ask_give {D : va_G} {cy : Nat → ClassId} {q : Nat → Nat} (l : Launch) (hlf : l.stackTraces = false) (hJ : gJ 78 q) {a : Nat} (ha : ¬ gA 78 q a) {f : Nat → Int32} {σ : TS} {z : Int32 ⊕ Nat} {u : TS} (hp : sX8_give (lchr (f 0)) σ = some (z, u)) (hz : okZ z) : Met l yL_ask wsL_ask rmL_ask (va_Pc [.ref (q 0), .int (71 : Int32), .ref a] (hPre D vwCl (tyL cy) (gS 78 q (TX cy q) σ) (iW a cy 1 f) (gA 78 q))) (gQi D vwCl (askR z) (gS 78 q (TX cy q) u) (gA 78 q)) 4 24 (gA 78 q) := by
  refine g_ofWH (cc := cL_ask) (maxL := 4) (ret := (some .int)) (hh := hhA) (by decide +kernel) rfl ?_
  intro p e s m args below meth c s₁ B hml htab hv
  obtain ⟨rfl, ⟨hP, hO, hK⟩, hX, hNt⟩ := hv
  have hx := B.exec
  have hb := B.bytes
  have hr := B.returns
  have hlocks := B.notSynchronized
  have hts := atoms_spec (ws := wsL_ask) B.pre
  have hown : s.vm.findClass RL = some m.cls := findClass_of_methodNamed B.named
  have hS : va_S (gA 78 q) s.heap s.heap [] := va_S.rf
  have hl := lv_entry ([.ref (q 0), .int (71 : Int32), .ref a]) (n := 4) (Nat.le_of_ble_eq_true rfl)
  rw [lg_entry_eq]
  generalize (lg_sl ([.ref (q 0), .int (71 : Int32), .ref a]) ++ List.replicate (4 - (lg_sl ([.ref (q 0), .int (71 : Int32), .ref a])).length) Slot.unset).toArray = ls at hl ⊢
  have hl : lv_has ls 4 [(0, .ref (q 0)), (1, .int (71 : Int32)), (2, .ref a)] := hl
  refine lv_iload_n hx hb dL_ask_0 rfl (lv_at hl 1 rfl) ?_
  refine g_sw hx hb (off := 440) (tgt := 441) dL_ask_1 (by decide) (by decide) (by decide) ?_
  refine lv_aload_n hx hb dL_ask_441 rfl (lv_at hl 0 rfl) ?_
  refine lv_iload_n hx hb dL_ask_442 rfl (lv_at hl 1 rfl) ?_
  refine lv_aload_n hx hb dL_ask_443 rfl (lv_at hl 2 rfl) ?_
  rcases z with r1 | k1
  · refine h_cSi (As := [.ref (q 0), .int (71 : Int32), .ref a]) (rest := []) hx hb hml hown hts hK hX hNt (fun a h => h) hP hO hS (mL_asked_give l hlf hJ ha hp) (va_cwS 3 hts gL_ask_L_asked rfl rfl rfl nVL_asked ⟨Nat.le_of_ble_eq_true rfl, Nat.le_of_ble_eq_true rfl⟩) rfl hl.1 rfl (Nat.le_of_ble_eq_true rfl) dL_ask_444 ⟨Nat.le_of_ble_eq_true rfl, Nat.le_of_ble_eq_true rfl⟩ (fun H locs hP hS => ?_)
    refine W.widen (k := 4) (n := 24) (Nat.le_of_ble_eq_true rfl) (Nat.le_of_ble_eq_true rfl) ?_
    exact W.iret (v := r1) hx hb hr (fun t ht hW => ⟨⟨r1, (), rfl, rfl, by subst ht; exact hP⟩, hS.F ht⟩) hS.2.2 dL_ask_447
  · refine h_cSx (As := [.ref (q 0), .int (71 : Int32), .ref a]) (rest := []) hx hb hml hown hts hK hX hNt (fun a h => h) hP hO hS (mL_asked_give l hlf hJ ha hp) (va_cwS 3 hts gL_ask_L_asked rfl rfl rfl nVL_asked ⟨Nat.le_of_ble_eq_true rfl, Nat.le_of_ble_eq_true rfl⟩) rfl hl.1 rfl (Nat.le_of_ble_eq_true rfl) dL_ask_444 ⟨Nat.le_of_ble_eq_true rfl, Nat.le_of_ble_eq_true rfl⟩ (fun ce q9 H locs hP hS g1 g2 g3 => ?_)
    exact ask_end (hz k1 rfl) (by decide +kernel) hx hb hr hlocks hown hts hX hNt htab hl hP hS g1 g2 g3 (Nat.le_of_ble_eq_true rfl) (Nat.le_of_ble_eq_true rfl)
set_option maxHeartbeats 4000000 in
set_option maxRecDepth 100000 in
theorem mL_ask_line {D : va_G} {cy : Nat → ClassId} {q : Nat → Nat} (l : Launch) (hlf : l.stackTraces = false) (hJ : gJ 78 q) {a : Nat} (ha : ¬ gA 78 q a) {f : Nat → Int32} {σ : TS} {z : Int32 ⊕ Nat} {u : TS} (hp : sX8_line (f 0) (lchr (f 1)) σ = some (z, u)) (hz : okZ z) : Met l yL_ask wsL_ask rmL_ask (va_Pc [.ref (q 0), .int (78 : Int32), .ref a] (hPre D vwCl (tyL cy) (gS 78 q (TX cy q) σ) (iW a cy 2 f) (gA 78 q))) (gQi D vwCl (askR z) (gS 78 q (TX cy q) u) (gA 78 q)) 4 24 (gA 78 q) := by
  refine g_ofWH (cc := cL_ask) (maxL := 4) (ret := (some .int)) (hh := hhA) (by decide +kernel) rfl ?_
  intro p e s m args below meth c s₁ B hml htab hv
  obtain ⟨rfl, ⟨hP, hO, hK⟩, hX, hNt⟩ := hv
  have hx := B.exec
  have hb := B.bytes
  have hr := B.returns
  have hlocks := B.notSynchronized
  have hts := atoms_spec (ws := wsL_ask) B.pre
  have hown : s.vm.findClass RL = some m.cls := findClass_of_methodNamed B.named
  have hS : va_S (gA 78 q) s.heap s.heap [] := va_S.rf
  have hl := lv_entry ([.ref (q 0), .int (78 : Int32), .ref a]) (n := 4) (Nat.le_of_ble_eq_true rfl)
  rw [lg_entry_eq]
  generalize (lg_sl ([.ref (q 0), .int (78 : Int32), .ref a]) ++ List.replicate (4 - (lg_sl ([.ref (q 0), .int (78 : Int32), .ref a])).length) Slot.unset).toArray = ls at hl ⊢
  have hl : lv_has ls 4 [(0, .ref (q 0)), (1, .int (78 : Int32)), (2, .ref a)] := hl
  refine lv_iload_n hx hb dL_ask_0 rfl (lv_at hl 1 rfl) ?_
  refine g_sw hx hb (off := 440) (tgt := 441) dL_ask_1 (by decide) (by decide) (by decide) ?_
  refine lv_aload_n hx hb dL_ask_441 rfl (lv_at hl 0 rfl) ?_
  refine lv_iload_n hx hb dL_ask_442 rfl (lv_at hl 1 rfl) ?_
  refine lv_aload_n hx hb dL_ask_443 rfl (lv_at hl 2 rfl) ?_
  rcases z with r1 | k1
  · refine h_cSi (As := [.ref (q 0), .int (78 : Int32), .ref a]) (rest := []) hx hb hml hown hts hK hX hNt (fun a h => h) hP hO hS (mL_asked_line l hlf hJ ha hp) (va_cwS 3 hts gL_ask_L_asked rfl rfl rfl nVL_asked ⟨Nat.le_of_ble_eq_true rfl, Nat.le_of_ble_eq_true rfl⟩) rfl hl.1 rfl (Nat.le_of_ble_eq_true rfl) dL_ask_444 ⟨Nat.le_of_ble_eq_true rfl, Nat.le_of_ble_eq_true rfl⟩ (fun H locs hP hS => ?_)
    refine W.widen (k := 4) (n := 24) (Nat.le_of_ble_eq_true rfl) (Nat.le_of_ble_eq_true rfl) ?_
    exact W.iret (v := r1) hx hb hr (fun t ht hW => ⟨⟨r1, (), rfl, rfl, by subst ht; exact hP⟩, hS.F ht⟩) hS.2.2 dL_ask_447
  · refine h_cSx (As := [.ref (q 0), .int (78 : Int32), .ref a]) (rest := []) hx hb hml hown hts hK hX hNt (fun a h => h) hP hO hS (mL_asked_line l hlf hJ ha hp) (va_cwS 3 hts gL_ask_L_asked rfl rfl rfl nVL_asked ⟨Nat.le_of_ble_eq_true rfl, Nat.le_of_ble_eq_true rfl⟩) rfl hl.1 rfl (Nat.le_of_ble_eq_true rfl) dL_ask_444 ⟨Nat.le_of_ble_eq_true rfl, Nat.le_of_ble_eq_true rfl⟩ (fun ce q9 H locs hP hS g1 g2 g3 => ?_)
    exact ask_end (hz k1 rfl) (by decide +kernel) hx hb hr hlocks hown hts hX hNt htab hl hP hS g1 g2 g3 (Nat.le_of_ble_eq_true rfl) (Nat.le_of_ble_eq_true rfl)

theorem mwL_code_13 : Cond.classLink RL 13 (xn 1) ∈ wsL_code := by decide +kernel
theorem mwL_code_15 : Cond.classLink RL 15 (xn 2) ∈ wsL_code := by decide +kernel
theorem mwL_code_17 : Cond.classLink RL 17 (xn 3) ∈ wsL_code := by decide +kernel
abbrev rmL_code : Room := { frames := 8, cells := 3, slots := 18, locals := 136 }
theorem nVL_code : yL_code.cls ≠ "java/lang/invoke/MethodHandle" ∧ yL_code.cls ≠ "java/lang/invoke/VarHandle" ∧ (parseMethodDescriptor yL_code.desc).map (fun d => d.parameters.length) = some 6 := by decide +kernel
set_option maxHeartbeats 4000000 in
set_option maxRecDepth 100000 in
theorem mL_code {D : va_G} {cy : Nat → ClassId} {q : Nat → Nat} (l : Launch) (hlf : l.stackTraces = false) (hJ : gJ 78 q) {o : Nat} (ho : ¬ gA 78 q o) {fo : Nat → Int64} {x1 : Int32} {x2 : Int32} {x3 : Int32} {x4 : Int32} {σ : TS} {z : Int32 ⊕ Nat} {u : TS} {r : Int32} (hp : sX8_code x1 x2 x3 x4 σ = some (z, u)) (hz : lhz [(1, 1), (2, 2), (3, 3)] z = some r) : Met l yL_code wsL_code rmL_code (va_Pc [.ref (q (0)), .int x1, .int x2, .int x3, .int x4, .ref o] (hPre D vwCl (tyL cy) (gS 78 q (TX cy q) σ) (oW o cy fo) (hA q o))) (va_Qi (fun r' (_ : Unit) => r' = r) (fun _ t => va_P D vwCl (gS 78 q (TX cy q) u) t.heap ∧ va_P D vwCl (oW o cy (lo z fo)) t.heap) (hA q o)) 3 18 (hA q o) := by
  refine g_ofWH (cc := cL_code) (maxL := 7) (ret := (some .int)) (hh := [(0, 14, 17, 13), (0, 14, 21, 15), (0, 14, 25, 17)]) (by decide +kernel) rfl ?_
  intro p e s m args below meth c s₁ B hml htab hv
  obtain ⟨rfl, ⟨hP, hO, hK⟩, hX, hNt⟩ := hv
  have hx := B.exec
  have hb := B.bytes
  have hr := B.returns
  have hlocks := B.notSynchronized
  have hts := atoms_spec (ws := wsL_code) B.pre
  have hown : s.vm.findClass RL = some m.cls := findClass_of_methodNamed B.named
  have hS : va_S (hA q o) s.heap s.heap [] := va_S.rf
  have hl := lv_entry ([.ref (q (0)), .int x1, .int x2, .int x3, .int x4, .ref o]) (n := 7) (Nat.le_of_ble_eq_true rfl)
  rw [lg_entry_eq]
  generalize (lg_sl ([.ref (q (0)), .int x1, .int x2, .int x3, .int x4, .ref o]) ++ List.replicate (7 - (lg_sl ([.ref (q (0)), .int x1, .int x2, .int x3, .int x4, .ref o])).length) Slot.unset).toArray = ls at hl ⊢
  have hl : lv_has ls 7 [(0, .ref (q (0))), (1, .int x1), (2, .int x2), (3, .int x3), (4, .int x4), (5, .ref o)] := hl
  refine lv_aload hx hb dL_code_0 (lv_at hl 5 rfl) ?_
  refine lv_iconst (v := (0 : Int32)) hx hb dL_code_2 (by decide) ?_
  refine lv_aload_n hx hb dL_code_3 rfl (lv_at hl 0 rfl) ?_
  refine lv_iload_n hx hb dL_code_4 rfl (lv_at hl 1 rfl) ?_
  refine lv_iload_n hx hb dL_code_5 rfl (lv_at hl 2 rfl) ?_
  refine lv_iload_n hx hb dL_code_6 rfl (lv_at hl 3 rfl) ?_
  refine lv_iload hx hb dL_code_7 (lv_at hl 4 rfl) ?_
  rcases z with r1 | k1
  · have hz : some (0 : Int32) = some r := hz
    cases hz
    refine h_cVi (As := [.int x1, .int x2, .int x3, .int x4]) (rest := [.int (0 : Int32), .ref o]) hx hb hml hown hts hK hX (fun a h => Or.inl h) hP hO (h_odis ho) hS (mX8_code l hlf hJ hp) (cwV 4 hts gL_code_X8_code rfl rfl rfl nVX8_code ⟨Nat.le_of_ble_eq_true rfl, Nat.le_of_ble_eq_true rfl⟩) (g_recv hK hP kk_Tri ce_Tri rfl) rfl hl.1 rfl (Nat.le_of_ble_eq_true rfl) dL_code_9 ⟨Nat.le_of_ble_eq_true rfl, Nat.le_of_ble_eq_true rfl⟩ (fun H locs hP hO hS => ?_)
    refine lv_i2l hx hb dL_code_12 rfl ?_
    refine h_last hx hb hK hJ ho hP hO hS dL_code_13 (fun H locs hP hO hS => ?_)
    refine lv_goto (tgt := 29) hx hb dL_code_14 (by decide) ?_
    refine lv_iconst (v := (0 : Int32)) hx hb dL_code_29 (by decide) ?_
    exact W.iret (v := (0 : Int32)) hx hb hr (fun t ht hW => ⟨⟨(0 : Int32), (), rfl, rfl, by subst ht; exact ⟨hP, hO⟩⟩, hS.F ht⟩) hS.2.2 dL_code_30
  · skip
    by_cases h1 : k1 = 1
    · subst h1
      have hz : some (1 : Int32) = some r := hz
      cases hz
      refine h_cVx (As := [.int x1, .int x2, .int x3, .int x4]) (rest := [.int (0 : Int32), .ref o]) hx hb hml hown hts hK hX (fun a h => Or.inl h) hP hO (h_odis ho) hS (mX8_code l hlf hJ hp) (cwV 4 hts gL_code_X8_code rfl rfl rfl nVX8_code ⟨Nat.le_of_ble_eq_true rfl, Nat.le_of_ble_eq_true rfl⟩) (g_recv hK hP kk_Tri ce_Tri rfl) rfl hl.1 rfl (Nat.le_of_ble_eq_true rfl) dL_code_9 ⟨Nat.le_of_ble_eq_true rfl, Nat.le_of_ble_eq_true rfl⟩ (fun ce q9 H locs hP hO hS g1 g2 g3 => ?_)
      refine vx_catch (own := RL) (name := xn 1) hown [] (⟨0, 14, 17, 13⟩ : ExceptionTableEntry) [(⟨0, 14, 21, 15⟩ : ExceptionTableEntry), (⟨0, 14, 25, 17⟩ : ExceptionTableEntry)] htab (fun z hz => nomatch hz) (by decide) (by decide) (hts _ mwL_code_13) (va_Nw.use rfl (hX.2.2.2.1 (xn 1, xn 1) (by decide +kernel))) g1 g2 g3 ?_
      refine lv_astore (lv' := [(6, .ref q9), (0, .ref (q (0))), (1, .int x1), (2, .int x2), (3, .int x3), (4, .int x4), (5, .ref o)]) hx hb dL_code_17 hl (by decide) rfl (fun ls hl => ?_)
      refine lv_iconst (v := (1 : Int32)) hx hb dL_code_19 (by decide) ?_
      exact W.iret (v := (1 : Int32)) hx hb hr (fun t ht hW => ⟨⟨(1 : Int32), (), rfl, rfl, by subst ht; exact ⟨hP, hO⟩⟩, hS.F ht⟩) hS.2.2 dL_code_20
    by_cases h2 : k1 = 2
    · subst h2
      have hz : some (2 : Int32) = some r := hz
      cases hz
      refine h_cVx (As := [.int x1, .int x2, .int x3, .int x4]) (rest := [.int (0 : Int32), .ref o]) hx hb hml hown hts hK hX (fun a h => Or.inl h) hP hO (h_odis ho) hS (mX8_code l hlf hJ hp) (cwV 4 hts gL_code_X8_code rfl rfl rfl nVX8_code ⟨Nat.le_of_ble_eq_true rfl, Nat.le_of_ble_eq_true rfl⟩) (g_recv hK hP kk_Tri ce_Tri rfl) rfl hl.1 rfl (Nat.le_of_ble_eq_true rfl) dL_code_9 ⟨Nat.le_of_ble_eq_true rfl, Nat.le_of_ble_eq_true rfl⟩ (fun ce q9 H locs hP hO hS g1 g2 g3 => ?_)
      refine vx_catch (own := RL) (name := xn 2) hown [(⟨0, 14, 17, 13⟩ : ExceptionTableEntry)] (⟨0, 14, 21, 15⟩ : ExceptionTableEntry) [(⟨0, 14, 25, 17⟩ : ExceptionTableEntry)] htab (fun z hz => by
        simp only [List.mem_cons, List.not_mem_nil, or_false] at hz
        rcases hz with rfl
        · exact Or.inr ⟨by decide, xn 1, hts _ mwL_code_13, hNt (xn 2, xn 1) (by decide +kernel)⟩) (by decide) (by decide) (hts _ mwL_code_15) (va_Nw.use rfl (hX.2.2.2.1 (xn 2, xn 2) (by decide +kernel))) g1 g2 g3 ?_
      refine lv_astore (lv' := [(6, .ref q9), (0, .ref (q (0))), (1, .int x1), (2, .int x2), (3, .int x3), (4, .int x4), (5, .ref o)]) hx hb dL_code_21 hl (by decide) rfl (fun ls hl => ?_)
      refine lv_iconst (v := (2 : Int32)) hx hb dL_code_23 (by decide) ?_
      exact W.iret (v := (2 : Int32)) hx hb hr (fun t ht hW => ⟨⟨(2 : Int32), (), rfl, rfl, by subst ht; exact ⟨hP, hO⟩⟩, hS.F ht⟩) hS.2.2 dL_code_24
    by_cases h3 : k1 = 3
    · subst h3
      have hz : some (3 : Int32) = some r := hz
      cases hz
      refine h_cVx (As := [.int x1, .int x2, .int x3, .int x4]) (rest := [.int (0 : Int32), .ref o]) hx hb hml hown hts hK hX (fun a h => Or.inl h) hP hO (h_odis ho) hS (mX8_code l hlf hJ hp) (cwV 4 hts gL_code_X8_code rfl rfl rfl nVX8_code ⟨Nat.le_of_ble_eq_true rfl, Nat.le_of_ble_eq_true rfl⟩) (g_recv hK hP kk_Tri ce_Tri rfl) rfl hl.1 rfl (Nat.le_of_ble_eq_true rfl) dL_code_9 ⟨Nat.le_of_ble_eq_true rfl, Nat.le_of_ble_eq_true rfl⟩ (fun ce q9 H locs hP hO hS g1 g2 g3 => ?_)
      refine vx_catch (own := RL) (name := xn 3) hown [(⟨0, 14, 17, 13⟩ : ExceptionTableEntry), (⟨0, 14, 21, 15⟩ : ExceptionTableEntry)] (⟨0, 14, 25, 17⟩ : ExceptionTableEntry) [] htab (fun z hz => by
        simp only [List.mem_cons, List.not_mem_nil, or_false] at hz
        rcases hz with rfl | rfl
        · exact Or.inr ⟨by decide, xn 1, hts _ mwL_code_13, hNt (xn 3, xn 1) (by decide +kernel)⟩
        · exact Or.inr ⟨by decide, xn 2, hts _ mwL_code_15, hNt (xn 3, xn 2) (by decide +kernel)⟩) (by decide) (by decide) (hts _ mwL_code_17) (va_Nw.use rfl (hX.2.2.2.1 (xn 3, xn 3) (by decide +kernel))) g1 g2 g3 ?_
      refine lv_astore (lv' := [(6, .ref q9), (0, .ref (q (0))), (1, .int x1), (2, .int x2), (3, .int x3), (4, .int x4), (5, .ref o)]) hx hb dL_code_25 hl (by decide) rfl (fun ls hl => ?_)
      refine lv_iconst (v := (3 : Int32)) hx hb dL_code_27 (by decide) ?_
      exact W.iret (v := (3 : Int32)) hx hb hr (fun t ht hW => ⟨⟨(3 : Int32), (), rfl, rfl, by subst ht; exact ⟨hP, hO⟩⟩, hS.F ht⟩) hS.2.2 dL_code_28
    exfalso
    simp [lhz, lhk, h1, h2, h3] at hz
theorem mwL_clear_13 : Cond.classLink RL 13 (xn 1) ∈ wsL_clear := by decide +kernel
abbrev rmL_clear : Room := { frames := 8, cells := 1, slots := 6, locals := 133 }
theorem nVL_clear : yL_clear.cls ≠ "java/lang/invoke/MethodHandle" ∧ yL_clear.cls ≠ "java/lang/invoke/VarHandle" ∧ (parseMethodDescriptor yL_clear.desc).map (fun d => d.parameters.length) = some 3 := by decide +kernel
set_option maxHeartbeats 4000000 in
set_option maxRecDepth 100000 in
theorem mL_clear {D : va_G} {cy : Nat → ClassId} {q : Nat → Nat} (l : Launch) (hlf : l.stackTraces = false) (hJ : gJ 78 q) {o : Nat} (ho : ¬ gA 78 q o) {fo : Nat → Int64} {x1 : Int32} {σ : TS} {z : Int32 ⊕ Nat} {u : TS} {r : Int32} (hp : sX8_clear x1 σ = some (z, u)) (hz : lhz [(1, 1)] z = some r) : Met l yL_clear wsL_clear rmL_clear (va_Pc [.ref (q (0)), .int x1, .ref o] (hPre D vwCl (tyL cy) (gS 78 q (TX cy q) σ) (oW o cy fo) (hA q o))) (va_Qi (fun r' (_ : Unit) => r' = r) (fun _ t => va_P D vwCl (gS 78 q (TX cy q) u) t.heap ∧ va_P D vwCl (oW o cy (lo z fo)) t.heap) (hA q o)) 1 6 (hA q o) := by
  refine g_ofWH (cc := cL_clear) (maxL := 4) (ret := (some .int)) (hh := [(0, 9, 12, 13)]) (by decide +kernel) rfl ?_
  intro p e s m args below meth c s₁ B hml htab hv
  obtain ⟨rfl, ⟨hP, hO, hK⟩, hX, hNt⟩ := hv
  have hx := B.exec
  have hb := B.bytes
  have hr := B.returns
  have hlocks := B.notSynchronized
  have hts := atoms_spec (ws := wsL_clear) B.pre
  have hown : s.vm.findClass RL = some m.cls := findClass_of_methodNamed B.named
  have hS : va_S (hA q o) s.heap s.heap [] := va_S.rf
  have hl := lv_entry ([.ref (q (0)), .int x1, .ref o]) (n := 4) (Nat.le_of_ble_eq_true rfl)
  rw [lg_entry_eq]
  generalize (lg_sl ([.ref (q (0)), .int x1, .ref o]) ++ List.replicate (4 - (lg_sl ([.ref (q (0)), .int x1, .ref o])).length) Slot.unset).toArray = ls at hl ⊢
  have hl : lv_has ls 4 [(0, .ref (q (0))), (1, .int x1), (2, .ref o)] := hl
  refine lv_aload_n hx hb dL_clear_0 rfl (lv_at hl 2 rfl) ?_
  refine lv_iconst (v := (0 : Int32)) hx hb dL_clear_1 (by decide) ?_
  refine lv_aload_n hx hb dL_clear_2 rfl (lv_at hl 0 rfl) ?_
  refine lv_iload_n hx hb dL_clear_3 rfl (lv_at hl 1 rfl) ?_
  rcases z with r1 | k1
  · have hz : some (0 : Int32) = some r := hz
    cases hz
    refine h_cVi (As := [.int x1]) (rest := [.int (0 : Int32), .ref o]) hx hb hml hown hts hK hX (fun a h => Or.inl h) hP hO (h_odis ho) hS (mX8_clear l hlf hJ hp) (cwV 1 hts gL_clear_X8_clear rfl rfl rfl nVX8_clear ⟨Nat.le_of_ble_eq_true rfl, Nat.le_of_ble_eq_true rfl⟩) (g_recv hK hP kk_Tri ce_Tri rfl) rfl hl.1 rfl (Nat.le_of_ble_eq_true rfl) dL_clear_4 ⟨Nat.le_of_ble_eq_true rfl, Nat.le_of_ble_eq_true rfl⟩ (fun H locs hP hO hS => ?_)
    refine lv_i2l hx hb dL_clear_7 rfl ?_
    refine h_last hx hb hK hJ ho hP hO hS dL_clear_8 (fun H locs hP hO hS => ?_)
    refine lv_goto (tgt := 15) hx hb dL_clear_9 (by decide) ?_
    refine lv_iconst (v := (0 : Int32)) hx hb dL_clear_15 (by decide) ?_
    exact W.iret (v := (0 : Int32)) hx hb hr (fun t ht hW => ⟨⟨(0 : Int32), (), rfl, rfl, by subst ht; exact ⟨hP, hO⟩⟩, hS.F ht⟩) hS.2.2 dL_clear_16
  · skip
    by_cases h1 : k1 = 1
    · subst h1
      have hz : some (1 : Int32) = some r := hz
      cases hz
      refine h_cVx (As := [.int x1]) (rest := [.int (0 : Int32), .ref o]) hx hb hml hown hts hK hX (fun a h => Or.inl h) hP hO (h_odis ho) hS (mX8_clear l hlf hJ hp) (cwV 1 hts gL_clear_X8_clear rfl rfl rfl nVX8_clear ⟨Nat.le_of_ble_eq_true rfl, Nat.le_of_ble_eq_true rfl⟩) (g_recv hK hP kk_Tri ce_Tri rfl) rfl hl.1 rfl (Nat.le_of_ble_eq_true rfl) dL_clear_4 ⟨Nat.le_of_ble_eq_true rfl, Nat.le_of_ble_eq_true rfl⟩ (fun ce q9 H locs hP hO hS g1 g2 g3 => ?_)
      refine vx_catch (own := RL) (name := xn 1) hown [] (⟨0, 9, 12, 13⟩ : ExceptionTableEntry) [] htab (fun z hz => nomatch hz) (by decide) (by decide) (hts _ mwL_clear_13) (va_Nw.use rfl (hX.2.2.2.1 (xn 1, xn 1) (by decide +kernel))) g1 g2 g3 ?_
      refine lv_astore_n (lv' := [(3, .ref q9), (0, .ref (q (0))), (1, .int x1), (2, .ref o)]) hx hb dL_clear_12 rfl hl (by decide) rfl (fun ls hl => ?_)
      refine lv_iconst (v := (1 : Int32)) hx hb dL_clear_13 (by decide) ?_
      exact W.iret (v := (1 : Int32)) hx hb hr (fun t ht hW => ⟨⟨(1 : Int32), (), rfl, rfl, by subst ht; exact ⟨hP, hO⟩⟩, hS.F ht⟩) hS.2.2 dL_clear_14
    exfalso
    simp [lhz, lhk, h1] at hz
theorem mwL_slot_13 : Cond.classLink RL 13 (xn 1) ∈ wsL_slot := by decide +kernel
abbrev rmL_slot : Room := { frames := 8, cells := 3, slots := 18, locals := 135 }
theorem nVL_slot : yL_slot.cls ≠ "java/lang/invoke/MethodHandle" ∧ yL_slot.cls ≠ "java/lang/invoke/VarHandle" ∧ (parseMethodDescriptor yL_slot.desc).map (fun d => d.parameters.length) = some 5 := by decide +kernel
set_option maxHeartbeats 4000000 in
set_option maxRecDepth 100000 in
theorem mL_slot {D : va_G} {cy : Nat → ClassId} {q : Nat → Nat} (l : Launch) (hlf : l.stackTraces = false) (hJ : gJ 78 q) {o : Nat} (ho : ¬ gA 78 q o) {fo : Nat → Int64} {x1 : Int32} {x2 : Int32} {x3 : Int32} {σ : TS} {z : Int32 ⊕ Nat} {u : TS} {r : Int32} (hp : sX8_slot x1 x2 x3 σ = some (z, u)) (hz : lhz [(1, 1)] z = some r) : Met l yL_slot wsL_slot rmL_slot (va_Pc [.ref (q (0)), .int x1, .int x2, .int x3, .ref o] (hPre D vwCl (tyL cy) (gS 78 q (TX cy q) σ) (oW o cy fo) (hA q o))) (va_Qi (fun r' (_ : Unit) => r' = r) (fun _ t => va_P D vwCl (gS 78 q (TX cy q) u) t.heap ∧ va_P D vwCl (oW o cy (lo z fo)) t.heap) (hA q o)) 3 18 (hA q o) := by
  refine g_ofWH (cc := cL_slot) (maxL := 6) (ret := (some .int)) (hh := [(0, 12, 15, 13)]) (by decide +kernel) rfl ?_
  intro p e s m args below meth c s₁ B hml htab hv
  obtain ⟨rfl, ⟨hP, hO, hK⟩, hX, hNt⟩ := hv
  have hx := B.exec
  have hb := B.bytes
  have hr := B.returns
  have hlocks := B.notSynchronized
  have hts := atoms_spec (ws := wsL_slot) B.pre
  have hown : s.vm.findClass RL = some m.cls := findClass_of_methodNamed B.named
  have hS : va_S (hA q o) s.heap s.heap [] := va_S.rf
  have hl := lv_entry ([.ref (q (0)), .int x1, .int x2, .int x3, .ref o]) (n := 6) (Nat.le_of_ble_eq_true rfl)
  rw [lg_entry_eq]
  generalize (lg_sl ([.ref (q (0)), .int x1, .int x2, .int x3, .ref o]) ++ List.replicate (6 - (lg_sl ([.ref (q (0)), .int x1, .int x2, .int x3, .ref o])).length) Slot.unset).toArray = ls at hl ⊢
  have hl : lv_has ls 6 [(0, .ref (q (0))), (1, .int x1), (2, .int x2), (3, .int x3), (4, .ref o)] := hl
  refine lv_aload hx hb dL_slot_0 (lv_at hl 4 rfl) ?_
  refine lv_iconst (v := (0 : Int32)) hx hb dL_slot_2 (by decide) ?_
  refine lv_aload_n hx hb dL_slot_3 rfl (lv_at hl 0 rfl) ?_
  refine lv_iload_n hx hb dL_slot_4 rfl (lv_at hl 1 rfl) ?_
  refine lv_iload_n hx hb dL_slot_5 rfl (lv_at hl 2 rfl) ?_
  refine lv_iload_n hx hb dL_slot_6 rfl (lv_at hl 3 rfl) ?_
  rcases z with r1 | k1
  · have hz : some (0 : Int32) = some r := hz
    cases hz
    refine h_cVi (As := [.int x1, .int x2, .int x3]) (rest := [.int (0 : Int32), .ref o]) hx hb hml hown hts hK hX (fun a h => Or.inl h) hP hO (h_odis ho) hS (mX8_slot l hlf hJ hp) (cwV 3 hts gL_slot_X8_slot rfl rfl rfl nVX8_slot ⟨Nat.le_of_ble_eq_true rfl, Nat.le_of_ble_eq_true rfl⟩) (g_recv hK hP kk_Tri ce_Tri rfl) rfl hl.1 rfl (Nat.le_of_ble_eq_true rfl) dL_slot_7 ⟨Nat.le_of_ble_eq_true rfl, Nat.le_of_ble_eq_true rfl⟩ (fun H locs hP hO hS => ?_)
    refine lv_i2l hx hb dL_slot_10 rfl ?_
    refine h_last hx hb hK hJ ho hP hO hS dL_slot_11 (fun H locs hP hO hS => ?_)
    refine lv_goto (tgt := 19) hx hb dL_slot_12 (by decide) ?_
    refine lv_iconst (v := (0 : Int32)) hx hb dL_slot_19 (by decide) ?_
    exact W.iret (v := (0 : Int32)) hx hb hr (fun t ht hW => ⟨⟨(0 : Int32), (), rfl, rfl, by subst ht; exact ⟨hP, hO⟩⟩, hS.F ht⟩) hS.2.2 dL_slot_20
  · skip
    by_cases h1 : k1 = 1
    · subst h1
      have hz : some (1 : Int32) = some r := hz
      cases hz
      refine h_cVx (As := [.int x1, .int x2, .int x3]) (rest := [.int (0 : Int32), .ref o]) hx hb hml hown hts hK hX (fun a h => Or.inl h) hP hO (h_odis ho) hS (mX8_slot l hlf hJ hp) (cwV 3 hts gL_slot_X8_slot rfl rfl rfl nVX8_slot ⟨Nat.le_of_ble_eq_true rfl, Nat.le_of_ble_eq_true rfl⟩) (g_recv hK hP kk_Tri ce_Tri rfl) rfl hl.1 rfl (Nat.le_of_ble_eq_true rfl) dL_slot_7 ⟨Nat.le_of_ble_eq_true rfl, Nat.le_of_ble_eq_true rfl⟩ (fun ce q9 H locs hP hO hS g1 g2 g3 => ?_)
      refine vx_catch (own := RL) (name := xn 1) hown [] (⟨0, 12, 15, 13⟩ : ExceptionTableEntry) [] htab (fun z hz => nomatch hz) (by decide) (by decide) (hts _ mwL_slot_13) (va_Nw.use rfl (hX.2.2.2.1 (xn 1, xn 1) (by decide +kernel))) g1 g2 g3 ?_
      refine lv_astore (lv' := [(5, .ref q9), (0, .ref (q (0))), (1, .int x1), (2, .int x2), (3, .int x3), (4, .ref o)]) hx hb dL_slot_15 hl (by decide) rfl (fun ls hl => ?_)
      refine lv_iconst (v := (1 : Int32)) hx hb dL_slot_17 (by decide) ?_
      exact W.iret (v := (1 : Int32)) hx hb hr (fun t ht hW => ⟨⟨(1 : Int32), (), rfl, rfl, by subst ht; exact ⟨hP, hO⟩⟩, hS.F ht⟩) hS.2.2 dL_slot_18
    exfalso
    simp [lhz, lhk, h1] at hz
theorem mwL_output_13 : Cond.classLink RL 13 (xn 1) ∈ wsL_output := by decide +kernel
abbrev rmL_output : Room := { frames := 8, cells := 1, slots := 6, locals := 132 }
theorem nVL_output : yL_output.cls ≠ "java/lang/invoke/MethodHandle" ∧ yL_output.cls ≠ "java/lang/invoke/VarHandle" ∧ (parseMethodDescriptor yL_output.desc).map (fun d => d.parameters.length) = some 3 := by decide +kernel
set_option maxHeartbeats 4000000 in
set_option maxRecDepth 100000 in
theorem mL_output {D : va_G} {cy : Nat → ClassId} {q : Nat → Nat} (l : Launch) (hlf : l.stackTraces = false) (hJ : gJ 78 q) {o : Nat} (ho : ¬ gA 78 q o) {fo : Nat → Int64} {x1 : Int32} {σ : TS} {z : Int32 ⊕ Nat} {u : TS} {r : Int32} (hp : sX8_output x1 σ = some (z, u)) (hz : lhz [(1, 1)] z = some r) : Met l yL_output wsL_output rmL_output (va_Pc [.ref (q (0)), .int x1, .ref o] (hPre D vwCl (tyL cy) (gS 78 q (TX cy q) σ) (oW o cy fo) (hA q o))) (va_Qi (fun r' (_ : Unit) => r' = r) (fun _ t => va_P D vwCl (gS 78 q (TX cy q) u) t.heap ∧ va_P D vwCl (oW o cy (lo z fo)) t.heap) (hA q o)) 1 6 (hA q o) := by
  refine g_ofWH (cc := cL_output) (maxL := 4) (ret := (some .int)) (hh := [(0, 9, 12, 13)]) (by decide +kernel) rfl ?_
  intro p e s m args below meth c s₁ B hml htab hv
  obtain ⟨rfl, ⟨hP, hO, hK⟩, hX, hNt⟩ := hv
  have hx := B.exec
  have hb := B.bytes
  have hr := B.returns
  have hlocks := B.notSynchronized
  have hts := atoms_spec (ws := wsL_output) B.pre
  have hown : s.vm.findClass RL = some m.cls := findClass_of_methodNamed B.named
  have hS : va_S (hA q o) s.heap s.heap [] := va_S.rf
  have hl := lv_entry ([.ref (q (0)), .int x1, .ref o]) (n := 4) (Nat.le_of_ble_eq_true rfl)
  rw [lg_entry_eq]
  generalize (lg_sl ([.ref (q (0)), .int x1, .ref o]) ++ List.replicate (4 - (lg_sl ([.ref (q (0)), .int x1, .ref o])).length) Slot.unset).toArray = ls at hl ⊢
  have hl : lv_has ls 4 [(0, .ref (q (0))), (1, .int x1), (2, .ref o)] := hl
  refine lv_aload_n hx hb dL_output_0 rfl (lv_at hl 2 rfl) ?_
  refine lv_iconst (v := (0 : Int32)) hx hb dL_output_1 (by decide) ?_
  refine lv_aload_n hx hb dL_output_2 rfl (lv_at hl 0 rfl) ?_
  refine lv_iload_n hx hb dL_output_3 rfl (lv_at hl 1 rfl) ?_
  rcases z with r1 | k1
  · have hz : some (0 : Int32) = some r := hz
    cases hz
    refine h_cVi (As := [.int x1]) (rest := [.int (0 : Int32), .ref o]) hx hb hml hown hts hK hX (fun a h => Or.inl h) hP hO (h_odis ho) hS (mX8_output l hlf hJ hp) (cwV 1 hts gL_output_X8_output rfl rfl rfl nVX8_output ⟨Nat.le_of_ble_eq_true rfl, Nat.le_of_ble_eq_true rfl⟩) (g_recv hK hP kk_Tri ce_Tri rfl) rfl hl.1 rfl (Nat.le_of_ble_eq_true rfl) dL_output_4 ⟨Nat.le_of_ble_eq_true rfl, Nat.le_of_ble_eq_true rfl⟩ (fun H locs hP hO hS => ?_)
    refine lv_i2l hx hb dL_output_7 rfl ?_
    refine h_last hx hb hK hJ ho hP hO hS dL_output_8 (fun H locs hP hO hS => ?_)
    refine lv_goto (tgt := 15) hx hb dL_output_9 (by decide) ?_
    refine lv_iconst (v := (0 : Int32)) hx hb dL_output_15 (by decide) ?_
    exact W.iret (v := (0 : Int32)) hx hb hr (fun t ht hW => ⟨⟨(0 : Int32), (), rfl, rfl, by subst ht; exact ⟨hP, hO⟩⟩, hS.F ht⟩) hS.2.2 dL_output_16
  · skip
    by_cases h1 : k1 = 1
    · subst h1
      have hz : some (1 : Int32) = some r := hz
      cases hz
      refine h_cVx (As := [.int x1]) (rest := [.int (0 : Int32), .ref o]) hx hb hml hown hts hK hX (fun a h => Or.inl h) hP hO (h_odis ho) hS (mX8_output l hlf hJ hp) (cwV 1 hts gL_output_X8_output rfl rfl rfl nVX8_output ⟨Nat.le_of_ble_eq_true rfl, Nat.le_of_ble_eq_true rfl⟩) (g_recv hK hP kk_Tri ce_Tri rfl) rfl hl.1 rfl (Nat.le_of_ble_eq_true rfl) dL_output_4 ⟨Nat.le_of_ble_eq_true rfl, Nat.le_of_ble_eq_true rfl⟩ (fun ce q9 H locs hP hO hS g1 g2 g3 => ?_)
      refine vx_catch (own := RL) (name := xn 1) hown [] (⟨0, 9, 12, 13⟩ : ExceptionTableEntry) [] htab (fun z hz => nomatch hz) (by decide) (by decide) (hts _ mwL_output_13) (va_Nw.use rfl (hX.2.2.2.1 (xn 1, xn 1) (by decide +kernel))) g1 g2 g3 ?_
      refine lv_astore_n (lv' := [(3, .ref q9), (0, .ref (q (0))), (1, .int x1), (2, .ref o)]) hx hb dL_output_12 rfl hl (by decide) rfl (fun ls hl => ?_)
      refine lv_iconst (v := (1 : Int32)) hx hb dL_output_13 (by decide) ?_
      exact W.iret (v := (1 : Int32)) hx hb hr (fun t ht hW => ⟨⟨(1 : Int32), (), rfl, rfl, by subst ht; exact ⟨hP, hO⟩⟩, hS.F ht⟩) hS.2.2 dL_output_14
    exfalso
    simp [lhz, lhk, h1] at hz
theorem mwL_plain_13 : Cond.classLink RL 13 (xn 1) ∈ wsL_plain := by decide +kernel
abbrev rmL_plain : Room := { frames := 8, cells := 1, slots := 6, locals := 132 }
theorem nVL_plain : yL_plain.cls ≠ "java/lang/invoke/MethodHandle" ∧ yL_plain.cls ≠ "java/lang/invoke/VarHandle" ∧ (parseMethodDescriptor yL_plain.desc).map (fun d => d.parameters.length) = some 3 := by decide +kernel
set_option maxHeartbeats 4000000 in
set_option maxRecDepth 100000 in
theorem mL_plain {D : va_G} {cy : Nat → ClassId} {q : Nat → Nat} (l : Launch) (hlf : l.stackTraces = false) (hJ : gJ 78 q) {o : Nat} (ho : ¬ gA 78 q o) {fo : Nat → Int64} {x1 : Int32} {σ : TS} {z : Int32 ⊕ Nat} {u : TS} {r : Int32} (hp : sX8_plain x1 σ = some (z, u)) (hz : lhz [(1, 1)] z = some r) : Met l yL_plain wsL_plain rmL_plain (va_Pc [.ref (q (0)), .int x1, .ref o] (hPre D vwCl (tyL cy) (gS 78 q (TX cy q) σ) (oW o cy fo) (hA q o))) (va_Qi (fun r' (_ : Unit) => r' = r) (fun _ t => va_P D vwCl (gS 78 q (TX cy q) u) t.heap ∧ va_P D vwCl (oW o cy (lo z fo)) t.heap) (hA q o)) 1 6 (hA q o) := by
  refine g_ofWH (cc := cL_plain) (maxL := 4) (ret := (some .int)) (hh := [(0, 9, 12, 13)]) (by decide +kernel) rfl ?_
  intro p e s m args below meth c s₁ B hml htab hv
  obtain ⟨rfl, ⟨hP, hO, hK⟩, hX, hNt⟩ := hv
  have hx := B.exec
  have hb := B.bytes
  have hr := B.returns
  have hlocks := B.notSynchronized
  have hts := atoms_spec (ws := wsL_plain) B.pre
  have hown : s.vm.findClass RL = some m.cls := findClass_of_methodNamed B.named
  have hS : va_S (hA q o) s.heap s.heap [] := va_S.rf
  have hl := lv_entry ([.ref (q (0)), .int x1, .ref o]) (n := 4) (Nat.le_of_ble_eq_true rfl)
  rw [lg_entry_eq]
  generalize (lg_sl ([.ref (q (0)), .int x1, .ref o]) ++ List.replicate (4 - (lg_sl ([.ref (q (0)), .int x1, .ref o])).length) Slot.unset).toArray = ls at hl ⊢
  have hl : lv_has ls 4 [(0, .ref (q (0))), (1, .int x1), (2, .ref o)] := hl
  refine lv_aload_n hx hb dL_plain_0 rfl (lv_at hl 2 rfl) ?_
  refine lv_iconst (v := (0 : Int32)) hx hb dL_plain_1 (by decide) ?_
  refine lv_aload_n hx hb dL_plain_2 rfl (lv_at hl 0 rfl) ?_
  refine lv_iload_n hx hb dL_plain_3 rfl (lv_at hl 1 rfl) ?_
  rcases z with r1 | k1
  · have hz : some (0 : Int32) = some r := hz
    cases hz
    refine h_cVi (As := [.int x1]) (rest := [.int (0 : Int32), .ref o]) hx hb hml hown hts hK hX (fun a h => Or.inl h) hP hO (h_odis ho) hS (mX8_plain l hlf hJ hp) (cwV 1 hts gL_plain_X8_plain rfl rfl rfl nVX8_plain ⟨Nat.le_of_ble_eq_true rfl, Nat.le_of_ble_eq_true rfl⟩) (g_recv hK hP kk_Tri ce_Tri rfl) rfl hl.1 rfl (Nat.le_of_ble_eq_true rfl) dL_plain_4 ⟨Nat.le_of_ble_eq_true rfl, Nat.le_of_ble_eq_true rfl⟩ (fun H locs hP hO hS => ?_)
    refine lv_i2l hx hb dL_plain_7 rfl ?_
    refine h_last hx hb hK hJ ho hP hO hS dL_plain_8 (fun H locs hP hO hS => ?_)
    refine lv_goto (tgt := 15) hx hb dL_plain_9 (by decide) ?_
    refine lv_iconst (v := (0 : Int32)) hx hb dL_plain_15 (by decide) ?_
    exact W.iret (v := (0 : Int32)) hx hb hr (fun t ht hW => ⟨⟨(0 : Int32), (), rfl, rfl, by subst ht; exact ⟨hP, hO⟩⟩, hS.F ht⟩) hS.2.2 dL_plain_16
  · skip
    by_cases h1 : k1 = 1
    · subst h1
      have hz : some (1 : Int32) = some r := hz
      cases hz
      refine h_cVx (As := [.int x1]) (rest := [.int (0 : Int32), .ref o]) hx hb hml hown hts hK hX (fun a h => Or.inl h) hP hO (h_odis ho) hS (mX8_plain l hlf hJ hp) (cwV 1 hts gL_plain_X8_plain rfl rfl rfl nVX8_plain ⟨Nat.le_of_ble_eq_true rfl, Nat.le_of_ble_eq_true rfl⟩) (g_recv hK hP kk_Tri ce_Tri rfl) rfl hl.1 rfl (Nat.le_of_ble_eq_true rfl) dL_plain_4 ⟨Nat.le_of_ble_eq_true rfl, Nat.le_of_ble_eq_true rfl⟩ (fun ce q9 H locs hP hO hS g1 g2 g3 => ?_)
      refine vx_catch (own := RL) (name := xn 1) hown [] (⟨0, 9, 12, 13⟩ : ExceptionTableEntry) [] htab (fun z hz => nomatch hz) (by decide) (by decide) (hts _ mwL_plain_13) (va_Nw.use rfl (hX.2.2.2.1 (xn 1, xn 1) (by decide +kernel))) g1 g2 g3 ?_
      refine lv_astore_n (lv' := [(3, .ref q9), (0, .ref (q (0))), (1, .int x1), (2, .ref o)]) hx hb dL_plain_12 rfl hl (by decide) rfl (fun ls hl => ?_)
      refine lv_iconst (v := (1 : Int32)) hx hb dL_plain_13 (by decide) ?_
      exact W.iret (v := (1 : Int32)) hx hb hr (fun t ht hW => ⟨⟨(1 : Int32), (), rfl, rfl, by subst ht; exact ⟨hP, hO⟩⟩, hS.F ht⟩) hS.2.2 dL_plain_14
    exfalso
    simp [lhz, lhk, h1] at hz
theorem mwL_word_13 : Cond.classLink RL 13 (xn 1) ∈ wsL_word := by decide +kernel
abbrev rmL_word : Room := { frames := 8, cells := 3, slots := 18, locals := 134 }
theorem nVL_word : yL_word.cls ≠ "java/lang/invoke/MethodHandle" ∧ yL_word.cls ≠ "java/lang/invoke/VarHandle" ∧ (parseMethodDescriptor yL_word.desc).map (fun d => d.parameters.length) = some 5 := by decide +kernel
set_option maxHeartbeats 4000000 in
set_option maxRecDepth 100000 in
theorem mL_word {D : va_G} {cy : Nat → ClassId} {q : Nat → Nat} (l : Launch) (hlf : l.stackTraces = false) (hJ : gJ 78 q) {o : Nat} (ho : ¬ gA 78 q o) {fo : Nat → Int64} {x1 : Int32} {x2 : Int32} {x3 : Int32} {σ : TS} {z : Int32 ⊕ Nat} {u : TS} {r : Int32} (hp : sX8_word x1 x2 x3 σ = some (z, u)) (hz : lhz [(1, 1)] z = some r) : Met l yL_word wsL_word rmL_word (va_Pc [.ref (q (0)), .int x1, .int x2, .int x3, .ref o] (hPre D vwCl (tyL cy) (gS 78 q (TX cy q) σ) (oW o cy fo) (hA q o))) (va_Qi (fun r' (_ : Unit) => r' = r) (fun _ t => va_P D vwCl (gS 78 q (TX cy q) u) t.heap ∧ va_P D vwCl (oW o cy (lo z fo)) t.heap) (hA q o)) 3 18 (hA q o) := by
  refine g_ofWH (cc := cL_word) (maxL := 6) (ret := (some .int)) (hh := [(0, 12, 15, 13)]) (by decide +kernel) rfl ?_
  intro p e s m args below meth c s₁ B hml htab hv
  obtain ⟨rfl, ⟨hP, hO, hK⟩, hX, hNt⟩ := hv
  have hx := B.exec
  have hb := B.bytes
  have hr := B.returns
  have hlocks := B.notSynchronized
  have hts := atoms_spec (ws := wsL_word) B.pre
  have hown : s.vm.findClass RL = some m.cls := findClass_of_methodNamed B.named
  have hS : va_S (hA q o) s.heap s.heap [] := va_S.rf
  have hl := lv_entry ([.ref (q (0)), .int x1, .int x2, .int x3, .ref o]) (n := 6) (Nat.le_of_ble_eq_true rfl)
  rw [lg_entry_eq]
  generalize (lg_sl ([.ref (q (0)), .int x1, .int x2, .int x3, .ref o]) ++ List.replicate (6 - (lg_sl ([.ref (q (0)), .int x1, .int x2, .int x3, .ref o])).length) Slot.unset).toArray = ls at hl ⊢
  have hl : lv_has ls 6 [(0, .ref (q (0))), (1, .int x1), (2, .int x2), (3, .int x3), (4, .ref o)] := hl
  refine lv_aload hx hb dL_word_0 (lv_at hl 4 rfl) ?_
  refine lv_iconst (v := (0 : Int32)) hx hb dL_word_2 (by decide) ?_
  refine lv_aload_n hx hb dL_word_3 rfl (lv_at hl 0 rfl) ?_
  refine lv_iload_n hx hb dL_word_4 rfl (lv_at hl 1 rfl) ?_
  refine lv_iload_n hx hb dL_word_5 rfl (lv_at hl 2 rfl) ?_
  refine lv_iload_n hx hb dL_word_6 rfl (lv_at hl 3 rfl) ?_
  rcases z with r1 | k1
  · have hz : some (0 : Int32) = some r := hz
    cases hz
    refine h_cVi (As := [.int x1, .int x2, .int x3]) (rest := [.int (0 : Int32), .ref o]) hx hb hml hown hts hK hX (fun a h => Or.inl h) hP hO (h_odis ho) hS (mX8_word l hlf hJ hp) (cwV 3 hts gL_word_X8_word rfl rfl rfl nVX8_word ⟨Nat.le_of_ble_eq_true rfl, Nat.le_of_ble_eq_true rfl⟩) (g_recv hK hP kk_Tri ce_Tri rfl) rfl hl.1 rfl (Nat.le_of_ble_eq_true rfl) dL_word_7 ⟨Nat.le_of_ble_eq_true rfl, Nat.le_of_ble_eq_true rfl⟩ (fun H locs hP hO hS => ?_)
    refine lv_i2l hx hb dL_word_10 rfl ?_
    refine h_last hx hb hK hJ ho hP hO hS dL_word_11 (fun H locs hP hO hS => ?_)
    refine lv_goto (tgt := 19) hx hb dL_word_12 (by decide) ?_
    refine lv_iconst (v := (0 : Int32)) hx hb dL_word_19 (by decide) ?_
    exact W.iret (v := (0 : Int32)) hx hb hr (fun t ht hW => ⟨⟨(0 : Int32), (), rfl, rfl, by subst ht; exact ⟨hP, hO⟩⟩, hS.F ht⟩) hS.2.2 dL_word_20
  · skip
    by_cases h1 : k1 = 1
    · subst h1
      have hz : some (1 : Int32) = some r := hz
      cases hz
      refine h_cVx (As := [.int x1, .int x2, .int x3]) (rest := [.int (0 : Int32), .ref o]) hx hb hml hown hts hK hX (fun a h => Or.inl h) hP hO (h_odis ho) hS (mX8_word l hlf hJ hp) (cwV 3 hts gL_word_X8_word rfl rfl rfl nVX8_word ⟨Nat.le_of_ble_eq_true rfl, Nat.le_of_ble_eq_true rfl⟩) (g_recv hK hP kk_Tri ce_Tri rfl) rfl hl.1 rfl (Nat.le_of_ble_eq_true rfl) dL_word_7 ⟨Nat.le_of_ble_eq_true rfl, Nat.le_of_ble_eq_true rfl⟩ (fun ce q9 H locs hP hO hS g1 g2 g3 => ?_)
      refine vx_catch (own := RL) (name := xn 1) hown [] (⟨0, 12, 15, 13⟩ : ExceptionTableEntry) [] htab (fun z hz => nomatch hz) (by decide) (by decide) (hts _ mwL_word_13) (va_Nw.use rfl (hX.2.2.2.1 (xn 1, xn 1) (by decide +kernel))) g1 g2 g3 ?_
      refine lv_astore (lv' := [(5, .ref q9), (0, .ref (q (0))), (1, .int x1), (2, .int x2), (3, .int x3), (4, .ref o)]) hx hb dL_word_15 hl (by decide) rfl (fun ls hl => ?_)
      refine lv_iconst (v := (1 : Int32)) hx hb dL_word_17 (by decide) ?_
      exact W.iret (v := (1 : Int32)) hx hb hr (fun t ht hW => ⟨⟨(1 : Int32), (), rfl, rfl, by subst ht; exact ⟨hP, hO⟩⟩, hS.F ht⟩) hS.2.2 dL_word_18
    exfalso
    simp [lhz, lhk, h1] at hz
theorem mwL_flip_13 : Cond.classLink RL 13 (xn 1) ∈ wsL_flip := by decide +kernel
abbrev rmL_flip : Room := { frames := 8, cells := 4, slots := 24, locals := 135 }
theorem nVL_flip : yL_flip.cls ≠ "java/lang/invoke/MethodHandle" ∧ yL_flip.cls ≠ "java/lang/invoke/VarHandle" ∧ (parseMethodDescriptor yL_flip.desc).map (fun d => d.parameters.length) = some 6 := by decide +kernel
set_option maxHeartbeats 4000000 in
set_option maxRecDepth 100000 in
theorem mL_flip {D : va_G} {cy : Nat → ClassId} {q : Nat → Nat} (l : Launch) (hlf : l.stackTraces = false) (hJ : gJ 78 q) {o : Nat} (ho : ¬ gA 78 q o) {fo : Nat → Int64} {x1 : Int32} {x2 : Int32} {x3 : Int32} {x4 : Int32} {σ : TS} {z : Int32 ⊕ Nat} {u : TS} {r : Int32} (hp : sX8_flip x1 x2 x3 x4 σ = some (z, u)) (hz : lhz [(1, 1)] z = some r) : Met l yL_flip wsL_flip rmL_flip (va_Pc [.ref (q (0)), .int x1, .int x2, .int x3, .int x4, .ref o] (hPre D vwCl (tyL cy) (gS 78 q (TX cy q) σ) (oW o cy fo) (hA q o))) (va_Qi (fun r' (_ : Unit) => r' = r) (fun _ t => va_P D vwCl (gS 78 q (TX cy q) u) t.heap ∧ va_P D vwCl (oW o cy (lo z fo)) t.heap) (hA q o)) 4 24 (hA q o) := by
  refine g_ofWH (cc := cL_flip) (maxL := 7) (ret := (some .int)) (hh := [(0, 14, 17, 13)]) (by decide +kernel) rfl ?_
  intro p e s m args below meth c s₁ B hml htab hv
  obtain ⟨rfl, ⟨hP, hO, hK⟩, hX, hNt⟩ := hv
  have hx := B.exec
  have hb := B.bytes
  have hr := B.returns
  have hlocks := B.notSynchronized
  have hts := atoms_spec (ws := wsL_flip) B.pre
  have hown : s.vm.findClass RL = some m.cls := findClass_of_methodNamed B.named
  have hS : va_S (hA q o) s.heap s.heap [] := va_S.rf
  have hl := lv_entry ([.ref (q (0)), .int x1, .int x2, .int x3, .int x4, .ref o]) (n := 7) (Nat.le_of_ble_eq_true rfl)
  rw [lg_entry_eq]
  generalize (lg_sl ([.ref (q (0)), .int x1, .int x2, .int x3, .int x4, .ref o]) ++ List.replicate (7 - (lg_sl ([.ref (q (0)), .int x1, .int x2, .int x3, .int x4, .ref o])).length) Slot.unset).toArray = ls at hl ⊢
  have hl : lv_has ls 7 [(0, .ref (q (0))), (1, .int x1), (2, .int x2), (3, .int x3), (4, .int x4), (5, .ref o)] := hl
  refine lv_aload hx hb dL_flip_0 (lv_at hl 5 rfl) ?_
  refine lv_iconst (v := (0 : Int32)) hx hb dL_flip_2 (by decide) ?_
  refine lv_aload_n hx hb dL_flip_3 rfl (lv_at hl 0 rfl) ?_
  refine lv_iload_n hx hb dL_flip_4 rfl (lv_at hl 1 rfl) ?_
  refine lv_iload_n hx hb dL_flip_5 rfl (lv_at hl 2 rfl) ?_
  refine lv_iload_n hx hb dL_flip_6 rfl (lv_at hl 3 rfl) ?_
  refine lv_iload hx hb dL_flip_7 (lv_at hl 4 rfl) ?_
  rcases z with r1 | k1
  · have hz : some (0 : Int32) = some r := hz
    cases hz
    refine h_cVi (As := [.int x1, .int x2, .int x3, .int x4]) (rest := [.int (0 : Int32), .ref o]) hx hb hml hown hts hK hX (fun a h => Or.inl h) hP hO (h_odis ho) hS (mX8_flip l hlf hJ hp) (cwV 4 hts gL_flip_X8_flip rfl rfl rfl nVX8_flip ⟨Nat.le_of_ble_eq_true rfl, Nat.le_of_ble_eq_true rfl⟩) (g_recv hK hP kk_Tri ce_Tri rfl) rfl hl.1 rfl (Nat.le_of_ble_eq_true rfl) dL_flip_9 ⟨Nat.le_of_ble_eq_true rfl, Nat.le_of_ble_eq_true rfl⟩ (fun H locs hP hO hS => ?_)
    refine lv_i2l hx hb dL_flip_12 rfl ?_
    refine h_last hx hb hK hJ ho hP hO hS dL_flip_13 (fun H locs hP hO hS => ?_)
    refine lv_goto (tgt := 21) hx hb dL_flip_14 (by decide) ?_
    refine lv_iconst (v := (0 : Int32)) hx hb dL_flip_21 (by decide) ?_
    exact W.iret (v := (0 : Int32)) hx hb hr (fun t ht hW => ⟨⟨(0 : Int32), (), rfl, rfl, by subst ht; exact ⟨hP, hO⟩⟩, hS.F ht⟩) hS.2.2 dL_flip_22
  · skip
    by_cases h1 : k1 = 1
    · subst h1
      have hz : some (1 : Int32) = some r := hz
      cases hz
      refine h_cVx (As := [.int x1, .int x2, .int x3, .int x4]) (rest := [.int (0 : Int32), .ref o]) hx hb hml hown hts hK hX (fun a h => Or.inl h) hP hO (h_odis ho) hS (mX8_flip l hlf hJ hp) (cwV 4 hts gL_flip_X8_flip rfl rfl rfl nVX8_flip ⟨Nat.le_of_ble_eq_true rfl, Nat.le_of_ble_eq_true rfl⟩) (g_recv hK hP kk_Tri ce_Tri rfl) rfl hl.1 rfl (Nat.le_of_ble_eq_true rfl) dL_flip_9 ⟨Nat.le_of_ble_eq_true rfl, Nat.le_of_ble_eq_true rfl⟩ (fun ce q9 H locs hP hO hS g1 g2 g3 => ?_)
      refine vx_catch (own := RL) (name := xn 1) hown [] (⟨0, 14, 17, 13⟩ : ExceptionTableEntry) [] htab (fun z hz => nomatch hz) (by decide) (by decide) (hts _ mwL_flip_13) (va_Nw.use rfl (hX.2.2.2.1 (xn 1, xn 1) (by decide +kernel))) g1 g2 g3 ?_
      refine lv_astore (lv' := [(6, .ref q9), (0, .ref (q (0))), (1, .int x1), (2, .int x2), (3, .int x3), (4, .int x4), (5, .ref o)]) hx hb dL_flip_17 hl (by decide) rfl (fun ls hl => ?_)
      refine lv_iconst (v := (1 : Int32)) hx hb dL_flip_19 (by decide) ?_
      exact W.iret (v := (1 : Int32)) hx hb hr (fun t ht hW => ⟨⟨(1 : Int32), (), rfl, rfl, by subst ht; exact ⟨hP, hO⟩⟩, hS.F ht⟩) hS.2.2 dL_flip_20
    exfalso
    simp [lhz, lhk, h1] at hz
theorem mwL_stick_13 : Cond.classLink RL 13 (xn 1) ∈ wsL_stick := by decide +kernel
abbrev rmL_stick : Room := { frames := 8, cells := 3, slots := 18, locals := 136 }
theorem nVL_stick : yL_stick.cls ≠ "java/lang/invoke/MethodHandle" ∧ yL_stick.cls ≠ "java/lang/invoke/VarHandle" ∧ (parseMethodDescriptor yL_stick.desc).map (fun d => d.parameters.length) = some 6 := by decide +kernel
set_option maxHeartbeats 4000000 in
set_option maxRecDepth 100000 in
theorem mL_stick {D : va_G} {cy : Nat → ClassId} {q : Nat → Nat} (l : Launch) (hlf : l.stackTraces = false) (hJ : gJ 78 q) {o : Nat} (ho : ¬ gA 78 q o) {fo : Nat → Int64} {x1 : Int32} {x2 : Int32} {x3 : Int32} {x4 : Int32} {σ : TS} {z : Int32 ⊕ Nat} {u : TS} {r : Int32} (hp : sX8_stick x1 x2 x3 x4 σ = some (z, u)) (hz : lhz [(1, 1)] z = some r) : Met l yL_stick wsL_stick rmL_stick (va_Pc [.ref (q (0)), .int x1, .int x2, .int x3, .int x4, .ref o] (hPre D vwCl (tyL cy) (gS 78 q (TX cy q) σ) (oW o cy fo) (hA q o))) (va_Qi (fun r' (_ : Unit) => r' = r) (fun _ t => va_P D vwCl (gS 78 q (TX cy q) u) t.heap ∧ va_P D vwCl (oW o cy (lob z fo)) t.heap) (hA q o)) 3 18 (hA q o) := by
  refine g_ofWH (cc := cL_stick) (maxL := 7) (ret := (some .int)) (hh := [(0, 21, 24, 13)]) (by decide +kernel) rfl ?_
  intro p e s m args below meth c s₁ B hml htab hv
  obtain ⟨rfl, ⟨hP, hO, hK⟩, hX, hNt⟩ := hv
  have hx := B.exec
  have hb := B.bytes
  have hr := B.returns
  have hlocks := B.notSynchronized
  have hts := atoms_spec (ws := wsL_stick) B.pre
  have hown : s.vm.findClass RL = some m.cls := findClass_of_methodNamed B.named
  have hS : va_S (hA q o) s.heap s.heap [] := va_S.rf
  have hl := lv_entry ([.ref (q (0)), .int x1, .int x2, .int x3, .int x4, .ref o]) (n := 7) (Nat.le_of_ble_eq_true rfl)
  rw [lg_entry_eq]
  generalize (lg_sl ([.ref (q (0)), .int x1, .int x2, .int x3, .int x4, .ref o]) ++ List.replicate (7 - (lg_sl ([.ref (q (0)), .int x1, .int x2, .int x3, .int x4, .ref o])).length) Slot.unset).toArray = ls at hl ⊢
  have hl : lv_has ls 7 [(0, .ref (q (0))), (1, .int x1), (2, .int x2), (3, .int x3), (4, .int x4), (5, .ref o)] := hl
  refine lv_aload hx hb dL_stick_0 (lv_at hl 5 rfl) ?_
  refine lv_iconst (v := (0 : Int32)) hx hb dL_stick_2 (by decide) ?_
  refine lv_aload_n hx hb dL_stick_3 rfl (lv_at hl 0 rfl) ?_
  refine lv_iload_n hx hb dL_stick_4 rfl (lv_at hl 1 rfl) ?_
  refine lv_iload_n hx hb dL_stick_5 rfl (lv_at hl 2 rfl) ?_
  refine lv_iload_n hx hb dL_stick_6 rfl (lv_at hl 3 rfl) ?_
  refine lv_iload hx hb dL_stick_7 (lv_at hl 4 rfl) ?_
  rcases z with r1 | k1
  · have hz : some (0 : Int32) = some r := hz
    cases hz
    refine h_cVi (As := [.int x1, .int x2, .int x3, .int x4]) (rest := [.int (0 : Int32), .ref o]) hx hb hml hown hts hK hX (fun a h => Or.inl h) hP hO (h_odis ho) hS (mX8_stick l hlf hJ hp) (cwV 4 hts gL_stick_X8_stick rfl rfl rfl nVX8_stick ⟨Nat.le_of_ble_eq_true rfl, Nat.le_of_ble_eq_true rfl⟩) (g_recv hK hP kk_Tri ce_Tri rfl) rfl hl.1 rfl (Nat.le_of_ble_eq_true rfl) dL_stick_9 ⟨Nat.le_of_ble_eq_true rfl, Nat.le_of_ble_eq_true rfl⟩ (fun H locs hP hO hS => ?_)
    refine lv_if_eq (tgt := 19) hx hb dL_stick_12 (by decide) (fun hc => ?_) (fun hc => ?_)
    · have e0 : lob (Sum.inl r1) fo = vp_updL fo 0 0 := by simp [lob, hc]
      refine lv_lconst (v := (0 : Int64)) hx hb dL_stick_19 (by decide) ?_
      refine h_last hx hb hK hJ ho hP hO hS dL_stick_20 (fun H locs hP hO hS => ?_)
      refine lv_goto (tgt := 28) hx hb dL_stick_21 (by decide) ?_
      refine lv_iconst (v := (0 : Int32)) hx hb dL_stick_28 (by decide) ?_
      exact W.iret (v := (0 : Int32)) hx hb hr (fun t ht hW => ⟨⟨(0 : Int32), (), rfl, rfl, by subst ht; rw [e0]; exact ⟨hP, hO⟩⟩, hS.F ht⟩) hS.2.2 dL_stick_29
    · have e0 : lob (Sum.inl r1) fo = vp_updL fo 0 1 := by simp [lob, hc]
      refine lv_lconst (v := (1 : Int64)) hx hb dL_stick_15 (by decide) ?_
      refine lv_goto (tgt := 20) hx hb dL_stick_16 (by decide) ?_
      refine h_last hx hb hK hJ ho hP hO hS dL_stick_20 (fun H locs hP hO hS => ?_)
      refine lv_goto (tgt := 28) hx hb dL_stick_21 (by decide) ?_
      refine lv_iconst (v := (0 : Int32)) hx hb dL_stick_28 (by decide) ?_
      exact W.iret (v := (0 : Int32)) hx hb hr (fun t ht hW => ⟨⟨(0 : Int32), (), rfl, rfl, by subst ht; rw [e0]; exact ⟨hP, hO⟩⟩, hS.F ht⟩) hS.2.2 dL_stick_29
  · skip
    by_cases h1 : k1 = 1
    · subst h1
      have hz : some (1 : Int32) = some r := hz
      cases hz
      refine h_cVx (As := [.int x1, .int x2, .int x3, .int x4]) (rest := [.int (0 : Int32), .ref o]) hx hb hml hown hts hK hX (fun a h => Or.inl h) hP hO (h_odis ho) hS (mX8_stick l hlf hJ hp) (cwV 4 hts gL_stick_X8_stick rfl rfl rfl nVX8_stick ⟨Nat.le_of_ble_eq_true rfl, Nat.le_of_ble_eq_true rfl⟩) (g_recv hK hP kk_Tri ce_Tri rfl) rfl hl.1 rfl (Nat.le_of_ble_eq_true rfl) dL_stick_9 ⟨Nat.le_of_ble_eq_true rfl, Nat.le_of_ble_eq_true rfl⟩ (fun ce q9 H locs hP hO hS g1 g2 g3 => ?_)
      refine vx_catch (own := RL) (name := xn 1) hown [] (⟨0, 21, 24, 13⟩ : ExceptionTableEntry) [] htab (fun z hz => nomatch hz) (by decide) (by decide) (hts _ mwL_stick_13) (va_Nw.use rfl (hX.2.2.2.1 (xn 1, xn 1) (by decide +kernel))) g1 g2 g3 ?_
      refine lv_astore (lv' := [(6, .ref q9), (0, .ref (q (0))), (1, .int x1), (2, .int x2), (3, .int x3), (4, .int x4), (5, .ref o)]) hx hb dL_stick_24 hl (by decide) rfl (fun ls hl => ?_)
      refine lv_iconst (v := (1 : Int32)) hx hb dL_stick_26 (by decide) ?_
      exact W.iret (v := (1 : Int32)) hx hb hr (fun t ht hW => ⟨⟨(1 : Int32), (), rfl, rfl, by subst ht; exact ⟨hP, hO⟩⟩, hS.F ht⟩) hS.2.2 dL_stick_27
    exfalso
    simp [lhz, lhk, h1] at hz
theorem mwL_fix_13 : Cond.classLink RL 13 (xn 1) ∈ wsL_fix := by decide +kernel
abbrev rmL_fix : Room := { frames := 8, cells := 1, slots := 6, locals := 133 }
theorem nVL_fix : yL_fix.cls ≠ "java/lang/invoke/MethodHandle" ∧ yL_fix.cls ≠ "java/lang/invoke/VarHandle" ∧ (parseMethodDescriptor yL_fix.desc).map (fun d => d.parameters.length) = some 3 := by decide +kernel
set_option maxHeartbeats 4000000 in
set_option maxRecDepth 100000 in
theorem mL_fix {D : va_G} {cy : Nat → ClassId} {q : Nat → Nat} (l : Launch) (hlf : l.stackTraces = false) (hJ : gJ 78 q) {o : Nat} (ho : ¬ gA 78 q o) {fo : Nat → Int64} {x1 : Int32} {σ : TS} {z : Int32 ⊕ Nat} {u : TS} {r : Int32} (hp : sX8_fix x1 σ = some (z, u)) (hz : lhz [(1, 1)] z = some r) : Met l yL_fix wsL_fix rmL_fix (va_Pc [.ref (q (0)), .int x1, .ref o] (hPre D vwCl (tyL cy) (gS 78 q (TX cy q) σ) (oW o cy fo) (hA q o))) (va_Qi (fun r' (_ : Unit) => r' = r) (fun _ t => va_P D vwCl (gS 78 q (TX cy q) u) t.heap ∧ va_P D vwCl (oW o cy (lob z fo)) t.heap) (hA q o)) 1 6 (hA q o) := by
  refine g_ofWH (cc := cL_fix) (maxL := 4) (ret := (some .int)) (hh := [(0, 16, 19, 13)]) (by decide +kernel) rfl ?_
  intro p e s m args below meth c s₁ B hml htab hv
  obtain ⟨rfl, ⟨hP, hO, hK⟩, hX, hNt⟩ := hv
  have hx := B.exec
  have hb := B.bytes
  have hr := B.returns
  have hlocks := B.notSynchronized
  have hts := atoms_spec (ws := wsL_fix) B.pre
  have hown : s.vm.findClass RL = some m.cls := findClass_of_methodNamed B.named
  have hS : va_S (hA q o) s.heap s.heap [] := va_S.rf
  have hl := lv_entry ([.ref (q (0)), .int x1, .ref o]) (n := 4) (Nat.le_of_ble_eq_true rfl)
  rw [lg_entry_eq]
  generalize (lg_sl ([.ref (q (0)), .int x1, .ref o]) ++ List.replicate (4 - (lg_sl ([.ref (q (0)), .int x1, .ref o])).length) Slot.unset).toArray = ls at hl ⊢
  have hl : lv_has ls 4 [(0, .ref (q (0))), (1, .int x1), (2, .ref o)] := hl
  refine lv_aload_n hx hb dL_fix_0 rfl (lv_at hl 2 rfl) ?_
  refine lv_iconst (v := (0 : Int32)) hx hb dL_fix_1 (by decide) ?_
  refine lv_aload_n hx hb dL_fix_2 rfl (lv_at hl 0 rfl) ?_
  refine lv_iload_n hx hb dL_fix_3 rfl (lv_at hl 1 rfl) ?_
  rcases z with r1 | k1
  · have hz : some (0 : Int32) = some r := hz
    cases hz
    refine h_cVi (As := [.int x1]) (rest := [.int (0 : Int32), .ref o]) hx hb hml hown hts hK hX (fun a h => Or.inl h) hP hO (h_odis ho) hS (mX8_fix l hlf hJ hp) (cwV 1 hts gL_fix_X8_fix rfl rfl rfl nVX8_fix ⟨Nat.le_of_ble_eq_true rfl, Nat.le_of_ble_eq_true rfl⟩) (g_recv hK hP kk_Tri ce_Tri rfl) rfl hl.1 rfl (Nat.le_of_ble_eq_true rfl) dL_fix_4 ⟨Nat.le_of_ble_eq_true rfl, Nat.le_of_ble_eq_true rfl⟩ (fun H locs hP hO hS => ?_)
    refine lv_if_eq (tgt := 14) hx hb dL_fix_7 (by decide) (fun hc => ?_) (fun hc => ?_)
    · have e0 : lob (Sum.inl r1) fo = vp_updL fo 0 0 := by simp [lob, hc]
      refine lv_lconst (v := (0 : Int64)) hx hb dL_fix_14 (by decide) ?_
      refine h_last hx hb hK hJ ho hP hO hS dL_fix_15 (fun H locs hP hO hS => ?_)
      refine lv_goto (tgt := 22) hx hb dL_fix_16 (by decide) ?_
      refine lv_iconst (v := (0 : Int32)) hx hb dL_fix_22 (by decide) ?_
      exact W.iret (v := (0 : Int32)) hx hb hr (fun t ht hW => ⟨⟨(0 : Int32), (), rfl, rfl, by subst ht; rw [e0]; exact ⟨hP, hO⟩⟩, hS.F ht⟩) hS.2.2 dL_fix_23
    · have e0 : lob (Sum.inl r1) fo = vp_updL fo 0 1 := by simp [lob, hc]
      refine lv_lconst (v := (1 : Int64)) hx hb dL_fix_10 (by decide) ?_
      refine lv_goto (tgt := 15) hx hb dL_fix_11 (by decide) ?_
      refine h_last hx hb hK hJ ho hP hO hS dL_fix_15 (fun H locs hP hO hS => ?_)
      refine lv_goto (tgt := 22) hx hb dL_fix_16 (by decide) ?_
      refine lv_iconst (v := (0 : Int32)) hx hb dL_fix_22 (by decide) ?_
      exact W.iret (v := (0 : Int32)) hx hb hr (fun t ht hW => ⟨⟨(0 : Int32), (), rfl, rfl, by subst ht; rw [e0]; exact ⟨hP, hO⟩⟩, hS.F ht⟩) hS.2.2 dL_fix_23
  · skip
    by_cases h1 : k1 = 1
    · subst h1
      have hz : some (1 : Int32) = some r := hz
      cases hz
      refine h_cVx (As := [.int x1]) (rest := [.int (0 : Int32), .ref o]) hx hb hml hown hts hK hX (fun a h => Or.inl h) hP hO (h_odis ho) hS (mX8_fix l hlf hJ hp) (cwV 1 hts gL_fix_X8_fix rfl rfl rfl nVX8_fix ⟨Nat.le_of_ble_eq_true rfl, Nat.le_of_ble_eq_true rfl⟩) (g_recv hK hP kk_Tri ce_Tri rfl) rfl hl.1 rfl (Nat.le_of_ble_eq_true rfl) dL_fix_4 ⟨Nat.le_of_ble_eq_true rfl, Nat.le_of_ble_eq_true rfl⟩ (fun ce q9 H locs hP hO hS g1 g2 g3 => ?_)
      refine vx_catch (own := RL) (name := xn 1) hown [] (⟨0, 16, 19, 13⟩ : ExceptionTableEntry) [] htab (fun z hz => nomatch hz) (by decide) (by decide) (hts _ mwL_fix_13) (va_Nw.use rfl (hX.2.2.2.1 (xn 1, xn 1) (by decide +kernel))) g1 g2 g3 ?_
      refine lv_astore_n (lv' := [(3, .ref q9), (0, .ref (q (0))), (1, .int x1), (2, .ref o)]) hx hb dL_fix_19 rfl hl (by decide) rfl (fun ls hl => ?_)
      refine lv_iconst (v := (1 : Int32)) hx hb dL_fix_20 (by decide) ?_
      exact W.iret (v := (1 : Int32)) hx hb hr (fun t ht hW => ⟨⟨(1 : Int32), (), rfl, rfl, by subst ht; exact ⟨hP, hO⟩⟩, hS.F ht⟩) hS.2.2 dL_fix_21
    exfalso
    simp [lhz, lhk, h1] at hz
theorem mwL_isOn_13 : Cond.classLink RL 13 (xn 1) ∈ wsL_isOn := by decide +kernel
abbrev rmL_isOn : Room := { frames := 8, cells := 1, slots := 6, locals := 132 }
theorem nVL_isOn : yL_isOn.cls ≠ "java/lang/invoke/MethodHandle" ∧ yL_isOn.cls ≠ "java/lang/invoke/VarHandle" ∧ (parseMethodDescriptor yL_isOn.desc).map (fun d => d.parameters.length) = some 3 := by decide +kernel
set_option maxHeartbeats 4000000 in
set_option maxRecDepth 100000 in
theorem mL_isOn {D : va_G} {cy : Nat → ClassId} {q : Nat → Nat} (l : Launch) (hlf : l.stackTraces = false) (hJ : gJ 78 q) {o : Nat} (ho : ¬ gA 78 q o) {fo : Nat → Int64} {x1 : Int32} {σ : TS} {z : Int32 ⊕ Nat} {u : TS} {r : Int32} (hp : sX8_isOn x1 σ = some (z, u)) (hz : lhz [(1, 1)] z = some r) : Met l yL_isOn wsL_isOn rmL_isOn (va_Pc [.ref (q (0)), .int x1, .ref o] (hPre D vwCl (tyL cy) (gS 78 q (TX cy q) σ) (oW o cy fo) (hA q o))) (va_Qi (fun r' (_ : Unit) => r' = r) (fun _ t => va_P D vwCl (gS 78 q (TX cy q) u) t.heap ∧ va_P D vwCl (oW o cy (lob z fo)) t.heap) (hA q o)) 1 6 (hA q o) := by
  refine g_ofWH (cc := cL_isOn) (maxL := 4) (ret := (some .int)) (hh := [(0, 16, 19, 13)]) (by decide +kernel) rfl ?_
  intro p e s m args below meth c s₁ B hml htab hv
  obtain ⟨rfl, ⟨hP, hO, hK⟩, hX, hNt⟩ := hv
  have hx := B.exec
  have hb := B.bytes
  have hr := B.returns
  have hlocks := B.notSynchronized
  have hts := atoms_spec (ws := wsL_isOn) B.pre
  have hown : s.vm.findClass RL = some m.cls := findClass_of_methodNamed B.named
  have hS : va_S (hA q o) s.heap s.heap [] := va_S.rf
  have hl := lv_entry ([.ref (q (0)), .int x1, .ref o]) (n := 4) (Nat.le_of_ble_eq_true rfl)
  rw [lg_entry_eq]
  generalize (lg_sl ([.ref (q (0)), .int x1, .ref o]) ++ List.replicate (4 - (lg_sl ([.ref (q (0)), .int x1, .ref o])).length) Slot.unset).toArray = ls at hl ⊢
  have hl : lv_has ls 4 [(0, .ref (q (0))), (1, .int x1), (2, .ref o)] := hl
  refine lv_aload_n hx hb dL_isOn_0 rfl (lv_at hl 2 rfl) ?_
  refine lv_iconst (v := (0 : Int32)) hx hb dL_isOn_1 (by decide) ?_
  refine lv_aload_n hx hb dL_isOn_2 rfl (lv_at hl 0 rfl) ?_
  refine lv_iload_n hx hb dL_isOn_3 rfl (lv_at hl 1 rfl) ?_
  rcases z with r1 | k1
  · have hz : some (0 : Int32) = some r := hz
    cases hz
    refine h_cVi (As := [.int x1]) (rest := [.int (0 : Int32), .ref o]) hx hb hml hown hts hK hX (fun a h => Or.inl h) hP hO (h_odis ho) hS (mX8_isOn l hlf hJ hp) (cwV 1 hts gL_isOn_X8_isOn rfl rfl rfl nVX8_isOn ⟨Nat.le_of_ble_eq_true rfl, Nat.le_of_ble_eq_true rfl⟩) (g_recv hK hP kk_Tri ce_Tri rfl) rfl hl.1 rfl (Nat.le_of_ble_eq_true rfl) dL_isOn_4 ⟨Nat.le_of_ble_eq_true rfl, Nat.le_of_ble_eq_true rfl⟩ (fun H locs hP hO hS => ?_)
    refine lv_if_eq (tgt := 14) hx hb dL_isOn_7 (by decide) (fun hc => ?_) (fun hc => ?_)
    · have e0 : lob (Sum.inl r1) fo = vp_updL fo 0 0 := by simp [lob, hc]
      refine lv_lconst (v := (0 : Int64)) hx hb dL_isOn_14 (by decide) ?_
      refine h_last hx hb hK hJ ho hP hO hS dL_isOn_15 (fun H locs hP hO hS => ?_)
      refine lv_goto (tgt := 22) hx hb dL_isOn_16 (by decide) ?_
      refine lv_iconst (v := (0 : Int32)) hx hb dL_isOn_22 (by decide) ?_
      exact W.iret (v := (0 : Int32)) hx hb hr (fun t ht hW => ⟨⟨(0 : Int32), (), rfl, rfl, by subst ht; rw [e0]; exact ⟨hP, hO⟩⟩, hS.F ht⟩) hS.2.2 dL_isOn_23
    · have e0 : lob (Sum.inl r1) fo = vp_updL fo 0 1 := by simp [lob, hc]
      refine lv_lconst (v := (1 : Int64)) hx hb dL_isOn_10 (by decide) ?_
      refine lv_goto (tgt := 15) hx hb dL_isOn_11 (by decide) ?_
      refine h_last hx hb hK hJ ho hP hO hS dL_isOn_15 (fun H locs hP hO hS => ?_)
      refine lv_goto (tgt := 22) hx hb dL_isOn_16 (by decide) ?_
      refine lv_iconst (v := (0 : Int32)) hx hb dL_isOn_22 (by decide) ?_
      exact W.iret (v := (0 : Int32)) hx hb hr (fun t ht hW => ⟨⟨(0 : Int32), (), rfl, rfl, by subst ht; rw [e0]; exact ⟨hP, hO⟩⟩, hS.F ht⟩) hS.2.2 dL_isOn_23
  · skip
    by_cases h1 : k1 = 1
    · subst h1
      have hz : some (1 : Int32) = some r := hz
      cases hz
      refine h_cVx (As := [.int x1]) (rest := [.int (0 : Int32), .ref o]) hx hb hml hown hts hK hX (fun a h => Or.inl h) hP hO (h_odis ho) hS (mX8_isOn l hlf hJ hp) (cwV 1 hts gL_isOn_X8_isOn rfl rfl rfl nVX8_isOn ⟨Nat.le_of_ble_eq_true rfl, Nat.le_of_ble_eq_true rfl⟩) (g_recv hK hP kk_Tri ce_Tri rfl) rfl hl.1 rfl (Nat.le_of_ble_eq_true rfl) dL_isOn_4 ⟨Nat.le_of_ble_eq_true rfl, Nat.le_of_ble_eq_true rfl⟩ (fun ce q9 H locs hP hO hS g1 g2 g3 => ?_)
      refine vx_catch (own := RL) (name := xn 1) hown [] (⟨0, 16, 19, 13⟩ : ExceptionTableEntry) [] htab (fun z hz => nomatch hz) (by decide) (by decide) (hts _ mwL_isOn_13) (va_Nw.use rfl (hX.2.2.2.1 (xn 1, xn 1) (by decide +kernel))) g1 g2 g3 ?_
      refine lv_astore_n (lv' := [(3, .ref q9), (0, .ref (q (0))), (1, .int x1), (2, .ref o)]) hx hb dL_isOn_19 rfl hl (by decide) rfl (fun ls hl => ?_)
      refine lv_iconst (v := (1 : Int32)) hx hb dL_isOn_20 (by decide) ?_
      exact W.iret (v := (1 : Int32)) hx hb hr (fun t ht hW => ⟨⟨(1 : Int32), (), rfl, rfl, by subst ht; exact ⟨hP, hO⟩⟩, hS.F ht⟩) hS.2.2 dL_isOn_21
    exfalso
    simp [lhz, lhk, h1] at hz
theorem mwL_strikes_13 : Cond.classLink RL 13 (xn 1) ∈ wsL_strikes := by decide +kernel
abbrev rmL_strikes : Room := { frames := 8, cells := 1, slots := 6, locals := 132 }
theorem nVL_strikes : yL_strikes.cls ≠ "java/lang/invoke/MethodHandle" ∧ yL_strikes.cls ≠ "java/lang/invoke/VarHandle" ∧ (parseMethodDescriptor yL_strikes.desc).map (fun d => d.parameters.length) = some 3 := by decide +kernel
set_option maxHeartbeats 4000000 in
set_option maxRecDepth 100000 in
theorem mL_strikes {D : va_G} {cy : Nat → ClassId} {q : Nat → Nat} (l : Launch) (hlf : l.stackTraces = false) (hJ : gJ 78 q) {o : Nat} (ho : ¬ gA 78 q o) {fo : Nat → Int64} {x1 : Int32} {σ : TS} {z : Int32 ⊕ Nat} {u : TS} {r : Int32} (hp : sX8_strikes x1 σ = some (z, u)) (hz : lhz [(1, 1)] z = some r) : Met l yL_strikes wsL_strikes rmL_strikes (va_Pc [.ref (q (0)), .int x1, .ref o] (hPre D vwCl (tyL cy) (gS 78 q (TX cy q) σ) (oW o cy fo) (hA q o))) (va_Qi (fun r' (_ : Unit) => r' = r) (fun _ t => va_P D vwCl (gS 78 q (TX cy q) u) t.heap ∧ va_P D vwCl (oW o cy (lo z fo)) t.heap) (hA q o)) 1 6 (hA q o) := by
  refine g_ofWH (cc := cL_strikes) (maxL := 4) (ret := (some .int)) (hh := [(0, 9, 12, 13)]) (by decide +kernel) rfl ?_
  intro p e s m args below meth c s₁ B hml htab hv
  obtain ⟨rfl, ⟨hP, hO, hK⟩, hX, hNt⟩ := hv
  have hx := B.exec
  have hb := B.bytes
  have hr := B.returns
  have hlocks := B.notSynchronized
  have hts := atoms_spec (ws := wsL_strikes) B.pre
  have hown : s.vm.findClass RL = some m.cls := findClass_of_methodNamed B.named
  have hS : va_S (hA q o) s.heap s.heap [] := va_S.rf
  have hl := lv_entry ([.ref (q (0)), .int x1, .ref o]) (n := 4) (Nat.le_of_ble_eq_true rfl)
  rw [lg_entry_eq]
  generalize (lg_sl ([.ref (q (0)), .int x1, .ref o]) ++ List.replicate (4 - (lg_sl ([.ref (q (0)), .int x1, .ref o])).length) Slot.unset).toArray = ls at hl ⊢
  have hl : lv_has ls 4 [(0, .ref (q (0))), (1, .int x1), (2, .ref o)] := hl
  refine lv_aload_n hx hb dL_strikes_0 rfl (lv_at hl 2 rfl) ?_
  refine lv_iconst (v := (0 : Int32)) hx hb dL_strikes_1 (by decide) ?_
  refine lv_aload_n hx hb dL_strikes_2 rfl (lv_at hl 0 rfl) ?_
  refine lv_iload_n hx hb dL_strikes_3 rfl (lv_at hl 1 rfl) ?_
  rcases z with r1 | k1
  · have hz : some (0 : Int32) = some r := hz
    cases hz
    refine h_cVi (As := [.int x1]) (rest := [.int (0 : Int32), .ref o]) hx hb hml hown hts hK hX (fun a h => Or.inl h) hP hO (h_odis ho) hS (mX8_strikes l hlf hJ hp) (cwV 1 hts gL_strikes_X8_strikes rfl rfl rfl nVX8_strikes ⟨Nat.le_of_ble_eq_true rfl, Nat.le_of_ble_eq_true rfl⟩) (g_recv hK hP kk_Tri ce_Tri rfl) rfl hl.1 rfl (Nat.le_of_ble_eq_true rfl) dL_strikes_4 ⟨Nat.le_of_ble_eq_true rfl, Nat.le_of_ble_eq_true rfl⟩ (fun H locs hP hO hS => ?_)
    refine lv_i2l hx hb dL_strikes_7 rfl ?_
    refine h_last hx hb hK hJ ho hP hO hS dL_strikes_8 (fun H locs hP hO hS => ?_)
    refine lv_goto (tgt := 15) hx hb dL_strikes_9 (by decide) ?_
    refine lv_iconst (v := (0 : Int32)) hx hb dL_strikes_15 (by decide) ?_
    exact W.iret (v := (0 : Int32)) hx hb hr (fun t ht hW => ⟨⟨(0 : Int32), (), rfl, rfl, by subst ht; exact ⟨hP, hO⟩⟩, hS.F ht⟩) hS.2.2 dL_strikes_16
  · skip
    by_cases h1 : k1 = 1
    · subst h1
      have hz : some (1 : Int32) = some r := hz
      cases hz
      refine h_cVx (As := [.int x1]) (rest := [.int (0 : Int32), .ref o]) hx hb hml hown hts hK hX (fun a h => Or.inl h) hP hO (h_odis ho) hS (mX8_strikes l hlf hJ hp) (cwV 1 hts gL_strikes_X8_strikes rfl rfl rfl nVX8_strikes ⟨Nat.le_of_ble_eq_true rfl, Nat.le_of_ble_eq_true rfl⟩) (g_recv hK hP kk_Tri ce_Tri rfl) rfl hl.1 rfl (Nat.le_of_ble_eq_true rfl) dL_strikes_4 ⟨Nat.le_of_ble_eq_true rfl, Nat.le_of_ble_eq_true rfl⟩ (fun ce q9 H locs hP hO hS g1 g2 g3 => ?_)
      refine vx_catch (own := RL) (name := xn 1) hown [] (⟨0, 9, 12, 13⟩ : ExceptionTableEntry) [] htab (fun z hz => nomatch hz) (by decide) (by decide) (hts _ mwL_strikes_13) (va_Nw.use rfl (hX.2.2.2.1 (xn 1, xn 1) (by decide +kernel))) g1 g2 g3 ?_
      refine lv_astore_n (lv' := [(3, .ref q9), (0, .ref (q (0))), (1, .int x1), (2, .ref o)]) hx hb dL_strikes_12 rfl hl (by decide) rfl (fun ls hl => ?_)
      refine lv_iconst (v := (1 : Int32)) hx hb dL_strikes_13 (by decide) ?_
      exact W.iret (v := (1 : Int32)) hx hb hr (fun t ht hW => ⟨⟨(1 : Int32), (), rfl, rfl, by subst ht; exact ⟨hP, hO⟩⟩, hS.F ht⟩) hS.2.2 dL_strikes_14
    exfalso
    simp [lhz, lhk, h1] at hz
theorem mwL_shut_13 : Cond.classLink RL 13 (xn 1) ∈ wsL_shut := by decide +kernel
theorem mwL_shut_57 : Cond.classLink RL 57 (xn 4) ∈ wsL_shut := by decide +kernel
abbrev rmL_shut : Room := { frames := 8, cells := 2, slots := 12, locals := 132 }
theorem nVL_shut : yL_shut.cls ≠ "java/lang/invoke/MethodHandle" ∧ yL_shut.cls ≠ "java/lang/invoke/VarHandle" ∧ (parseMethodDescriptor yL_shut.desc).map (fun d => d.parameters.length) = some 3 := by decide +kernel
set_option maxHeartbeats 4000000 in
set_option maxRecDepth 100000 in
theorem mL_shut {D : va_G} {cy : Nat → ClassId} {q : Nat → Nat} (l : Launch) (hlf : l.stackTraces = false) (hJ : gJ 78 q) {o : Nat} (ho : ¬ gA 78 q o) {fo : Nat → Int64} {x1 : Int32} {σ : TS} {z : Int32 ⊕ Nat} {u : TS} {r : Int32} (hp : sX8_shut x1 σ = some (z, u)) (hz : lhz [(1, 1), (4, 2)] z = some r) : Met l yL_shut wsL_shut rmL_shut (va_Pc [.ref (q (0)), .int x1, .ref o] (hPre D vwCl (tyL cy) (gS 78 q (TX cy q) σ) (oW o cy fo) (hA q o))) (va_Qi (fun r' (_ : Unit) => r' = r) (fun _ t => va_P D vwCl (gS 78 q (TX cy q) u) t.heap ∧ va_P D vwCl (oW o cy (lo z fo)) t.heap) (hA q o)) 2 12 (hA q o) := by
  refine g_ofWH (cc := cL_shut) (maxL := 4) (ret := (some .int)) (hh := [(0, 9, 12, 13), (0, 9, 15, 57)]) (by decide +kernel) rfl ?_
  intro p e s m args below meth c s₁ B hml htab hv
  obtain ⟨rfl, ⟨hP, hO, hK⟩, hX, hNt⟩ := hv
  have hx := B.exec
  have hb := B.bytes
  have hr := B.returns
  have hlocks := B.notSynchronized
  have hts := atoms_spec (ws := wsL_shut) B.pre
  have hown : s.vm.findClass RL = some m.cls := findClass_of_methodNamed B.named
  have hS : va_S (hA q o) s.heap s.heap [] := va_S.rf
  have hl := lv_entry ([.ref (q (0)), .int x1, .ref o]) (n := 4) (Nat.le_of_ble_eq_true rfl)
  rw [lg_entry_eq]
  generalize (lg_sl ([.ref (q (0)), .int x1, .ref o]) ++ List.replicate (4 - (lg_sl ([.ref (q (0)), .int x1, .ref o])).length) Slot.unset).toArray = ls at hl ⊢
  have hl : lv_has ls 4 [(0, .ref (q (0))), (1, .int x1), (2, .ref o)] := hl
  refine lv_aload_n hx hb dL_shut_0 rfl (lv_at hl 2 rfl) ?_
  refine lv_iconst (v := (0 : Int32)) hx hb dL_shut_1 (by decide) ?_
  refine lv_aload_n hx hb dL_shut_2 rfl (lv_at hl 0 rfl) ?_
  refine lv_iload_n hx hb dL_shut_3 rfl (lv_at hl 1 rfl) ?_
  rcases z with r1 | k1
  · have hz : some (0 : Int32) = some r := hz
    cases hz
    refine h_cVi (As := [.int x1]) (rest := [.int (0 : Int32), .ref o]) hx hb hml hown hts hK hX (fun a h => Or.inl h) hP hO (h_odis ho) hS (mX8_shut l hlf hJ hp) (cwV 1 hts gL_shut_X8_shut rfl rfl rfl nVX8_shut ⟨Nat.le_of_ble_eq_true rfl, Nat.le_of_ble_eq_true rfl⟩) (g_recv hK hP kk_Tri ce_Tri rfl) rfl hl.1 rfl (Nat.le_of_ble_eq_true rfl) dL_shut_4 ⟨Nat.le_of_ble_eq_true rfl, Nat.le_of_ble_eq_true rfl⟩ (fun H locs hP hO hS => ?_)
    refine lv_i2l hx hb dL_shut_7 rfl ?_
    refine h_last hx hb hK hJ ho hP hO hS dL_shut_8 (fun H locs hP hO hS => ?_)
    refine lv_goto (tgt := 18) hx hb dL_shut_9 (by decide) ?_
    refine lv_iconst (v := (0 : Int32)) hx hb dL_shut_18 (by decide) ?_
    exact W.iret (v := (0 : Int32)) hx hb hr (fun t ht hW => ⟨⟨(0 : Int32), (), rfl, rfl, by subst ht; exact ⟨hP, hO⟩⟩, hS.F ht⟩) hS.2.2 dL_shut_19
  · skip
    by_cases h1 : k1 = 1
    · subst h1
      have hz : some (1 : Int32) = some r := hz
      cases hz
      refine h_cVx (As := [.int x1]) (rest := [.int (0 : Int32), .ref o]) hx hb hml hown hts hK hX (fun a h => Or.inl h) hP hO (h_odis ho) hS (mX8_shut l hlf hJ hp) (cwV 1 hts gL_shut_X8_shut rfl rfl rfl nVX8_shut ⟨Nat.le_of_ble_eq_true rfl, Nat.le_of_ble_eq_true rfl⟩) (g_recv hK hP kk_Tri ce_Tri rfl) rfl hl.1 rfl (Nat.le_of_ble_eq_true rfl) dL_shut_4 ⟨Nat.le_of_ble_eq_true rfl, Nat.le_of_ble_eq_true rfl⟩ (fun ce q9 H locs hP hO hS g1 g2 g3 => ?_)
      refine vx_catch (own := RL) (name := xn 1) hown [] (⟨0, 9, 12, 13⟩ : ExceptionTableEntry) [(⟨0, 9, 15, 57⟩ : ExceptionTableEntry)] htab (fun z hz => nomatch hz) (by decide) (by decide) (hts _ mwL_shut_13) (va_Nw.use rfl (hX.2.2.2.1 (xn 1, xn 1) (by decide +kernel))) g1 g2 g3 ?_
      refine lv_astore_n (lv' := [(3, .ref q9), (0, .ref (q (0))), (1, .int x1), (2, .ref o)]) hx hb dL_shut_12 rfl hl (by decide) rfl (fun ls hl => ?_)
      refine lv_iconst (v := (1 : Int32)) hx hb dL_shut_13 (by decide) ?_
      exact W.iret (v := (1 : Int32)) hx hb hr (fun t ht hW => ⟨⟨(1 : Int32), (), rfl, rfl, by subst ht; exact ⟨hP, hO⟩⟩, hS.F ht⟩) hS.2.2 dL_shut_14
    by_cases h4 : k1 = 4
    · subst h4
      have hz : some (2 : Int32) = some r := hz
      cases hz
      refine h_cVx (As := [.int x1]) (rest := [.int (0 : Int32), .ref o]) hx hb hml hown hts hK hX (fun a h => Or.inl h) hP hO (h_odis ho) hS (mX8_shut l hlf hJ hp) (cwV 1 hts gL_shut_X8_shut rfl rfl rfl nVX8_shut ⟨Nat.le_of_ble_eq_true rfl, Nat.le_of_ble_eq_true rfl⟩) (g_recv hK hP kk_Tri ce_Tri rfl) rfl hl.1 rfl (Nat.le_of_ble_eq_true rfl) dL_shut_4 ⟨Nat.le_of_ble_eq_true rfl, Nat.le_of_ble_eq_true rfl⟩ (fun ce q9 H locs hP hO hS g1 g2 g3 => ?_)
      refine vx_catch (own := RL) (name := xn 4) hown [(⟨0, 9, 12, 13⟩ : ExceptionTableEntry)] (⟨0, 9, 15, 57⟩ : ExceptionTableEntry) [] htab (fun z hz => by
        simp only [List.mem_cons, List.not_mem_nil, or_false] at hz
        rcases hz with rfl
        · exact Or.inr ⟨by decide, xn 1, hts _ mwL_shut_13, hNt (xn 4, xn 1) (by decide +kernel)⟩) (by decide) (by decide) (hts _ mwL_shut_57) (va_Nw.use rfl (hX.2.2.2.1 (xn 4, xn 4) (by decide +kernel))) g1 g2 g3 ?_
      refine lv_astore_n (lv' := [(3, .ref q9), (0, .ref (q (0))), (1, .int x1), (2, .ref o)]) hx hb dL_shut_15 rfl hl (by decide) rfl (fun ls hl => ?_)
      refine lv_iconst (v := (2 : Int32)) hx hb dL_shut_16 (by decide) ?_
      exact W.iret (v := (2 : Int32)) hx hb hr (fun t ht hW => ⟨⟨(2 : Int32), (), rfl, rfl, by subst ht; exact ⟨hP, hO⟩⟩, hS.F ht⟩) hS.2.2 dL_shut_17
    exfalso
    simp [lhz, lhk, h1, h4] at hz
theorem mwL_test_13 : Cond.classLink RL 13 (xn 1) ∈ wsL_test := by decide +kernel
theorem mwL_test_57 : Cond.classLink RL 57 (xn 4) ∈ wsL_test := by decide +kernel
abbrev rmL_test : Room := { frames := 8, cells := 2, slots := 12, locals := 133 }
theorem nVL_test : yL_test.cls ≠ "java/lang/invoke/MethodHandle" ∧ yL_test.cls ≠ "java/lang/invoke/VarHandle" ∧ (parseMethodDescriptor yL_test.desc).map (fun d => d.parameters.length) = some 3 := by decide +kernel
set_option maxHeartbeats 4000000 in
set_option maxRecDepth 100000 in
theorem mL_test {D : va_G} {cy : Nat → ClassId} {q : Nat → Nat} (l : Launch) (hlf : l.stackTraces = false) (hJ : gJ 78 q) {o : Nat} (ho : ¬ gA 78 q o) {fo : Nat → Int64} {x1 : Int32} {σ : TS} {z : Int32 ⊕ Nat} {u : TS} {r : Int32} (hp : sX8_test x1 σ = some (z, u)) (hz : lhz [(1, 1), (4, 2)] z = some r) : Met l yL_test wsL_test rmL_test (va_Pc [.ref (q (0)), .int x1, .ref o] (hPre D vwCl (tyL cy) (gS 78 q (TX cy q) σ) (oW o cy fo) (hA q o))) (va_Qi (fun r' (_ : Unit) => r' = r) (fun _ t => va_P D vwCl (gS 78 q (TX cy q) u) t.heap ∧ va_P D vwCl (oW o cy (lob z fo)) t.heap) (hA q o)) 2 12 (hA q o) := by
  refine g_ofWH (cc := cL_test) (maxL := 4) (ret := (some .int)) (hh := [(0, 16, 19, 13), (0, 16, 22, 57)]) (by decide +kernel) rfl ?_
  intro p e s m args below meth c s₁ B hml htab hv
  obtain ⟨rfl, ⟨hP, hO, hK⟩, hX, hNt⟩ := hv
  have hx := B.exec
  have hb := B.bytes
  have hr := B.returns
  have hlocks := B.notSynchronized
  have hts := atoms_spec (ws := wsL_test) B.pre
  have hown : s.vm.findClass RL = some m.cls := findClass_of_methodNamed B.named
  have hS : va_S (hA q o) s.heap s.heap [] := va_S.rf
  have hl := lv_entry ([.ref (q (0)), .int x1, .ref o]) (n := 4) (Nat.le_of_ble_eq_true rfl)
  rw [lg_entry_eq]
  generalize (lg_sl ([.ref (q (0)), .int x1, .ref o]) ++ List.replicate (4 - (lg_sl ([.ref (q (0)), .int x1, .ref o])).length) Slot.unset).toArray = ls at hl ⊢
  have hl : lv_has ls 4 [(0, .ref (q (0))), (1, .int x1), (2, .ref o)] := hl
  refine lv_aload_n hx hb dL_test_0 rfl (lv_at hl 2 rfl) ?_
  refine lv_iconst (v := (0 : Int32)) hx hb dL_test_1 (by decide) ?_
  refine lv_aload_n hx hb dL_test_2 rfl (lv_at hl 0 rfl) ?_
  refine lv_iload_n hx hb dL_test_3 rfl (lv_at hl 1 rfl) ?_
  rcases z with r1 | k1
  · have hz : some (0 : Int32) = some r := hz
    cases hz
    refine h_cVi (As := [.int x1]) (rest := [.int (0 : Int32), .ref o]) hx hb hml hown hts hK hX (fun a h => Or.inl h) hP hO (h_odis ho) hS (mX8_test l hlf hJ hp) (cwV 1 hts gL_test_X8_test rfl rfl rfl nVX8_test ⟨Nat.le_of_ble_eq_true rfl, Nat.le_of_ble_eq_true rfl⟩) (g_recv hK hP kk_Tri ce_Tri rfl) rfl hl.1 rfl (Nat.le_of_ble_eq_true rfl) dL_test_4 ⟨Nat.le_of_ble_eq_true rfl, Nat.le_of_ble_eq_true rfl⟩ (fun H locs hP hO hS => ?_)
    refine lv_if_eq (tgt := 14) hx hb dL_test_7 (by decide) (fun hc => ?_) (fun hc => ?_)
    · have e0 : lob (Sum.inl r1) fo = vp_updL fo 0 0 := by simp [lob, hc]
      refine lv_lconst (v := (0 : Int64)) hx hb dL_test_14 (by decide) ?_
      refine h_last hx hb hK hJ ho hP hO hS dL_test_15 (fun H locs hP hO hS => ?_)
      refine lv_goto (tgt := 25) hx hb dL_test_16 (by decide) ?_
      refine lv_iconst (v := (0 : Int32)) hx hb dL_test_25 (by decide) ?_
      exact W.iret (v := (0 : Int32)) hx hb hr (fun t ht hW => ⟨⟨(0 : Int32), (), rfl, rfl, by subst ht; rw [e0]; exact ⟨hP, hO⟩⟩, hS.F ht⟩) hS.2.2 dL_test_26
    · have e0 : lob (Sum.inl r1) fo = vp_updL fo 0 1 := by simp [lob, hc]
      refine lv_lconst (v := (1 : Int64)) hx hb dL_test_10 (by decide) ?_
      refine lv_goto (tgt := 15) hx hb dL_test_11 (by decide) ?_
      refine h_last hx hb hK hJ ho hP hO hS dL_test_15 (fun H locs hP hO hS => ?_)
      refine lv_goto (tgt := 25) hx hb dL_test_16 (by decide) ?_
      refine lv_iconst (v := (0 : Int32)) hx hb dL_test_25 (by decide) ?_
      exact W.iret (v := (0 : Int32)) hx hb hr (fun t ht hW => ⟨⟨(0 : Int32), (), rfl, rfl, by subst ht; rw [e0]; exact ⟨hP, hO⟩⟩, hS.F ht⟩) hS.2.2 dL_test_26
  · skip
    by_cases h1 : k1 = 1
    · subst h1
      have hz : some (1 : Int32) = some r := hz
      cases hz
      refine h_cVx (As := [.int x1]) (rest := [.int (0 : Int32), .ref o]) hx hb hml hown hts hK hX (fun a h => Or.inl h) hP hO (h_odis ho) hS (mX8_test l hlf hJ hp) (cwV 1 hts gL_test_X8_test rfl rfl rfl nVX8_test ⟨Nat.le_of_ble_eq_true rfl, Nat.le_of_ble_eq_true rfl⟩) (g_recv hK hP kk_Tri ce_Tri rfl) rfl hl.1 rfl (Nat.le_of_ble_eq_true rfl) dL_test_4 ⟨Nat.le_of_ble_eq_true rfl, Nat.le_of_ble_eq_true rfl⟩ (fun ce q9 H locs hP hO hS g1 g2 g3 => ?_)
      refine vx_catch (own := RL) (name := xn 1) hown [] (⟨0, 16, 19, 13⟩ : ExceptionTableEntry) [(⟨0, 16, 22, 57⟩ : ExceptionTableEntry)] htab (fun z hz => nomatch hz) (by decide) (by decide) (hts _ mwL_test_13) (va_Nw.use rfl (hX.2.2.2.1 (xn 1, xn 1) (by decide +kernel))) g1 g2 g3 ?_
      refine lv_astore_n (lv' := [(3, .ref q9), (0, .ref (q (0))), (1, .int x1), (2, .ref o)]) hx hb dL_test_19 rfl hl (by decide) rfl (fun ls hl => ?_)
      refine lv_iconst (v := (1 : Int32)) hx hb dL_test_20 (by decide) ?_
      exact W.iret (v := (1 : Int32)) hx hb hr (fun t ht hW => ⟨⟨(1 : Int32), (), rfl, rfl, by subst ht; exact ⟨hP, hO⟩⟩, hS.F ht⟩) hS.2.2 dL_test_21
    by_cases h4 : k1 = 4
    · subst h4
      have hz : some (2 : Int32) = some r := hz
      cases hz
      refine h_cVx (As := [.int x1]) (rest := [.int (0 : Int32), .ref o]) hx hb hml hown hts hK hX (fun a h => Or.inl h) hP hO (h_odis ho) hS (mX8_test l hlf hJ hp) (cwV 1 hts gL_test_X8_test rfl rfl rfl nVX8_test ⟨Nat.le_of_ble_eq_true rfl, Nat.le_of_ble_eq_true rfl⟩) (g_recv hK hP kk_Tri ce_Tri rfl) rfl hl.1 rfl (Nat.le_of_ble_eq_true rfl) dL_test_4 ⟨Nat.le_of_ble_eq_true rfl, Nat.le_of_ble_eq_true rfl⟩ (fun ce q9 H locs hP hO hS g1 g2 g3 => ?_)
      refine vx_catch (own := RL) (name := xn 4) hown [(⟨0, 16, 19, 13⟩ : ExceptionTableEntry)] (⟨0, 16, 22, 57⟩ : ExceptionTableEntry) [] htab (fun z hz => by
        simp only [List.mem_cons, List.not_mem_nil, or_false] at hz
        rcases hz with rfl
        · exact Or.inr ⟨by decide, xn 1, hts _ mwL_test_13, hNt (xn 4, xn 1) (by decide +kernel)⟩) (by decide) (by decide) (hts _ mwL_test_57) (va_Nw.use rfl (hX.2.2.2.1 (xn 4, xn 4) (by decide +kernel))) g1 g2 g3 ?_
      refine lv_astore_n (lv' := [(3, .ref q9), (0, .ref (q (0))), (1, .int x1), (2, .ref o)]) hx hb dL_test_22 rfl hl (by decide) rfl (fun ls hl => ?_)
      refine lv_iconst (v := (2 : Int32)) hx hb dL_test_23 (by decide) ?_
      exact W.iret (v := (2 : Int32)) hx hb hr (fun t ht hW => ⟨⟨(2 : Int32), (), rfl, rfl, by subst ht; exact ⟨hP, hO⟩⟩, hS.F ht⟩) hS.2.2 dL_test_24
    exfalso
    simp [lhz, lhk, h1, h4] at hz
theorem mwL_back_13 : Cond.classLink RL 13 (xn 1) ∈ wsL_back := by decide +kernel
theorem mwL_back_57 : Cond.classLink RL 57 (xn 4) ∈ wsL_back := by decide +kernel
abbrev rmL_back : Room := { frames := 8, cells := 2, slots := 12, locals := 134 }
theorem nVL_back : yL_back.cls ≠ "java/lang/invoke/MethodHandle" ∧ yL_back.cls ≠ "java/lang/invoke/VarHandle" ∧ (parseMethodDescriptor yL_back.desc).map (fun d => d.parameters.length) = some 3 := by decide +kernel
set_option maxHeartbeats 4000000 in
set_option maxRecDepth 100000 in
theorem mL_back {D : va_G} {cy : Nat → ClassId} {q : Nat → Nat} (l : Launch) (hlf : l.stackTraces = false) (hJ : gJ 78 q) {o : Nat} (ho : ¬ gA 78 q o) {fo : Nat → Int64} {x1 : Int32} {σ : TS} {z : Int32 ⊕ Nat} {u : TS} {r : Int32} (hp : sX8_back x1 σ = some (z, u)) (hz : lhz [(1, 1), (4, 2)] z = some r) : Met l yL_back wsL_back rmL_back (va_Pc [.ref (q (0)), .int x1, .ref o] (hPre D vwCl (tyL cy) (gS 78 q (TX cy q) σ) (oW o cy fo) (hA q o))) (va_Qi (fun r' (_ : Unit) => r' = r) (fun _ t => va_P D vwCl (gS 78 q (TX cy q) u) t.heap ∧ va_P D vwCl (oW o cy (lo z fo)) t.heap) (hA q o)) 2 12 (hA q o) := by
  refine g_ofWH (cc := cL_back) (maxL := 4) (ret := (some .int)) (hh := [(0, 9, 12, 13), (0, 9, 15, 57)]) (by decide +kernel) rfl ?_
  intro p e s m args below meth c s₁ B hml htab hv
  obtain ⟨rfl, ⟨hP, hO, hK⟩, hX, hNt⟩ := hv
  have hx := B.exec
  have hb := B.bytes
  have hr := B.returns
  have hlocks := B.notSynchronized
  have hts := atoms_spec (ws := wsL_back) B.pre
  have hown : s.vm.findClass RL = some m.cls := findClass_of_methodNamed B.named
  have hS : va_S (hA q o) s.heap s.heap [] := va_S.rf
  have hl := lv_entry ([.ref (q (0)), .int x1, .ref o]) (n := 4) (Nat.le_of_ble_eq_true rfl)
  rw [lg_entry_eq]
  generalize (lg_sl ([.ref (q (0)), .int x1, .ref o]) ++ List.replicate (4 - (lg_sl ([.ref (q (0)), .int x1, .ref o])).length) Slot.unset).toArray = ls at hl ⊢
  have hl : lv_has ls 4 [(0, .ref (q (0))), (1, .int x1), (2, .ref o)] := hl
  refine lv_aload_n hx hb dL_back_0 rfl (lv_at hl 2 rfl) ?_
  refine lv_iconst (v := (0 : Int32)) hx hb dL_back_1 (by decide) ?_
  refine lv_aload_n hx hb dL_back_2 rfl (lv_at hl 0 rfl) ?_
  refine lv_iload_n hx hb dL_back_3 rfl (lv_at hl 1 rfl) ?_
  rcases z with r1 | k1
  · have hz : some (0 : Int32) = some r := hz
    cases hz
    refine h_cVi (As := [.int x1]) (rest := [.int (0 : Int32), .ref o]) hx hb hml hown hts hK hX (fun a h => Or.inl h) hP hO (h_odis ho) hS (mX8_back l hlf hJ hp) (cwV 1 hts gL_back_X8_back rfl rfl rfl nVX8_back ⟨Nat.le_of_ble_eq_true rfl, Nat.le_of_ble_eq_true rfl⟩) (g_recv hK hP kk_Tri ce_Tri rfl) rfl hl.1 rfl (Nat.le_of_ble_eq_true rfl) dL_back_4 ⟨Nat.le_of_ble_eq_true rfl, Nat.le_of_ble_eq_true rfl⟩ (fun H locs hP hO hS => ?_)
    refine lv_i2l hx hb dL_back_7 rfl ?_
    refine h_last hx hb hK hJ ho hP hO hS dL_back_8 (fun H locs hP hO hS => ?_)
    refine lv_goto (tgt := 18) hx hb dL_back_9 (by decide) ?_
    refine lv_iconst (v := (0 : Int32)) hx hb dL_back_18 (by decide) ?_
    exact W.iret (v := (0 : Int32)) hx hb hr (fun t ht hW => ⟨⟨(0 : Int32), (), rfl, rfl, by subst ht; exact ⟨hP, hO⟩⟩, hS.F ht⟩) hS.2.2 dL_back_19
  · skip
    by_cases h1 : k1 = 1
    · subst h1
      have hz : some (1 : Int32) = some r := hz
      cases hz
      refine h_cVx (As := [.int x1]) (rest := [.int (0 : Int32), .ref o]) hx hb hml hown hts hK hX (fun a h => Or.inl h) hP hO (h_odis ho) hS (mX8_back l hlf hJ hp) (cwV 1 hts gL_back_X8_back rfl rfl rfl nVX8_back ⟨Nat.le_of_ble_eq_true rfl, Nat.le_of_ble_eq_true rfl⟩) (g_recv hK hP kk_Tri ce_Tri rfl) rfl hl.1 rfl (Nat.le_of_ble_eq_true rfl) dL_back_4 ⟨Nat.le_of_ble_eq_true rfl, Nat.le_of_ble_eq_true rfl⟩ (fun ce q9 H locs hP hO hS g1 g2 g3 => ?_)
      refine vx_catch (own := RL) (name := xn 1) hown [] (⟨0, 9, 12, 13⟩ : ExceptionTableEntry) [(⟨0, 9, 15, 57⟩ : ExceptionTableEntry)] htab (fun z hz => nomatch hz) (by decide) (by decide) (hts _ mwL_back_13) (va_Nw.use rfl (hX.2.2.2.1 (xn 1, xn 1) (by decide +kernel))) g1 g2 g3 ?_
      refine lv_astore_n (lv' := [(3, .ref q9), (0, .ref (q (0))), (1, .int x1), (2, .ref o)]) hx hb dL_back_12 rfl hl (by decide) rfl (fun ls hl => ?_)
      refine lv_iconst (v := (1 : Int32)) hx hb dL_back_13 (by decide) ?_
      exact W.iret (v := (1 : Int32)) hx hb hr (fun t ht hW => ⟨⟨(1 : Int32), (), rfl, rfl, by subst ht; exact ⟨hP, hO⟩⟩, hS.F ht⟩) hS.2.2 dL_back_14
    by_cases h4 : k1 = 4
    · subst h4
      have hz : some (2 : Int32) = some r := hz
      cases hz
      refine h_cVx (As := [.int x1]) (rest := [.int (0 : Int32), .ref o]) hx hb hml hown hts hK hX (fun a h => Or.inl h) hP hO (h_odis ho) hS (mX8_back l hlf hJ hp) (cwV 1 hts gL_back_X8_back rfl rfl rfl nVX8_back ⟨Nat.le_of_ble_eq_true rfl, Nat.le_of_ble_eq_true rfl⟩) (g_recv hK hP kk_Tri ce_Tri rfl) rfl hl.1 rfl (Nat.le_of_ble_eq_true rfl) dL_back_4 ⟨Nat.le_of_ble_eq_true rfl, Nat.le_of_ble_eq_true rfl⟩ (fun ce q9 H locs hP hO hS g1 g2 g3 => ?_)
      refine vx_catch (own := RL) (name := xn 4) hown [(⟨0, 9, 12, 13⟩ : ExceptionTableEntry)] (⟨0, 9, 15, 57⟩ : ExceptionTableEntry) [] htab (fun z hz => by
        simp only [List.mem_cons, List.not_mem_nil, or_false] at hz
        rcases hz with rfl
        · exact Or.inr ⟨by decide, xn 1, hts _ mwL_back_13, hNt (xn 4, xn 1) (by decide +kernel)⟩) (by decide) (by decide) (hts _ mwL_back_57) (va_Nw.use rfl (hX.2.2.2.1 (xn 4, xn 4) (by decide +kernel))) g1 g2 g3 ?_
      refine lv_astore_n (lv' := [(3, .ref q9), (0, .ref (q (0))), (1, .int x1), (2, .ref o)]) hx hb dL_back_15 rfl hl (by decide) rfl (fun ls hl => ?_)
      refine lv_iconst (v := (2 : Int32)) hx hb dL_back_16 (by decide) ?_
      exact W.iret (v := (2 : Int32)) hx hb hr (fun t ht hW => ⟨⟨(2 : Int32), (), rfl, rfl, by subst ht; exact ⟨hP, hO⟩⟩, hS.F ht⟩) hS.2.2 dL_back_17
    exfalso
    simp [lhz, lhk, h1, h4] at hz
theorem mwL_mended_13 : Cond.classLink RL 13 (xn 1) ∈ wsL_mended := by decide +kernel
abbrev rmL_mended : Room := { frames := 8, cells := 1, slots := 6, locals := 132 }
theorem nVL_mended : yL_mended.cls ≠ "java/lang/invoke/MethodHandle" ∧ yL_mended.cls ≠ "java/lang/invoke/VarHandle" ∧ (parseMethodDescriptor yL_mended.desc).map (fun d => d.parameters.length) = some 3 := by decide +kernel
set_option maxHeartbeats 4000000 in
set_option maxRecDepth 100000 in
theorem mL_mended {D : va_G} {cy : Nat → ClassId} {q : Nat → Nat} (l : Launch) (hlf : l.stackTraces = false) (hJ : gJ 78 q) {o : Nat} (ho : ¬ gA 78 q o) {fo : Nat → Int64} {x1 : Int32} {σ : TS} {z : Int32 ⊕ Nat} {u : TS} {r : Int32} (hp : sX8_mended x1 σ = some (z, u)) (hz : lhz [(1, 1)] z = some r) : Met l yL_mended wsL_mended rmL_mended (va_Pc [.ref (q (0)), .int x1, .ref o] (hPre D vwCl (tyL cy) (gS 78 q (TX cy q) σ) (oW o cy fo) (hA q o))) (va_Qi (fun r' (_ : Unit) => r' = r) (fun _ t => va_P D vwCl (gS 78 q (TX cy q) u) t.heap ∧ va_P D vwCl (oW o cy (lo z fo)) t.heap) (hA q o)) 1 6 (hA q o) := by
  refine g_ofWH (cc := cL_mended) (maxL := 4) (ret := (some .int)) (hh := [(0, 9, 12, 13)]) (by decide +kernel) rfl ?_
  intro p e s m args below meth c s₁ B hml htab hv
  obtain ⟨rfl, ⟨hP, hO, hK⟩, hX, hNt⟩ := hv
  have hx := B.exec
  have hb := B.bytes
  have hr := B.returns
  have hlocks := B.notSynchronized
  have hts := atoms_spec (ws := wsL_mended) B.pre
  have hown : s.vm.findClass RL = some m.cls := findClass_of_methodNamed B.named
  have hS : va_S (hA q o) s.heap s.heap [] := va_S.rf
  have hl := lv_entry ([.ref (q (0)), .int x1, .ref o]) (n := 4) (Nat.le_of_ble_eq_true rfl)
  rw [lg_entry_eq]
  generalize (lg_sl ([.ref (q (0)), .int x1, .ref o]) ++ List.replicate (4 - (lg_sl ([.ref (q (0)), .int x1, .ref o])).length) Slot.unset).toArray = ls at hl ⊢
  have hl : lv_has ls 4 [(0, .ref (q (0))), (1, .int x1), (2, .ref o)] := hl
  refine lv_aload_n hx hb dL_mended_0 rfl (lv_at hl 2 rfl) ?_
  refine lv_iconst (v := (0 : Int32)) hx hb dL_mended_1 (by decide) ?_
  refine lv_aload_n hx hb dL_mended_2 rfl (lv_at hl 0 rfl) ?_
  refine lv_iload_n hx hb dL_mended_3 rfl (lv_at hl 1 rfl) ?_
  rcases z with r1 | k1
  · have hz : some (0 : Int32) = some r := hz
    cases hz
    refine h_cVi (As := [.int x1]) (rest := [.int (0 : Int32), .ref o]) hx hb hml hown hts hK hX (fun a h => Or.inl h) hP hO (h_odis ho) hS (mX8_mended l hlf hJ hp) (cwV 1 hts gL_mended_X8_mended rfl rfl rfl nVX8_mended ⟨Nat.le_of_ble_eq_true rfl, Nat.le_of_ble_eq_true rfl⟩) (g_recv hK hP kk_Tri ce_Tri rfl) rfl hl.1 rfl (Nat.le_of_ble_eq_true rfl) dL_mended_4 ⟨Nat.le_of_ble_eq_true rfl, Nat.le_of_ble_eq_true rfl⟩ (fun H locs hP hO hS => ?_)
    refine lv_i2l hx hb dL_mended_7 rfl ?_
    refine h_last hx hb hK hJ ho hP hO hS dL_mended_8 (fun H locs hP hO hS => ?_)
    refine lv_goto (tgt := 15) hx hb dL_mended_9 (by decide) ?_
    refine lv_iconst (v := (0 : Int32)) hx hb dL_mended_15 (by decide) ?_
    exact W.iret (v := (0 : Int32)) hx hb hr (fun t ht hW => ⟨⟨(0 : Int32), (), rfl, rfl, by subst ht; exact ⟨hP, hO⟩⟩, hS.F ht⟩) hS.2.2 dL_mended_16
  · skip
    by_cases h1 : k1 = 1
    · subst h1
      have hz : some (1 : Int32) = some r := hz
      cases hz
      refine h_cVx (As := [.int x1]) (rest := [.int (0 : Int32), .ref o]) hx hb hml hown hts hK hX (fun a h => Or.inl h) hP hO (h_odis ho) hS (mX8_mended l hlf hJ hp) (cwV 1 hts gL_mended_X8_mended rfl rfl rfl nVX8_mended ⟨Nat.le_of_ble_eq_true rfl, Nat.le_of_ble_eq_true rfl⟩) (g_recv hK hP kk_Tri ce_Tri rfl) rfl hl.1 rfl (Nat.le_of_ble_eq_true rfl) dL_mended_4 ⟨Nat.le_of_ble_eq_true rfl, Nat.le_of_ble_eq_true rfl⟩ (fun ce q9 H locs hP hO hS g1 g2 g3 => ?_)
      refine vx_catch (own := RL) (name := xn 1) hown [] (⟨0, 9, 12, 13⟩ : ExceptionTableEntry) [] htab (fun z hz => nomatch hz) (by decide) (by decide) (hts _ mwL_mended_13) (va_Nw.use rfl (hX.2.2.2.1 (xn 1, xn 1) (by decide +kernel))) g1 g2 g3 ?_
      refine lv_astore_n (lv' := [(3, .ref q9), (0, .ref (q (0))), (1, .int x1), (2, .ref o)]) hx hb dL_mended_12 rfl hl (by decide) rfl (fun ls hl => ?_)
      refine lv_iconst (v := (1 : Int32)) hx hb dL_mended_13 (by decide) ?_
      exact W.iret (v := (1 : Int32)) hx hb hr (fun t ht hW => ⟨⟨(1 : Int32), (), rfl, rfl, by subst ht; exact ⟨hP, hO⟩⟩, hS.F ht⟩) hS.2.2 dL_mended_14
    exfalso
    simp [lhz, lhk, h1] at hz
theorem mwL_overruns_13 : Cond.classLink RL 13 (xn 1) ∈ wsL_overruns := by decide +kernel
abbrev rmL_overruns : Room := { frames := 8, cells := 1, slots := 6, locals := 132 }
theorem nVL_overruns : yL_overruns.cls ≠ "java/lang/invoke/MethodHandle" ∧ yL_overruns.cls ≠ "java/lang/invoke/VarHandle" ∧ (parseMethodDescriptor yL_overruns.desc).map (fun d => d.parameters.length) = some 3 := by decide +kernel
set_option maxHeartbeats 4000000 in
set_option maxRecDepth 100000 in
theorem mL_overruns {D : va_G} {cy : Nat → ClassId} {q : Nat → Nat} (l : Launch) (hlf : l.stackTraces = false) (hJ : gJ 78 q) {o : Nat} (ho : ¬ gA 78 q o) {fo : Nat → Int64} {x1 : Int32} {σ : TS} {z : Int32 ⊕ Nat} {u : TS} {r : Int32} (hp : sX8_overruns x1 σ = some (z, u)) (hz : lhz [(1, 1)] z = some r) : Met l yL_overruns wsL_overruns rmL_overruns (va_Pc [.ref (q (0)), .int x1, .ref o] (hPre D vwCl (tyL cy) (gS 78 q (TX cy q) σ) (oW o cy fo) (hA q o))) (va_Qi (fun r' (_ : Unit) => r' = r) (fun _ t => va_P D vwCl (gS 78 q (TX cy q) u) t.heap ∧ va_P D vwCl (oW o cy (lo z fo)) t.heap) (hA q o)) 1 6 (hA q o) := by
  refine g_ofWH (cc := cL_overruns) (maxL := 4) (ret := (some .int)) (hh := [(0, 9, 12, 13)]) (by decide +kernel) rfl ?_
  intro p e s m args below meth c s₁ B hml htab hv
  obtain ⟨rfl, ⟨hP, hO, hK⟩, hX, hNt⟩ := hv
  have hx := B.exec
  have hb := B.bytes
  have hr := B.returns
  have hlocks := B.notSynchronized
  have hts := atoms_spec (ws := wsL_overruns) B.pre
  have hown : s.vm.findClass RL = some m.cls := findClass_of_methodNamed B.named
  have hS : va_S (hA q o) s.heap s.heap [] := va_S.rf
  have hl := lv_entry ([.ref (q (0)), .int x1, .ref o]) (n := 4) (Nat.le_of_ble_eq_true rfl)
  rw [lg_entry_eq]
  generalize (lg_sl ([.ref (q (0)), .int x1, .ref o]) ++ List.replicate (4 - (lg_sl ([.ref (q (0)), .int x1, .ref o])).length) Slot.unset).toArray = ls at hl ⊢
  have hl : lv_has ls 4 [(0, .ref (q (0))), (1, .int x1), (2, .ref o)] := hl
  refine lv_aload_n hx hb dL_overruns_0 rfl (lv_at hl 2 rfl) ?_
  refine lv_iconst (v := (0 : Int32)) hx hb dL_overruns_1 (by decide) ?_
  refine lv_aload_n hx hb dL_overruns_2 rfl (lv_at hl 0 rfl) ?_
  refine lv_iload_n hx hb dL_overruns_3 rfl (lv_at hl 1 rfl) ?_
  rcases z with r1 | k1
  · have hz : some (0 : Int32) = some r := hz
    cases hz
    refine h_cVi (As := [.int x1]) (rest := [.int (0 : Int32), .ref o]) hx hb hml hown hts hK hX (fun a h => Or.inl h) hP hO (h_odis ho) hS (mX8_overruns l hlf hJ hp) (cwV 1 hts gL_overruns_X8_overruns rfl rfl rfl nVX8_overruns ⟨Nat.le_of_ble_eq_true rfl, Nat.le_of_ble_eq_true rfl⟩) (g_recv hK hP kk_Tri ce_Tri rfl) rfl hl.1 rfl (Nat.le_of_ble_eq_true rfl) dL_overruns_4 ⟨Nat.le_of_ble_eq_true rfl, Nat.le_of_ble_eq_true rfl⟩ (fun H locs hP hO hS => ?_)
    refine lv_i2l hx hb dL_overruns_7 rfl ?_
    refine h_last hx hb hK hJ ho hP hO hS dL_overruns_8 (fun H locs hP hO hS => ?_)
    refine lv_goto (tgt := 15) hx hb dL_overruns_9 (by decide) ?_
    refine lv_iconst (v := (0 : Int32)) hx hb dL_overruns_15 (by decide) ?_
    exact W.iret (v := (0 : Int32)) hx hb hr (fun t ht hW => ⟨⟨(0 : Int32), (), rfl, rfl, by subst ht; exact ⟨hP, hO⟩⟩, hS.F ht⟩) hS.2.2 dL_overruns_16
  · skip
    by_cases h1 : k1 = 1
    · subst h1
      have hz : some (1 : Int32) = some r := hz
      cases hz
      refine h_cVx (As := [.int x1]) (rest := [.int (0 : Int32), .ref o]) hx hb hml hown hts hK hX (fun a h => Or.inl h) hP hO (h_odis ho) hS (mX8_overruns l hlf hJ hp) (cwV 1 hts gL_overruns_X8_overruns rfl rfl rfl nVX8_overruns ⟨Nat.le_of_ble_eq_true rfl, Nat.le_of_ble_eq_true rfl⟩) (g_recv hK hP kk_Tri ce_Tri rfl) rfl hl.1 rfl (Nat.le_of_ble_eq_true rfl) dL_overruns_4 ⟨Nat.le_of_ble_eq_true rfl, Nat.le_of_ble_eq_true rfl⟩ (fun ce q9 H locs hP hO hS g1 g2 g3 => ?_)
      refine vx_catch (own := RL) (name := xn 1) hown [] (⟨0, 9, 12, 13⟩ : ExceptionTableEntry) [] htab (fun z hz => nomatch hz) (by decide) (by decide) (hts _ mwL_overruns_13) (va_Nw.use rfl (hX.2.2.2.1 (xn 1, xn 1) (by decide +kernel))) g1 g2 g3 ?_
      refine lv_astore_n (lv' := [(3, .ref q9), (0, .ref (q (0))), (1, .int x1), (2, .ref o)]) hx hb dL_overruns_12 rfl hl (by decide) rfl (fun ls hl => ?_)
      refine lv_iconst (v := (1 : Int32)) hx hb dL_overruns_13 (by decide) ?_
      exact W.iret (v := (1 : Int32)) hx hb hr (fun t ht hW => ⟨⟨(1 : Int32), (), rfl, rfl, by subst ht; exact ⟨hP, hO⟩⟩, hS.F ht⟩) hS.2.2 dL_overruns_14
    exfalso
    simp [lhz, lhk, h1] at hz
theorem mwL_read_13 : Cond.classLink RL 13 (xn 1) ∈ wsL_read := by decide +kernel
theorem mwL_read_15 : Cond.classLink RL 15 (xn 2) ∈ wsL_read := by decide +kernel
abbrev rmL_read : Room := { frames := 8, cells := 2, slots := 12, locals := 135 }
theorem nVL_read : yL_read.cls ≠ "java/lang/invoke/MethodHandle" ∧ yL_read.cls ≠ "java/lang/invoke/VarHandle" ∧ (parseMethodDescriptor yL_read.desc).map (fun d => d.parameters.length) = some 6 := by decide +kernel
set_option maxHeartbeats 4000000 in
set_option maxRecDepth 100000 in
theorem mL_read {D : va_G} {cy : Nat → ClassId} {q : Nat → Nat} (l : Launch) (hlf : l.stackTraces = false) (hJ : gJ 78 q) {o : Nat} (ho : ¬ gA 78 q o) {fo : Nat → Int64} {x1 : Int32} {x2 : Int32} {x3 : Int32} {x4 : Int32} {σ : TS} {z : Int32 ⊕ Nat} {u : TS} {r : Int32} (hp : sX8_read x1 x2 x3 x4 σ = some (z, u)) (hz : lhz [(1, 1), (2, 2)] z = some r) : Met l yL_read wsL_read rmL_read (va_Pc [.ref (q (0)), .int x1, .int x2, .int x3, .int x4, .ref o] (hPre D vwCl (tyL cy) (gS 78 q (TX cy q) σ) (oW o cy fo) (hA q o))) (va_Qi (fun r' (_ : Unit) => r' = r) (fun _ t => va_P D vwCl (gS 78 q (TX cy q) u) t.heap ∧ va_P D vwCl (oW o cy (lo z fo)) t.heap) (hA q o)) 2 12 (hA q o) := by
  refine g_ofWH (cc := cL_read) (maxL := 7) (ret := (some .int)) (hh := [(0, 14, 17, 13), (0, 14, 21, 15)]) (by decide +kernel) rfl ?_
  intro p e s m args below meth c s₁ B hml htab hv
  obtain ⟨rfl, ⟨hP, hO, hK⟩, hX, hNt⟩ := hv
  have hx := B.exec
  have hb := B.bytes
  have hr := B.returns
  have hlocks := B.notSynchronized
  have hts := atoms_spec (ws := wsL_read) B.pre
  have hown : s.vm.findClass RL = some m.cls := findClass_of_methodNamed B.named
  have hS : va_S (hA q o) s.heap s.heap [] := va_S.rf
  have hl := lv_entry ([.ref (q (0)), .int x1, .int x2, .int x3, .int x4, .ref o]) (n := 7) (Nat.le_of_ble_eq_true rfl)
  rw [lg_entry_eq]
  generalize (lg_sl ([.ref (q (0)), .int x1, .int x2, .int x3, .int x4, .ref o]) ++ List.replicate (7 - (lg_sl ([.ref (q (0)), .int x1, .int x2, .int x3, .int x4, .ref o])).length) Slot.unset).toArray = ls at hl ⊢
  have hl : lv_has ls 7 [(0, .ref (q (0))), (1, .int x1), (2, .int x2), (3, .int x3), (4, .int x4), (5, .ref o)] := hl
  refine lv_aload hx hb dL_read_0 (lv_at hl 5 rfl) ?_
  refine lv_iconst (v := (0 : Int32)) hx hb dL_read_2 (by decide) ?_
  refine lv_aload_n hx hb dL_read_3 rfl (lv_at hl 0 rfl) ?_
  refine lv_iload_n hx hb dL_read_4 rfl (lv_at hl 1 rfl) ?_
  refine lv_iload_n hx hb dL_read_5 rfl (lv_at hl 2 rfl) ?_
  refine lv_iload_n hx hb dL_read_6 rfl (lv_at hl 3 rfl) ?_
  refine lv_iload hx hb dL_read_7 (lv_at hl 4 rfl) ?_
  rcases z with r1 | k1
  · have hz : some (0 : Int32) = some r := hz
    cases hz
    refine h_cVi (As := [.int x1, .int x2, .int x3, .int x4]) (rest := [.int (0 : Int32), .ref o]) hx hb hml hown hts hK hX (fun a h => Or.inl h) hP hO (h_odis ho) hS (mX8_read l hlf hJ hp) (cwV 4 hts gL_read_X8_read rfl rfl rfl nVX8_read ⟨Nat.le_of_ble_eq_true rfl, Nat.le_of_ble_eq_true rfl⟩) (g_recv hK hP kk_Tri ce_Tri rfl) rfl hl.1 rfl (Nat.le_of_ble_eq_true rfl) dL_read_9 ⟨Nat.le_of_ble_eq_true rfl, Nat.le_of_ble_eq_true rfl⟩ (fun H locs hP hO hS => ?_)
    refine lv_i2l hx hb dL_read_12 rfl ?_
    refine h_last hx hb hK hJ ho hP hO hS dL_read_13 (fun H locs hP hO hS => ?_)
    refine lv_goto (tgt := 25) hx hb dL_read_14 (by decide) ?_
    refine lv_iconst (v := (0 : Int32)) hx hb dL_read_25 (by decide) ?_
    exact W.iret (v := (0 : Int32)) hx hb hr (fun t ht hW => ⟨⟨(0 : Int32), (), rfl, rfl, by subst ht; exact ⟨hP, hO⟩⟩, hS.F ht⟩) hS.2.2 dL_read_26
  · skip
    by_cases h1 : k1 = 1
    · subst h1
      have hz : some (1 : Int32) = some r := hz
      cases hz
      refine h_cVx (As := [.int x1, .int x2, .int x3, .int x4]) (rest := [.int (0 : Int32), .ref o]) hx hb hml hown hts hK hX (fun a h => Or.inl h) hP hO (h_odis ho) hS (mX8_read l hlf hJ hp) (cwV 4 hts gL_read_X8_read rfl rfl rfl nVX8_read ⟨Nat.le_of_ble_eq_true rfl, Nat.le_of_ble_eq_true rfl⟩) (g_recv hK hP kk_Tri ce_Tri rfl) rfl hl.1 rfl (Nat.le_of_ble_eq_true rfl) dL_read_9 ⟨Nat.le_of_ble_eq_true rfl, Nat.le_of_ble_eq_true rfl⟩ (fun ce q9 H locs hP hO hS g1 g2 g3 => ?_)
      refine vx_catch (own := RL) (name := xn 1) hown [] (⟨0, 14, 17, 13⟩ : ExceptionTableEntry) [(⟨0, 14, 21, 15⟩ : ExceptionTableEntry)] htab (fun z hz => nomatch hz) (by decide) (by decide) (hts _ mwL_read_13) (va_Nw.use rfl (hX.2.2.2.1 (xn 1, xn 1) (by decide +kernel))) g1 g2 g3 ?_
      refine lv_astore (lv' := [(6, .ref q9), (0, .ref (q (0))), (1, .int x1), (2, .int x2), (3, .int x3), (4, .int x4), (5, .ref o)]) hx hb dL_read_17 hl (by decide) rfl (fun ls hl => ?_)
      refine lv_iconst (v := (1 : Int32)) hx hb dL_read_19 (by decide) ?_
      exact W.iret (v := (1 : Int32)) hx hb hr (fun t ht hW => ⟨⟨(1 : Int32), (), rfl, rfl, by subst ht; exact ⟨hP, hO⟩⟩, hS.F ht⟩) hS.2.2 dL_read_20
    by_cases h2 : k1 = 2
    · subst h2
      have hz : some (2 : Int32) = some r := hz
      cases hz
      refine h_cVx (As := [.int x1, .int x2, .int x3, .int x4]) (rest := [.int (0 : Int32), .ref o]) hx hb hml hown hts hK hX (fun a h => Or.inl h) hP hO (h_odis ho) hS (mX8_read l hlf hJ hp) (cwV 4 hts gL_read_X8_read rfl rfl rfl nVX8_read ⟨Nat.le_of_ble_eq_true rfl, Nat.le_of_ble_eq_true rfl⟩) (g_recv hK hP kk_Tri ce_Tri rfl) rfl hl.1 rfl (Nat.le_of_ble_eq_true rfl) dL_read_9 ⟨Nat.le_of_ble_eq_true rfl, Nat.le_of_ble_eq_true rfl⟩ (fun ce q9 H locs hP hO hS g1 g2 g3 => ?_)
      refine vx_catch (own := RL) (name := xn 2) hown [(⟨0, 14, 17, 13⟩ : ExceptionTableEntry)] (⟨0, 14, 21, 15⟩ : ExceptionTableEntry) [] htab (fun z hz => by
        simp only [List.mem_cons, List.not_mem_nil, or_false] at hz
        rcases hz with rfl
        · exact Or.inr ⟨by decide, xn 1, hts _ mwL_read_13, hNt (xn 2, xn 1) (by decide +kernel)⟩) (by decide) (by decide) (hts _ mwL_read_15) (va_Nw.use rfl (hX.2.2.2.1 (xn 2, xn 2) (by decide +kernel))) g1 g2 g3 ?_
      refine lv_astore (lv' := [(6, .ref q9), (0, .ref (q (0))), (1, .int x1), (2, .int x2), (3, .int x3), (4, .int x4), (5, .ref o)]) hx hb dL_read_21 hl (by decide) rfl (fun ls hl => ?_)
      refine lv_iconst (v := (2 : Int32)) hx hb dL_read_23 (by decide) ?_
      exact W.iret (v := (2 : Int32)) hx hb hr (fun t ht hW => ⟨⟨(2 : Int32), (), rfl, rfl, by subst ht; exact ⟨hP, hO⟩⟩, hS.F ht⟩) hS.2.2 dL_read_24
    exfalso
    simp [lhz, lhk, h1, h2] at hz
theorem mwL_limit_13 : Cond.classLink RL 13 (xn 1) ∈ wsL_limit := by decide +kernel
theorem mwL_limit_15 : Cond.classLink RL 15 (xn 2) ∈ wsL_limit := by decide +kernel
abbrev rmL_limit : Room := { frames := 8, cells := 2, slots := 12, locals := 134 }
theorem nVL_limit : yL_limit.cls ≠ "java/lang/invoke/MethodHandle" ∧ yL_limit.cls ≠ "java/lang/invoke/VarHandle" ∧ (parseMethodDescriptor yL_limit.desc).map (fun d => d.parameters.length) = some 4 := by decide +kernel
set_option maxHeartbeats 4000000 in
set_option maxRecDepth 100000 in
theorem mL_limit {D : va_G} {cy : Nat → ClassId} {q : Nat → Nat} (l : Launch) (hlf : l.stackTraces = false) (hJ : gJ 78 q) {o : Nat} (ho : ¬ gA 78 q o) {fo : Nat → Int64} {x1 : Int32} {x2 : Int32} {σ : TS} {z : Int32 ⊕ Nat} {u : TS} {r : Int32} (hp : sX8_limit x1 x2 σ = some (z, u)) (hz : lhz [(1, 1), (2, 2)] z = some r) : Met l yL_limit wsL_limit rmL_limit (va_Pc [.ref (q (0)), .int x1, .int x2, .ref o] (hPre D vwCl (tyL cy) (gS 78 q (TX cy q) σ) (oW o cy fo) (hA q o))) (va_Qi (fun r' (_ : Unit) => r' = r) (fun _ t => va_P D vwCl (gS 78 q (TX cy q) u) t.heap ∧ va_P D vwCl (oW o cy (lo z fo)) t.heap) (hA q o)) 2 12 (hA q o) := by
  refine g_ofWH (cc := cL_limit) (maxL := 5) (ret := (some .int)) (hh := [(0, 10, 13, 13), (0, 10, 17, 15)]) (by decide +kernel) rfl ?_
  intro p e s m args below meth c s₁ B hml htab hv
  obtain ⟨rfl, ⟨hP, hO, hK⟩, hX, hNt⟩ := hv
  have hx := B.exec
  have hb := B.bytes
  have hr := B.returns
  have hlocks := B.notSynchronized
  have hts := atoms_spec (ws := wsL_limit) B.pre
  have hown : s.vm.findClass RL = some m.cls := findClass_of_methodNamed B.named
  have hS : va_S (hA q o) s.heap s.heap [] := va_S.rf
  have hl := lv_entry ([.ref (q (0)), .int x1, .int x2, .ref o]) (n := 5) (Nat.le_of_ble_eq_true rfl)
  rw [lg_entry_eq]
  generalize (lg_sl ([.ref (q (0)), .int x1, .int x2, .ref o]) ++ List.replicate (5 - (lg_sl ([.ref (q (0)), .int x1, .int x2, .ref o])).length) Slot.unset).toArray = ls at hl ⊢
  have hl : lv_has ls 5 [(0, .ref (q (0))), (1, .int x1), (2, .int x2), (3, .ref o)] := hl
  refine lv_aload_n hx hb dL_limit_0 rfl (lv_at hl 3 rfl) ?_
  refine lv_iconst (v := (0 : Int32)) hx hb dL_limit_1 (by decide) ?_
  refine lv_aload_n hx hb dL_limit_2 rfl (lv_at hl 0 rfl) ?_
  refine lv_iload_n hx hb dL_limit_3 rfl (lv_at hl 1 rfl) ?_
  refine lv_iload_n hx hb dL_limit_4 rfl (lv_at hl 2 rfl) ?_
  rcases z with r1 | k1
  · have hz : some (0 : Int32) = some r := hz
    cases hz
    refine h_cVi (As := [.int x1, .int x2]) (rest := [.int (0 : Int32), .ref o]) hx hb hml hown hts hK hX (fun a h => Or.inl h) hP hO (h_odis ho) hS (mX8_limit l hlf hJ hp) (cwV 2 hts gL_limit_X8_limit rfl rfl rfl nVX8_limit ⟨Nat.le_of_ble_eq_true rfl, Nat.le_of_ble_eq_true rfl⟩) (g_recv hK hP kk_Tri ce_Tri rfl) rfl hl.1 rfl (Nat.le_of_ble_eq_true rfl) dL_limit_5 ⟨Nat.le_of_ble_eq_true rfl, Nat.le_of_ble_eq_true rfl⟩ (fun H locs hP hO hS => ?_)
    refine lv_i2l hx hb dL_limit_8 rfl ?_
    refine h_last hx hb hK hJ ho hP hO hS dL_limit_9 (fun H locs hP hO hS => ?_)
    refine lv_goto (tgt := 21) hx hb dL_limit_10 (by decide) ?_
    refine lv_iconst (v := (0 : Int32)) hx hb dL_limit_21 (by decide) ?_
    exact W.iret (v := (0 : Int32)) hx hb hr (fun t ht hW => ⟨⟨(0 : Int32), (), rfl, rfl, by subst ht; exact ⟨hP, hO⟩⟩, hS.F ht⟩) hS.2.2 dL_limit_22
  · skip
    by_cases h1 : k1 = 1
    · subst h1
      have hz : some (1 : Int32) = some r := hz
      cases hz
      refine h_cVx (As := [.int x1, .int x2]) (rest := [.int (0 : Int32), .ref o]) hx hb hml hown hts hK hX (fun a h => Or.inl h) hP hO (h_odis ho) hS (mX8_limit l hlf hJ hp) (cwV 2 hts gL_limit_X8_limit rfl rfl rfl nVX8_limit ⟨Nat.le_of_ble_eq_true rfl, Nat.le_of_ble_eq_true rfl⟩) (g_recv hK hP kk_Tri ce_Tri rfl) rfl hl.1 rfl (Nat.le_of_ble_eq_true rfl) dL_limit_5 ⟨Nat.le_of_ble_eq_true rfl, Nat.le_of_ble_eq_true rfl⟩ (fun ce q9 H locs hP hO hS g1 g2 g3 => ?_)
      refine vx_catch (own := RL) (name := xn 1) hown [] (⟨0, 10, 13, 13⟩ : ExceptionTableEntry) [(⟨0, 10, 17, 15⟩ : ExceptionTableEntry)] htab (fun z hz => nomatch hz) (by decide) (by decide) (hts _ mwL_limit_13) (va_Nw.use rfl (hX.2.2.2.1 (xn 1, xn 1) (by decide +kernel))) g1 g2 g3 ?_
      refine lv_astore (lv' := [(4, .ref q9), (0, .ref (q (0))), (1, .int x1), (2, .int x2), (3, .ref o)]) hx hb dL_limit_13 hl (by decide) rfl (fun ls hl => ?_)
      refine lv_iconst (v := (1 : Int32)) hx hb dL_limit_15 (by decide) ?_
      exact W.iret (v := (1 : Int32)) hx hb hr (fun t ht hW => ⟨⟨(1 : Int32), (), rfl, rfl, by subst ht; exact ⟨hP, hO⟩⟩, hS.F ht⟩) hS.2.2 dL_limit_16
    by_cases h2 : k1 = 2
    · subst h2
      have hz : some (2 : Int32) = some r := hz
      cases hz
      refine h_cVx (As := [.int x1, .int x2]) (rest := [.int (0 : Int32), .ref o]) hx hb hml hown hts hK hX (fun a h => Or.inl h) hP hO (h_odis ho) hS (mX8_limit l hlf hJ hp) (cwV 2 hts gL_limit_X8_limit rfl rfl rfl nVX8_limit ⟨Nat.le_of_ble_eq_true rfl, Nat.le_of_ble_eq_true rfl⟩) (g_recv hK hP kk_Tri ce_Tri rfl) rfl hl.1 rfl (Nat.le_of_ble_eq_true rfl) dL_limit_5 ⟨Nat.le_of_ble_eq_true rfl, Nat.le_of_ble_eq_true rfl⟩ (fun ce q9 H locs hP hO hS g1 g2 g3 => ?_)
      refine vx_catch (own := RL) (name := xn 2) hown [(⟨0, 10, 13, 13⟩ : ExceptionTableEntry)] (⟨0, 10, 17, 15⟩ : ExceptionTableEntry) [] htab (fun z hz => by
        simp only [List.mem_cons, List.not_mem_nil, or_false] at hz
        rcases hz with rfl
        · exact Or.inr ⟨by decide, xn 1, hts _ mwL_limit_13, hNt (xn 2, xn 1) (by decide +kernel)⟩) (by decide) (by decide) (hts _ mwL_limit_15) (va_Nw.use rfl (hX.2.2.2.1 (xn 2, xn 2) (by decide +kernel))) g1 g2 g3 ?_
      refine lv_astore (lv' := [(4, .ref q9), (0, .ref (q (0))), (1, .int x1), (2, .int x2), (3, .ref o)]) hx hb dL_limit_17 hl (by decide) rfl (fun ls hl => ?_)
      refine lv_iconst (v := (2 : Int32)) hx hb dL_limit_19 (by decide) ?_
      exact W.iret (v := (2 : Int32)) hx hb hr (fun t ht hW => ⟨⟨(2 : Int32), (), rfl, rfl, by subst ht; exact ⟨hP, hO⟩⟩, hS.F ht⟩) hS.2.2 dL_limit_20
    exfalso
    simp [lhz, lhk, h1, h2] at hz
theorem mwL_agreed_13 : Cond.classLink RL 13 (xn 1) ∈ wsL_agreed := by decide +kernel
abbrev rmL_agreed : Room := { frames := 8, cells := 1, slots := 6, locals := 132 }
theorem nVL_agreed : yL_agreed.cls ≠ "java/lang/invoke/MethodHandle" ∧ yL_agreed.cls ≠ "java/lang/invoke/VarHandle" ∧ (parseMethodDescriptor yL_agreed.desc).map (fun d => d.parameters.length) = some 3 := by decide +kernel
set_option maxHeartbeats 4000000 in
set_option maxRecDepth 100000 in
theorem mL_agreed {D : va_G} {cy : Nat → ClassId} {q : Nat → Nat} (l : Launch) (hlf : l.stackTraces = false) (hJ : gJ 78 q) {o : Nat} (ho : ¬ gA 78 q o) {fo : Nat → Int64} {x1 : Int32} {σ : TS} {z : Int32 ⊕ Nat} {u : TS} {r : Int32} (hp : sX8_agreed x1 σ = some (z, u)) (hz : lhz [(1, 1)] z = some r) : Met l yL_agreed wsL_agreed rmL_agreed (va_Pc [.ref (q (0)), .int x1, .ref o] (hPre D vwCl (tyL cy) (gS 78 q (TX cy q) σ) (oW o cy fo) (hA q o))) (va_Qi (fun r' (_ : Unit) => r' = r) (fun _ t => va_P D vwCl (gS 78 q (TX cy q) u) t.heap ∧ va_P D vwCl (oW o cy (lo z fo)) t.heap) (hA q o)) 1 6 (hA q o) := by
  refine g_ofWH (cc := cL_agreed) (maxL := 4) (ret := (some .int)) (hh := [(0, 9, 12, 13)]) (by decide +kernel) rfl ?_
  intro p e s m args below meth c s₁ B hml htab hv
  obtain ⟨rfl, ⟨hP, hO, hK⟩, hX, hNt⟩ := hv
  have hx := B.exec
  have hb := B.bytes
  have hr := B.returns
  have hlocks := B.notSynchronized
  have hts := atoms_spec (ws := wsL_agreed) B.pre
  have hown : s.vm.findClass RL = some m.cls := findClass_of_methodNamed B.named
  have hS : va_S (hA q o) s.heap s.heap [] := va_S.rf
  have hl := lv_entry ([.ref (q (0)), .int x1, .ref o]) (n := 4) (Nat.le_of_ble_eq_true rfl)
  rw [lg_entry_eq]
  generalize (lg_sl ([.ref (q (0)), .int x1, .ref o]) ++ List.replicate (4 - (lg_sl ([.ref (q (0)), .int x1, .ref o])).length) Slot.unset).toArray = ls at hl ⊢
  have hl : lv_has ls 4 [(0, .ref (q (0))), (1, .int x1), (2, .ref o)] := hl
  refine lv_aload_n hx hb dL_agreed_0 rfl (lv_at hl 2 rfl) ?_
  refine lv_iconst (v := (0 : Int32)) hx hb dL_agreed_1 (by decide) ?_
  refine lv_aload_n hx hb dL_agreed_2 rfl (lv_at hl 0 rfl) ?_
  refine lv_iload_n hx hb dL_agreed_3 rfl (lv_at hl 1 rfl) ?_
  rcases z with r1 | k1
  · have hz : some (0 : Int32) = some r := hz
    cases hz
    refine h_cVi (As := [.int x1]) (rest := [.int (0 : Int32), .ref o]) hx hb hml hown hts hK hX (fun a h => Or.inl h) hP hO (h_odis ho) hS (mX8_agreed l hlf hJ hp) (cwV 1 hts gL_agreed_X8_agreed rfl rfl rfl nVX8_agreed ⟨Nat.le_of_ble_eq_true rfl, Nat.le_of_ble_eq_true rfl⟩) (g_recv hK hP kk_Tri ce_Tri rfl) rfl hl.1 rfl (Nat.le_of_ble_eq_true rfl) dL_agreed_4 ⟨Nat.le_of_ble_eq_true rfl, Nat.le_of_ble_eq_true rfl⟩ (fun H locs hP hO hS => ?_)
    refine lv_i2l hx hb dL_agreed_7 rfl ?_
    refine h_last hx hb hK hJ ho hP hO hS dL_agreed_8 (fun H locs hP hO hS => ?_)
    refine lv_goto (tgt := 15) hx hb dL_agreed_9 (by decide) ?_
    refine lv_iconst (v := (0 : Int32)) hx hb dL_agreed_15 (by decide) ?_
    exact W.iret (v := (0 : Int32)) hx hb hr (fun t ht hW => ⟨⟨(0 : Int32), (), rfl, rfl, by subst ht; exact ⟨hP, hO⟩⟩, hS.F ht⟩) hS.2.2 dL_agreed_16
  · skip
    by_cases h1 : k1 = 1
    · subst h1
      have hz : some (1 : Int32) = some r := hz
      cases hz
      refine h_cVx (As := [.int x1]) (rest := [.int (0 : Int32), .ref o]) hx hb hml hown hts hK hX (fun a h => Or.inl h) hP hO (h_odis ho) hS (mX8_agreed l hlf hJ hp) (cwV 1 hts gL_agreed_X8_agreed rfl rfl rfl nVX8_agreed ⟨Nat.le_of_ble_eq_true rfl, Nat.le_of_ble_eq_true rfl⟩) (g_recv hK hP kk_Tri ce_Tri rfl) rfl hl.1 rfl (Nat.le_of_ble_eq_true rfl) dL_agreed_4 ⟨Nat.le_of_ble_eq_true rfl, Nat.le_of_ble_eq_true rfl⟩ (fun ce q9 H locs hP hO hS g1 g2 g3 => ?_)
      refine vx_catch (own := RL) (name := xn 1) hown [] (⟨0, 9, 12, 13⟩ : ExceptionTableEntry) [] htab (fun z hz => nomatch hz) (by decide) (by decide) (hts _ mwL_agreed_13) (va_Nw.use rfl (hX.2.2.2.1 (xn 1, xn 1) (by decide +kernel))) g1 g2 g3 ?_
      refine lv_astore_n (lv' := [(3, .ref q9), (0, .ref (q (0))), (1, .int x1), (2, .ref o)]) hx hb dL_agreed_12 rfl hl (by decide) rfl (fun ls hl => ?_)
      refine lv_iconst (v := (1 : Int32)) hx hb dL_agreed_13 (by decide) ?_
      exact W.iret (v := (1 : Int32)) hx hb hr (fun t ht hW => ⟨⟨(1 : Int32), (), rfl, rfl, by subst ht; exact ⟨hP, hO⟩⟩, hS.F ht⟩) hS.2.2 dL_agreed_14
    exfalso
    simp [lhz, lhk, h1] at hz
theorem mwL_drift_13 : Cond.classLink RL 13 (xn 1) ∈ wsL_drift := by decide +kernel
theorem mwL_drift_15 : Cond.classLink RL 15 (xn 2) ∈ wsL_drift := by decide +kernel
abbrev rmL_drift : Room := { frames := 8, cells := 2, slots := 12, locals := 134 }
theorem nVL_drift : yL_drift.cls ≠ "java/lang/invoke/MethodHandle" ∧ yL_drift.cls ≠ "java/lang/invoke/VarHandle" ∧ (parseMethodDescriptor yL_drift.desc).map (fun d => d.parameters.length) = some 4 := by decide +kernel
set_option maxHeartbeats 4000000 in
set_option maxRecDepth 100000 in
theorem mL_drift {D : va_G} {cy : Nat → ClassId} {q : Nat → Nat} (l : Launch) (hlf : l.stackTraces = false) (hJ : gJ 78 q) {o : Nat} (ho : ¬ gA 78 q o) {fo : Nat → Int64} {x1 : Int32} {x2 : Int32} {σ : TS} {z : Int32 ⊕ Nat} {u : TS} {r : Int32} (hp : sX8_drift x1 x2 σ = some (z, u)) (hz : lhz [(1, 1), (2, 2)] z = some r) : Met l yL_drift wsL_drift rmL_drift (va_Pc [.ref (q (0)), .int x1, .int x2, .ref o] (hPre D vwCl (tyL cy) (gS 78 q (TX cy q) σ) (oW o cy fo) (hA q o))) (va_Qi (fun r' (_ : Unit) => r' = r) (fun _ t => va_P D vwCl (gS 78 q (TX cy q) u) t.heap ∧ va_P D vwCl (oW o cy (lo z fo)) t.heap) (hA q o)) 2 12 (hA q o) := by
  refine g_ofWH (cc := cL_drift) (maxL := 5) (ret := (some .int)) (hh := [(0, 10, 13, 13), (0, 10, 17, 15)]) (by decide +kernel) rfl ?_
  intro p e s m args below meth c s₁ B hml htab hv
  obtain ⟨rfl, ⟨hP, hO, hK⟩, hX, hNt⟩ := hv
  have hx := B.exec
  have hb := B.bytes
  have hr := B.returns
  have hlocks := B.notSynchronized
  have hts := atoms_spec (ws := wsL_drift) B.pre
  have hown : s.vm.findClass RL = some m.cls := findClass_of_methodNamed B.named
  have hS : va_S (hA q o) s.heap s.heap [] := va_S.rf
  have hl := lv_entry ([.ref (q (0)), .int x1, .int x2, .ref o]) (n := 5) (Nat.le_of_ble_eq_true rfl)
  rw [lg_entry_eq]
  generalize (lg_sl ([.ref (q (0)), .int x1, .int x2, .ref o]) ++ List.replicate (5 - (lg_sl ([.ref (q (0)), .int x1, .int x2, .ref o])).length) Slot.unset).toArray = ls at hl ⊢
  have hl : lv_has ls 5 [(0, .ref (q (0))), (1, .int x1), (2, .int x2), (3, .ref o)] := hl
  refine lv_aload_n hx hb dL_drift_0 rfl (lv_at hl 3 rfl) ?_
  refine lv_iconst (v := (0 : Int32)) hx hb dL_drift_1 (by decide) ?_
  refine lv_aload_n hx hb dL_drift_2 rfl (lv_at hl 0 rfl) ?_
  refine lv_iload_n hx hb dL_drift_3 rfl (lv_at hl 1 rfl) ?_
  refine lv_iload_n hx hb dL_drift_4 rfl (lv_at hl 2 rfl) ?_
  rcases z with r1 | k1
  · have hz : some (0 : Int32) = some r := hz
    cases hz
    refine h_cVi (As := [.int x1, .int x2]) (rest := [.int (0 : Int32), .ref o]) hx hb hml hown hts hK hX (fun a h => Or.inl h) hP hO (h_odis ho) hS (mX8_drift l hlf hJ hp) (cwV 2 hts gL_drift_X8_drift rfl rfl rfl nVX8_drift ⟨Nat.le_of_ble_eq_true rfl, Nat.le_of_ble_eq_true rfl⟩) (g_recv hK hP kk_Tri ce_Tri rfl) rfl hl.1 rfl (Nat.le_of_ble_eq_true rfl) dL_drift_5 ⟨Nat.le_of_ble_eq_true rfl, Nat.le_of_ble_eq_true rfl⟩ (fun H locs hP hO hS => ?_)
    refine lv_i2l hx hb dL_drift_8 rfl ?_
    refine h_last hx hb hK hJ ho hP hO hS dL_drift_9 (fun H locs hP hO hS => ?_)
    refine lv_goto (tgt := 21) hx hb dL_drift_10 (by decide) ?_
    refine lv_iconst (v := (0 : Int32)) hx hb dL_drift_21 (by decide) ?_
    exact W.iret (v := (0 : Int32)) hx hb hr (fun t ht hW => ⟨⟨(0 : Int32), (), rfl, rfl, by subst ht; exact ⟨hP, hO⟩⟩, hS.F ht⟩) hS.2.2 dL_drift_22
  · skip
    by_cases h1 : k1 = 1
    · subst h1
      have hz : some (1 : Int32) = some r := hz
      cases hz
      refine h_cVx (As := [.int x1, .int x2]) (rest := [.int (0 : Int32), .ref o]) hx hb hml hown hts hK hX (fun a h => Or.inl h) hP hO (h_odis ho) hS (mX8_drift l hlf hJ hp) (cwV 2 hts gL_drift_X8_drift rfl rfl rfl nVX8_drift ⟨Nat.le_of_ble_eq_true rfl, Nat.le_of_ble_eq_true rfl⟩) (g_recv hK hP kk_Tri ce_Tri rfl) rfl hl.1 rfl (Nat.le_of_ble_eq_true rfl) dL_drift_5 ⟨Nat.le_of_ble_eq_true rfl, Nat.le_of_ble_eq_true rfl⟩ (fun ce q9 H locs hP hO hS g1 g2 g3 => ?_)
      refine vx_catch (own := RL) (name := xn 1) hown [] (⟨0, 10, 13, 13⟩ : ExceptionTableEntry) [(⟨0, 10, 17, 15⟩ : ExceptionTableEntry)] htab (fun z hz => nomatch hz) (by decide) (by decide) (hts _ mwL_drift_13) (va_Nw.use rfl (hX.2.2.2.1 (xn 1, xn 1) (by decide +kernel))) g1 g2 g3 ?_
      refine lv_astore (lv' := [(4, .ref q9), (0, .ref (q (0))), (1, .int x1), (2, .int x2), (3, .ref o)]) hx hb dL_drift_13 hl (by decide) rfl (fun ls hl => ?_)
      refine lv_iconst (v := (1 : Int32)) hx hb dL_drift_15 (by decide) ?_
      exact W.iret (v := (1 : Int32)) hx hb hr (fun t ht hW => ⟨⟨(1 : Int32), (), rfl, rfl, by subst ht; exact ⟨hP, hO⟩⟩, hS.F ht⟩) hS.2.2 dL_drift_16
    by_cases h2 : k1 = 2
    · subst h2
      have hz : some (2 : Int32) = some r := hz
      cases hz
      refine h_cVx (As := [.int x1, .int x2]) (rest := [.int (0 : Int32), .ref o]) hx hb hml hown hts hK hX (fun a h => Or.inl h) hP hO (h_odis ho) hS (mX8_drift l hlf hJ hp) (cwV 2 hts gL_drift_X8_drift rfl rfl rfl nVX8_drift ⟨Nat.le_of_ble_eq_true rfl, Nat.le_of_ble_eq_true rfl⟩) (g_recv hK hP kk_Tri ce_Tri rfl) rfl hl.1 rfl (Nat.le_of_ble_eq_true rfl) dL_drift_5 ⟨Nat.le_of_ble_eq_true rfl, Nat.le_of_ble_eq_true rfl⟩ (fun ce q9 H locs hP hO hS g1 g2 g3 => ?_)
      refine vx_catch (own := RL) (name := xn 2) hown [(⟨0, 10, 13, 13⟩ : ExceptionTableEntry)] (⟨0, 10, 17, 15⟩ : ExceptionTableEntry) [] htab (fun z hz => by
        simp only [List.mem_cons, List.not_mem_nil, or_false] at hz
        rcases hz with rfl
        · exact Or.inr ⟨by decide, xn 1, hts _ mwL_drift_13, hNt (xn 2, xn 1) (by decide +kernel)⟩) (by decide) (by decide) (hts _ mwL_drift_15) (va_Nw.use rfl (hX.2.2.2.1 (xn 2, xn 2) (by decide +kernel))) g1 g2 g3 ?_
      refine lv_astore (lv' := [(4, .ref q9), (0, .ref (q (0))), (1, .int x1), (2, .int x2), (3, .ref o)]) hx hb dL_drift_17 hl (by decide) rfl (fun ls hl => ?_)
      refine lv_iconst (v := (2 : Int32)) hx hb dL_drift_19 (by decide) ?_
      exact W.iret (v := (2 : Int32)) hx hb hr (fun t ht hW => ⟨⟨(2 : Int32), (), rfl, rfl, by subst ht; exact ⟨hP, hO⟩⟩, hS.F ht⟩) hS.2.2 dL_drift_20
    exfalso
    simp [lhz, lhk, h1, h2] at hz
theorem mwL_lie_13 : Cond.classLink RL 13 (xn 1) ∈ wsL_lie := by decide +kernel
theorem mwL_lie_15 : Cond.classLink RL 15 (xn 2) ∈ wsL_lie := by decide +kernel
abbrev rmL_lie : Room := { frames := 8, cells := 3, slots := 18, locals := 135 }
theorem nVL_lie : yL_lie.cls ≠ "java/lang/invoke/MethodHandle" ∧ yL_lie.cls ≠ "java/lang/invoke/VarHandle" ∧ (parseMethodDescriptor yL_lie.desc).map (fun d => d.parameters.length) = some 5 := by decide +kernel
set_option maxHeartbeats 4000000 in
set_option maxRecDepth 100000 in
theorem mL_lie {D : va_G} {cy : Nat → ClassId} {q : Nat → Nat} (l : Launch) (hlf : l.stackTraces = false) (hJ : gJ 78 q) {o : Nat} (ho : ¬ gA 78 q o) {fo : Nat → Int64} {x1 : Int32} {x2 : Int32} {x3 : Int32} {σ : TS} {z : Int32 ⊕ Nat} {u : TS} {r : Int32} (hp : sX8_lie x1 x2 x3 σ = some (z, u)) (hz : lhz [(1, 1), (2, 2)] z = some r) : Met l yL_lie wsL_lie rmL_lie (va_Pc [.ref (q (0)), .int x1, .int x2, .int x3, .ref o] (hPre D vwCl (tyL cy) (gS 78 q (TX cy q) σ) (oW o cy fo) (hA q o))) (va_Qi (fun r' (_ : Unit) => r' = r) (fun _ t => va_P D vwCl (gS 78 q (TX cy q) u) t.heap ∧ va_P D vwCl (oW o cy (lo z fo)) t.heap) (hA q o)) 3 18 (hA q o) := by
  refine g_ofWH (cc := cL_lie) (maxL := 6) (ret := (some .int)) (hh := [(0, 12, 15, 13), (0, 12, 19, 15)]) (by decide +kernel) rfl ?_
  intro p e s m args below meth c s₁ B hml htab hv
  obtain ⟨rfl, ⟨hP, hO, hK⟩, hX, hNt⟩ := hv
  have hx := B.exec
  have hb := B.bytes
  have hr := B.returns
  have hlocks := B.notSynchronized
  have hts := atoms_spec (ws := wsL_lie) B.pre
  have hown : s.vm.findClass RL = some m.cls := findClass_of_methodNamed B.named
  have hS : va_S (hA q o) s.heap s.heap [] := va_S.rf
  have hl := lv_entry ([.ref (q (0)), .int x1, .int x2, .int x3, .ref o]) (n := 6) (Nat.le_of_ble_eq_true rfl)
  rw [lg_entry_eq]
  generalize (lg_sl ([.ref (q (0)), .int x1, .int x2, .int x3, .ref o]) ++ List.replicate (6 - (lg_sl ([.ref (q (0)), .int x1, .int x2, .int x3, .ref o])).length) Slot.unset).toArray = ls at hl ⊢
  have hl : lv_has ls 6 [(0, .ref (q (0))), (1, .int x1), (2, .int x2), (3, .int x3), (4, .ref o)] := hl
  refine lv_aload hx hb dL_lie_0 (lv_at hl 4 rfl) ?_
  refine lv_iconst (v := (0 : Int32)) hx hb dL_lie_2 (by decide) ?_
  refine lv_aload_n hx hb dL_lie_3 rfl (lv_at hl 0 rfl) ?_
  refine lv_iload_n hx hb dL_lie_4 rfl (lv_at hl 1 rfl) ?_
  refine lv_iload_n hx hb dL_lie_5 rfl (lv_at hl 2 rfl) ?_
  refine lv_iload_n hx hb dL_lie_6 rfl (lv_at hl 3 rfl) ?_
  rcases z with r1 | k1
  · have hz : some (0 : Int32) = some r := hz
    cases hz
    refine h_cVi (As := [.int x1, .int x2, .int x3]) (rest := [.int (0 : Int32), .ref o]) hx hb hml hown hts hK hX (fun a h => Or.inl h) hP hO (h_odis ho) hS (mX8_lie l hlf hJ hp) (cwV 3 hts gL_lie_X8_lie rfl rfl rfl nVX8_lie ⟨Nat.le_of_ble_eq_true rfl, Nat.le_of_ble_eq_true rfl⟩) (g_recv hK hP kk_Tri ce_Tri rfl) rfl hl.1 rfl (Nat.le_of_ble_eq_true rfl) dL_lie_7 ⟨Nat.le_of_ble_eq_true rfl, Nat.le_of_ble_eq_true rfl⟩ (fun H locs hP hO hS => ?_)
    refine lv_i2l hx hb dL_lie_10 rfl ?_
    refine h_last hx hb hK hJ ho hP hO hS dL_lie_11 (fun H locs hP hO hS => ?_)
    refine lv_goto (tgt := 23) hx hb dL_lie_12 (by decide) ?_
    refine lv_iconst (v := (0 : Int32)) hx hb dL_lie_23 (by decide) ?_
    exact W.iret (v := (0 : Int32)) hx hb hr (fun t ht hW => ⟨⟨(0 : Int32), (), rfl, rfl, by subst ht; exact ⟨hP, hO⟩⟩, hS.F ht⟩) hS.2.2 dL_lie_24
  · skip
    by_cases h1 : k1 = 1
    · subst h1
      have hz : some (1 : Int32) = some r := hz
      cases hz
      refine h_cVx (As := [.int x1, .int x2, .int x3]) (rest := [.int (0 : Int32), .ref o]) hx hb hml hown hts hK hX (fun a h => Or.inl h) hP hO (h_odis ho) hS (mX8_lie l hlf hJ hp) (cwV 3 hts gL_lie_X8_lie rfl rfl rfl nVX8_lie ⟨Nat.le_of_ble_eq_true rfl, Nat.le_of_ble_eq_true rfl⟩) (g_recv hK hP kk_Tri ce_Tri rfl) rfl hl.1 rfl (Nat.le_of_ble_eq_true rfl) dL_lie_7 ⟨Nat.le_of_ble_eq_true rfl, Nat.le_of_ble_eq_true rfl⟩ (fun ce q9 H locs hP hO hS g1 g2 g3 => ?_)
      refine vx_catch (own := RL) (name := xn 1) hown [] (⟨0, 12, 15, 13⟩ : ExceptionTableEntry) [(⟨0, 12, 19, 15⟩ : ExceptionTableEntry)] htab (fun z hz => nomatch hz) (by decide) (by decide) (hts _ mwL_lie_13) (va_Nw.use rfl (hX.2.2.2.1 (xn 1, xn 1) (by decide +kernel))) g1 g2 g3 ?_
      refine lv_astore (lv' := [(5, .ref q9), (0, .ref (q (0))), (1, .int x1), (2, .int x2), (3, .int x3), (4, .ref o)]) hx hb dL_lie_15 hl (by decide) rfl (fun ls hl => ?_)
      refine lv_iconst (v := (1 : Int32)) hx hb dL_lie_17 (by decide) ?_
      exact W.iret (v := (1 : Int32)) hx hb hr (fun t ht hW => ⟨⟨(1 : Int32), (), rfl, rfl, by subst ht; exact ⟨hP, hO⟩⟩, hS.F ht⟩) hS.2.2 dL_lie_18
    by_cases h2 : k1 = 2
    · subst h2
      have hz : some (2 : Int32) = some r := hz
      cases hz
      refine h_cVx (As := [.int x1, .int x2, .int x3]) (rest := [.int (0 : Int32), .ref o]) hx hb hml hown hts hK hX (fun a h => Or.inl h) hP hO (h_odis ho) hS (mX8_lie l hlf hJ hp) (cwV 3 hts gL_lie_X8_lie rfl rfl rfl nVX8_lie ⟨Nat.le_of_ble_eq_true rfl, Nat.le_of_ble_eq_true rfl⟩) (g_recv hK hP kk_Tri ce_Tri rfl) rfl hl.1 rfl (Nat.le_of_ble_eq_true rfl) dL_lie_7 ⟨Nat.le_of_ble_eq_true rfl, Nat.le_of_ble_eq_true rfl⟩ (fun ce q9 H locs hP hO hS g1 g2 g3 => ?_)
      refine vx_catch (own := RL) (name := xn 2) hown [(⟨0, 12, 15, 13⟩ : ExceptionTableEntry)] (⟨0, 12, 19, 15⟩ : ExceptionTableEntry) [] htab (fun z hz => by
        simp only [List.mem_cons, List.not_mem_nil, or_false] at hz
        rcases hz with rfl
        · exact Or.inr ⟨by decide, xn 1, hts _ mwL_lie_13, hNt (xn 2, xn 1) (by decide +kernel)⟩) (by decide) (by decide) (hts _ mwL_lie_15) (va_Nw.use rfl (hX.2.2.2.1 (xn 2, xn 2) (by decide +kernel))) g1 g2 g3 ?_
      refine lv_astore (lv' := [(5, .ref q9), (0, .ref (q (0))), (1, .int x1), (2, .int x2), (3, .int x3), (4, .ref o)]) hx hb dL_lie_19 hl (by decide) rfl (fun ls hl => ?_)
      refine lv_iconst (v := (2 : Int32)) hx hb dL_lie_21 (by decide) ?_
      exact W.iret (v := (2 : Int32)) hx hb hr (fun t ht hW => ⟨⟨(2 : Int32), (), rfl, rfl, by subst ht; exact ⟨hP, hO⟩⟩, hS.F ht⟩) hS.2.2 dL_lie_22
    exfalso
    simp [lhz, lhk, h1, h2] at hz
theorem mwL_clock_13 : Cond.classLink RL 13 (xn 1) ∈ wsL_clock := by decide +kernel
abbrev rmL_clock : Room := { frames := 8, cells := 1, slots := 6, locals := 132 }
theorem nVL_clock : yL_clock.cls ≠ "java/lang/invoke/MethodHandle" ∧ yL_clock.cls ≠ "java/lang/invoke/VarHandle" ∧ (parseMethodDescriptor yL_clock.desc).map (fun d => d.parameters.length) = some 3 := by decide +kernel
set_option maxHeartbeats 4000000 in
set_option maxRecDepth 100000 in
theorem mL_clock {D : va_G} {cy : Nat → ClassId} {q : Nat → Nat} (l : Launch) (hlf : l.stackTraces = false) (hJ : gJ 78 q) {o : Nat} (ho : ¬ gA 78 q o) {fo : Nat → Int64} {x1 : Int32} {σ : TS} {z : Int32 ⊕ Nat} {u : TS} {r : Int32} (hp : sX8_clock x1 σ = some (z, u)) (hz : lhz [(1, 1)] z = some r) : Met l yL_clock wsL_clock rmL_clock (va_Pc [.ref (q (0)), .int x1, .ref o] (hPre D vwCl (tyL cy) (gS 78 q (TX cy q) σ) (oW o cy fo) (hA q o))) (va_Qi (fun r' (_ : Unit) => r' = r) (fun _ t => va_P D vwCl (gS 78 q (TX cy q) u) t.heap ∧ va_P D vwCl (oW o cy (lo z fo)) t.heap) (hA q o)) 1 6 (hA q o) := by
  refine g_ofWH (cc := cL_clock) (maxL := 4) (ret := (some .int)) (hh := [(0, 9, 12, 13)]) (by decide +kernel) rfl ?_
  intro p e s m args below meth c s₁ B hml htab hv
  obtain ⟨rfl, ⟨hP, hO, hK⟩, hX, hNt⟩ := hv
  have hx := B.exec
  have hb := B.bytes
  have hr := B.returns
  have hlocks := B.notSynchronized
  have hts := atoms_spec (ws := wsL_clock) B.pre
  have hown : s.vm.findClass RL = some m.cls := findClass_of_methodNamed B.named
  have hS : va_S (hA q o) s.heap s.heap [] := va_S.rf
  have hl := lv_entry ([.ref (q (0)), .int x1, .ref o]) (n := 4) (Nat.le_of_ble_eq_true rfl)
  rw [lg_entry_eq]
  generalize (lg_sl ([.ref (q (0)), .int x1, .ref o]) ++ List.replicate (4 - (lg_sl ([.ref (q (0)), .int x1, .ref o])).length) Slot.unset).toArray = ls at hl ⊢
  have hl : lv_has ls 4 [(0, .ref (q (0))), (1, .int x1), (2, .ref o)] := hl
  refine lv_aload_n hx hb dL_clock_0 rfl (lv_at hl 2 rfl) ?_
  refine lv_iconst (v := (0 : Int32)) hx hb dL_clock_1 (by decide) ?_
  refine lv_aload_n hx hb dL_clock_2 rfl (lv_at hl 0 rfl) ?_
  refine lv_iload_n hx hb dL_clock_3 rfl (lv_at hl 1 rfl) ?_
  rcases z with r1 | k1
  · have hz : some (0 : Int32) = some r := hz
    cases hz
    refine h_cVi (As := [.int x1]) (rest := [.int (0 : Int32), .ref o]) hx hb hml hown hts hK hX (fun a h => Or.inl h) hP hO (h_odis ho) hS (mX8_clock l hlf hJ hp) (cwV 1 hts gL_clock_X8_clock rfl rfl rfl nVX8_clock ⟨Nat.le_of_ble_eq_true rfl, Nat.le_of_ble_eq_true rfl⟩) (g_recv hK hP kk_Tri ce_Tri rfl) rfl hl.1 rfl (Nat.le_of_ble_eq_true rfl) dL_clock_4 ⟨Nat.le_of_ble_eq_true rfl, Nat.le_of_ble_eq_true rfl⟩ (fun H locs hP hO hS => ?_)
    refine lv_i2l hx hb dL_clock_7 rfl ?_
    refine h_last hx hb hK hJ ho hP hO hS dL_clock_8 (fun H locs hP hO hS => ?_)
    refine lv_goto (tgt := 15) hx hb dL_clock_9 (by decide) ?_
    refine lv_iconst (v := (0 : Int32)) hx hb dL_clock_15 (by decide) ?_
    exact W.iret (v := (0 : Int32)) hx hb hr (fun t ht hW => ⟨⟨(0 : Int32), (), rfl, rfl, by subst ht; exact ⟨hP, hO⟩⟩, hS.F ht⟩) hS.2.2 dL_clock_16
  · skip
    by_cases h1 : k1 = 1
    · subst h1
      have hz : some (1 : Int32) = some r := hz
      cases hz
      refine h_cVx (As := [.int x1]) (rest := [.int (0 : Int32), .ref o]) hx hb hml hown hts hK hX (fun a h => Or.inl h) hP hO (h_odis ho) hS (mX8_clock l hlf hJ hp) (cwV 1 hts gL_clock_X8_clock rfl rfl rfl nVX8_clock ⟨Nat.le_of_ble_eq_true rfl, Nat.le_of_ble_eq_true rfl⟩) (g_recv hK hP kk_Tri ce_Tri rfl) rfl hl.1 rfl (Nat.le_of_ble_eq_true rfl) dL_clock_4 ⟨Nat.le_of_ble_eq_true rfl, Nat.le_of_ble_eq_true rfl⟩ (fun ce q9 H locs hP hO hS g1 g2 g3 => ?_)
      refine vx_catch (own := RL) (name := xn 1) hown [] (⟨0, 9, 12, 13⟩ : ExceptionTableEntry) [] htab (fun z hz => nomatch hz) (by decide) (by decide) (hts _ mwL_clock_13) (va_Nw.use rfl (hX.2.2.2.1 (xn 1, xn 1) (by decide +kernel))) g1 g2 g3 ?_
      refine lv_astore_n (lv' := [(3, .ref q9), (0, .ref (q (0))), (1, .int x1), (2, .ref o)]) hx hb dL_clock_12 rfl hl (by decide) rfl (fun ls hl => ?_)
      refine lv_iconst (v := (1 : Int32)) hx hb dL_clock_13 (by decide) ?_
      exact W.iret (v := (1 : Int32)) hx hb hr (fun t ht hW => ⟨⟨(1 : Int32), (), rfl, rfl, by subst ht; exact ⟨hP, hO⟩⟩, hS.F ht⟩) hS.2.2 dL_clock_14
    exfalso
    simp [lhz, lhk, h1] at hz
theorem mwL_save_13 : Cond.classLink RL 13 (xn 1) ∈ wsL_save := by decide +kernel
theorem mwL_save_57 : Cond.classLink RL 57 (xn 4) ∈ wsL_save := by decide +kernel
abbrev rmL_save : Room := { frames := 8, cells := 2, slots := 12, locals := 134 }
theorem nVL_save : yL_save.cls ≠ "java/lang/invoke/MethodHandle" ∧ yL_save.cls ≠ "java/lang/invoke/VarHandle" ∧ (parseMethodDescriptor yL_save.desc).map (fun d => d.parameters.length) = some 4 := by decide +kernel
set_option maxHeartbeats 4000000 in
set_option maxRecDepth 100000 in
theorem mL_save {D : va_G} {cy : Nat → ClassId} {q : Nat → Nat} (l : Launch) (hlf : l.stackTraces = false) (hJ : gJ 78 q) {o : Nat} (ho : ¬ gA 78 q o) {fo : Nat → Int64} {x1 : Int32} {x2 : Int32} {σ : TS} {z : Int32 ⊕ Nat} {u : TS} {r : Int32} (hp : sX8_save x1 x2 σ = some (z, u)) (hz : lhz [(1, 1), (4, 2)] z = some r) : Met l yL_save wsL_save rmL_save (va_Pc [.ref (q (0)), .int x1, .int x2, .ref o] (hPre D vwCl (tyL cy) (gS 78 q (TX cy q) σ) (oW o cy fo) (hA q o))) (va_Qi (fun r' (_ : Unit) => r' = r) (fun _ t => va_P D vwCl (gS 78 q (TX cy q) u) t.heap ∧ va_P D vwCl (oW o cy (lo z fo)) t.heap) (hA q o)) 2 12 (hA q o) := by
  refine g_ofWH (cc := cL_save) (maxL := 5) (ret := (some .int)) (hh := [(0, 10, 13, 13), (0, 10, 17, 57)]) (by decide +kernel) rfl ?_
  intro p e s m args below meth c s₁ B hml htab hv
  obtain ⟨rfl, ⟨hP, hO, hK⟩, hX, hNt⟩ := hv
  have hx := B.exec
  have hb := B.bytes
  have hr := B.returns
  have hlocks := B.notSynchronized
  have hts := atoms_spec (ws := wsL_save) B.pre
  have hown : s.vm.findClass RL = some m.cls := findClass_of_methodNamed B.named
  have hS : va_S (hA q o) s.heap s.heap [] := va_S.rf
  have hl := lv_entry ([.ref (q (0)), .int x1, .int x2, .ref o]) (n := 5) (Nat.le_of_ble_eq_true rfl)
  rw [lg_entry_eq]
  generalize (lg_sl ([.ref (q (0)), .int x1, .int x2, .ref o]) ++ List.replicate (5 - (lg_sl ([.ref (q (0)), .int x1, .int x2, .ref o])).length) Slot.unset).toArray = ls at hl ⊢
  have hl : lv_has ls 5 [(0, .ref (q (0))), (1, .int x1), (2, .int x2), (3, .ref o)] := hl
  refine lv_aload_n hx hb dL_save_0 rfl (lv_at hl 3 rfl) ?_
  refine lv_iconst (v := (0 : Int32)) hx hb dL_save_1 (by decide) ?_
  refine lv_aload_n hx hb dL_save_2 rfl (lv_at hl 0 rfl) ?_
  refine lv_iload_n hx hb dL_save_3 rfl (lv_at hl 1 rfl) ?_
  refine lv_iload_n hx hb dL_save_4 rfl (lv_at hl 2 rfl) ?_
  rcases z with r1 | k1
  · have hz : some (0 : Int32) = some r := hz
    cases hz
    refine h_cVi (As := [.int x1, .int x2]) (rest := [.int (0 : Int32), .ref o]) hx hb hml hown hts hK hX (fun a h => Or.inl h) hP hO (h_odis ho) hS (mX8_save l hlf hJ hp) (cwV 2 hts gL_save_X8_save rfl rfl rfl nVX8_save ⟨Nat.le_of_ble_eq_true rfl, Nat.le_of_ble_eq_true rfl⟩) (g_recv hK hP kk_Tri ce_Tri rfl) rfl hl.1 rfl (Nat.le_of_ble_eq_true rfl) dL_save_5 ⟨Nat.le_of_ble_eq_true rfl, Nat.le_of_ble_eq_true rfl⟩ (fun H locs hP hO hS => ?_)
    refine lv_i2l hx hb dL_save_8 rfl ?_
    refine h_last hx hb hK hJ ho hP hO hS dL_save_9 (fun H locs hP hO hS => ?_)
    refine lv_goto (tgt := 21) hx hb dL_save_10 (by decide) ?_
    refine lv_iconst (v := (0 : Int32)) hx hb dL_save_21 (by decide) ?_
    exact W.iret (v := (0 : Int32)) hx hb hr (fun t ht hW => ⟨⟨(0 : Int32), (), rfl, rfl, by subst ht; exact ⟨hP, hO⟩⟩, hS.F ht⟩) hS.2.2 dL_save_22
  · skip
    by_cases h1 : k1 = 1
    · subst h1
      have hz : some (1 : Int32) = some r := hz
      cases hz
      refine h_cVx (As := [.int x1, .int x2]) (rest := [.int (0 : Int32), .ref o]) hx hb hml hown hts hK hX (fun a h => Or.inl h) hP hO (h_odis ho) hS (mX8_save l hlf hJ hp) (cwV 2 hts gL_save_X8_save rfl rfl rfl nVX8_save ⟨Nat.le_of_ble_eq_true rfl, Nat.le_of_ble_eq_true rfl⟩) (g_recv hK hP kk_Tri ce_Tri rfl) rfl hl.1 rfl (Nat.le_of_ble_eq_true rfl) dL_save_5 ⟨Nat.le_of_ble_eq_true rfl, Nat.le_of_ble_eq_true rfl⟩ (fun ce q9 H locs hP hO hS g1 g2 g3 => ?_)
      refine vx_catch (own := RL) (name := xn 1) hown [] (⟨0, 10, 13, 13⟩ : ExceptionTableEntry) [(⟨0, 10, 17, 57⟩ : ExceptionTableEntry)] htab (fun z hz => nomatch hz) (by decide) (by decide) (hts _ mwL_save_13) (va_Nw.use rfl (hX.2.2.2.1 (xn 1, xn 1) (by decide +kernel))) g1 g2 g3 ?_
      refine lv_astore (lv' := [(4, .ref q9), (0, .ref (q (0))), (1, .int x1), (2, .int x2), (3, .ref o)]) hx hb dL_save_13 hl (by decide) rfl (fun ls hl => ?_)
      refine lv_iconst (v := (1 : Int32)) hx hb dL_save_15 (by decide) ?_
      exact W.iret (v := (1 : Int32)) hx hb hr (fun t ht hW => ⟨⟨(1 : Int32), (), rfl, rfl, by subst ht; exact ⟨hP, hO⟩⟩, hS.F ht⟩) hS.2.2 dL_save_16
    by_cases h4 : k1 = 4
    · subst h4
      have hz : some (2 : Int32) = some r := hz
      cases hz
      refine h_cVx (As := [.int x1, .int x2]) (rest := [.int (0 : Int32), .ref o]) hx hb hml hown hts hK hX (fun a h => Or.inl h) hP hO (h_odis ho) hS (mX8_save l hlf hJ hp) (cwV 2 hts gL_save_X8_save rfl rfl rfl nVX8_save ⟨Nat.le_of_ble_eq_true rfl, Nat.le_of_ble_eq_true rfl⟩) (g_recv hK hP kk_Tri ce_Tri rfl) rfl hl.1 rfl (Nat.le_of_ble_eq_true rfl) dL_save_5 ⟨Nat.le_of_ble_eq_true rfl, Nat.le_of_ble_eq_true rfl⟩ (fun ce q9 H locs hP hO hS g1 g2 g3 => ?_)
      refine vx_catch (own := RL) (name := xn 4) hown [(⟨0, 10, 13, 13⟩ : ExceptionTableEntry)] (⟨0, 10, 17, 57⟩ : ExceptionTableEntry) [] htab (fun z hz => by
        simp only [List.mem_cons, List.not_mem_nil, or_false] at hz
        rcases hz with rfl
        · exact Or.inr ⟨by decide, xn 1, hts _ mwL_save_13, hNt (xn 4, xn 1) (by decide +kernel)⟩) (by decide) (by decide) (hts _ mwL_save_57) (va_Nw.use rfl (hX.2.2.2.1 (xn 4, xn 4) (by decide +kernel))) g1 g2 g3 ?_
      refine lv_astore (lv' := [(4, .ref q9), (0, .ref (q (0))), (1, .int x1), (2, .int x2), (3, .ref o)]) hx hb dL_save_17 hl (by decide) rfl (fun ls hl => ?_)
      refine lv_iconst (v := (2 : Int32)) hx hb dL_save_19 (by decide) ?_
      exact W.iret (v := (2 : Int32)) hx hb hr (fun t ht hW => ⟨⟨(2 : Int32), (), rfl, rfl, by subst ht; exact ⟨hP, hO⟩⟩, hS.F ht⟩) hS.2.2 dL_save_20
    exfalso
    simp [lhz, lhk, h1, h4] at hz
theorem mwL_load_13 : Cond.classLink RL 13 (xn 1) ∈ wsL_load := by decide +kernel
theorem mwL_load_97 : Cond.classLink RL 97 (xn 5) ∈ wsL_load := by decide +kernel
abbrev rmL_load : Room := { frames := 8, cells := 2, slots := 12, locals := 134 }
theorem nVL_load : yL_load.cls ≠ "java/lang/invoke/MethodHandle" ∧ yL_load.cls ≠ "java/lang/invoke/VarHandle" ∧ (parseMethodDescriptor yL_load.desc).map (fun d => d.parameters.length) = some 3 := by decide +kernel
set_option maxHeartbeats 4000000 in
set_option maxRecDepth 100000 in
theorem mL_load {D : va_G} {cy : Nat → ClassId} {q : Nat → Nat} (l : Launch) (hlf : l.stackTraces = false) (hJ : gJ 78 q) {o : Nat} (ho : ¬ gA 78 q o) {fo : Nat → Int64} {x1 : Int32} {σ : TS} {z : Int32 ⊕ Nat} {u : TS} {r : Int32} (hp : sX8_load x1 σ = some (z, u)) (hz : lhz [(1, 1), (5, 2)] z = some r) : Met l yL_load wsL_load rmL_load (va_Pc [.ref (q (0)), .int x1, .ref o] (hPre D vwCl (tyL cy) (gS 78 q (TX cy q) σ) (oW o cy fo) (hA q o))) (va_Qi (fun r' (_ : Unit) => r' = r) (fun _ t => va_P D vwCl (gS 78 q (TX cy q) u) t.heap ∧ va_P D vwCl (oW o cy (lo z fo)) t.heap) (hA q o)) 2 12 (hA q o) := by
  refine g_ofWH (cc := cL_load) (maxL := 4) (ret := (some .int)) (hh := [(0, 9, 12, 13), (0, 9, 15, 97)]) (by decide +kernel) rfl ?_
  intro p e s m args below meth c s₁ B hml htab hv
  obtain ⟨rfl, ⟨hP, hO, hK⟩, hX, hNt⟩ := hv
  have hx := B.exec
  have hb := B.bytes
  have hr := B.returns
  have hlocks := B.notSynchronized
  have hts := atoms_spec (ws := wsL_load) B.pre
  have hown : s.vm.findClass RL = some m.cls := findClass_of_methodNamed B.named
  have hS : va_S (hA q o) s.heap s.heap [] := va_S.rf
  have hl := lv_entry ([.ref (q (0)), .int x1, .ref o]) (n := 4) (Nat.le_of_ble_eq_true rfl)
  rw [lg_entry_eq]
  generalize (lg_sl ([.ref (q (0)), .int x1, .ref o]) ++ List.replicate (4 - (lg_sl ([.ref (q (0)), .int x1, .ref o])).length) Slot.unset).toArray = ls at hl ⊢
  have hl : lv_has ls 4 [(0, .ref (q (0))), (1, .int x1), (2, .ref o)] := hl
  refine lv_aload_n hx hb dL_load_0 rfl (lv_at hl 2 rfl) ?_
  refine lv_iconst (v := (0 : Int32)) hx hb dL_load_1 (by decide) ?_
  refine lv_aload_n hx hb dL_load_2 rfl (lv_at hl 0 rfl) ?_
  refine lv_iload_n hx hb dL_load_3 rfl (lv_at hl 1 rfl) ?_
  rcases z with r1 | k1
  · have hz : some (0 : Int32) = some r := hz
    cases hz
    refine h_cVi (As := [.int x1]) (rest := [.int (0 : Int32), .ref o]) hx hb hml hown hts hK hX (fun a h => Or.inl h) hP hO (h_odis ho) hS (mX8_load l hlf hJ hp) (cwV 1 hts gL_load_X8_load rfl rfl rfl nVX8_load ⟨Nat.le_of_ble_eq_true rfl, Nat.le_of_ble_eq_true rfl⟩) (g_recv hK hP kk_Tri ce_Tri rfl) rfl hl.1 rfl (Nat.le_of_ble_eq_true rfl) dL_load_4 ⟨Nat.le_of_ble_eq_true rfl, Nat.le_of_ble_eq_true rfl⟩ (fun H locs hP hO hS => ?_)
    refine lv_i2l hx hb dL_load_7 rfl ?_
    refine h_last hx hb hK hJ ho hP hO hS dL_load_8 (fun H locs hP hO hS => ?_)
    refine lv_goto (tgt := 18) hx hb dL_load_9 (by decide) ?_
    refine lv_iconst (v := (0 : Int32)) hx hb dL_load_18 (by decide) ?_
    exact W.iret (v := (0 : Int32)) hx hb hr (fun t ht hW => ⟨⟨(0 : Int32), (), rfl, rfl, by subst ht; exact ⟨hP, hO⟩⟩, hS.F ht⟩) hS.2.2 dL_load_19
  · skip
    by_cases h1 : k1 = 1
    · subst h1
      have hz : some (1 : Int32) = some r := hz
      cases hz
      refine h_cVx (As := [.int x1]) (rest := [.int (0 : Int32), .ref o]) hx hb hml hown hts hK hX (fun a h => Or.inl h) hP hO (h_odis ho) hS (mX8_load l hlf hJ hp) (cwV 1 hts gL_load_X8_load rfl rfl rfl nVX8_load ⟨Nat.le_of_ble_eq_true rfl, Nat.le_of_ble_eq_true rfl⟩) (g_recv hK hP kk_Tri ce_Tri rfl) rfl hl.1 rfl (Nat.le_of_ble_eq_true rfl) dL_load_4 ⟨Nat.le_of_ble_eq_true rfl, Nat.le_of_ble_eq_true rfl⟩ (fun ce q9 H locs hP hO hS g1 g2 g3 => ?_)
      refine vx_catch (own := RL) (name := xn 1) hown [] (⟨0, 9, 12, 13⟩ : ExceptionTableEntry) [(⟨0, 9, 15, 97⟩ : ExceptionTableEntry)] htab (fun z hz => nomatch hz) (by decide) (by decide) (hts _ mwL_load_13) (va_Nw.use rfl (hX.2.2.2.1 (xn 1, xn 1) (by decide +kernel))) g1 g2 g3 ?_
      refine lv_astore_n (lv' := [(3, .ref q9), (0, .ref (q (0))), (1, .int x1), (2, .ref o)]) hx hb dL_load_12 rfl hl (by decide) rfl (fun ls hl => ?_)
      refine lv_iconst (v := (1 : Int32)) hx hb dL_load_13 (by decide) ?_
      exact W.iret (v := (1 : Int32)) hx hb hr (fun t ht hW => ⟨⟨(1 : Int32), (), rfl, rfl, by subst ht; exact ⟨hP, hO⟩⟩, hS.F ht⟩) hS.2.2 dL_load_14
    by_cases h5 : k1 = 5
    · subst h5
      have hz : some (2 : Int32) = some r := hz
      cases hz
      refine h_cVx (As := [.int x1]) (rest := [.int (0 : Int32), .ref o]) hx hb hml hown hts hK hX (fun a h => Or.inl h) hP hO (h_odis ho) hS (mX8_load l hlf hJ hp) (cwV 1 hts gL_load_X8_load rfl rfl rfl nVX8_load ⟨Nat.le_of_ble_eq_true rfl, Nat.le_of_ble_eq_true rfl⟩) (g_recv hK hP kk_Tri ce_Tri rfl) rfl hl.1 rfl (Nat.le_of_ble_eq_true rfl) dL_load_4 ⟨Nat.le_of_ble_eq_true rfl, Nat.le_of_ble_eq_true rfl⟩ (fun ce q9 H locs hP hO hS g1 g2 g3 => ?_)
      refine vx_catch (own := RL) (name := xn 5) hown [(⟨0, 9, 12, 13⟩ : ExceptionTableEntry)] (⟨0, 9, 15, 97⟩ : ExceptionTableEntry) [] htab (fun z hz => by
        simp only [List.mem_cons, List.not_mem_nil, or_false] at hz
        rcases hz with rfl
        · exact Or.inr ⟨by decide, xn 1, hts _ mwL_load_13, hNt (xn 5, xn 1) (by decide +kernel)⟩) (by decide) (by decide) (hts _ mwL_load_97) (va_Nw.use rfl (hX.2.2.2.1 (xn 5, xn 5) (by decide +kernel))) g1 g2 g3 ?_
      refine lv_astore_n (lv' := [(3, .ref q9), (0, .ref (q (0))), (1, .int x1), (2, .ref o)]) hx hb dL_load_15 rfl hl (by decide) rfl (fun ls hl => ?_)
      refine lv_iconst (v := (2 : Int32)) hx hb dL_load_16 (by decide) ?_
      exact W.iret (v := (2 : Int32)) hx hb hr (fun t ht hW => ⟨⟨(2 : Int32), (), rfl, rfl, by subst ht; exact ⟨hP, hO⟩⟩, hS.F ht⟩) hS.2.2 dL_load_17
    exfalso
    simp [lhz, lhk, h1, h5] at hz
theorem mwL_fault_13 : Cond.classLink RL 13 (xn 1) ∈ wsL_fault := by decide +kernel
theorem mwL_fault_15 : Cond.classLink RL 15 (xn 2) ∈ wsL_fault := by decide +kernel
abbrev rmL_fault : Room := { frames := 8, cells := 3, slots := 18, locals := 135 }
theorem nVL_fault : yL_fault.cls ≠ "java/lang/invoke/MethodHandle" ∧ yL_fault.cls ≠ "java/lang/invoke/VarHandle" ∧ (parseMethodDescriptor yL_fault.desc).map (fun d => d.parameters.length) = some 5 := by decide +kernel
set_option maxHeartbeats 4000000 in
set_option maxRecDepth 100000 in
theorem mL_fault {D : va_G} {cy : Nat → ClassId} {q : Nat → Nat} (l : Launch) (hlf : l.stackTraces = false) (hJ : gJ 78 q) {o : Nat} (ho : ¬ gA 78 q o) {fo : Nat → Int64} {x1 : Int32} {x2 : Int32} {x3 : Int32} {σ : TS} {z : Int32 ⊕ Nat} {u : TS} {r : Int32} (hp : sX8_fault x1 x2 x3 σ = some (z, u)) (hz : lhz [(1, 1), (2, 2)] z = some r) : Met l yL_fault wsL_fault rmL_fault (va_Pc [.ref (q (0)), .int x1, .int x2, .int x3, .ref o] (hPre D vwCl (tyL cy) (gS 78 q (TX cy q) σ) (oW o cy fo) (hA q o))) (va_Qi (fun r' (_ : Unit) => r' = r) (fun _ t => va_P D vwCl (gS 78 q (TX cy q) u) t.heap ∧ va_P D vwCl (oW o cy (lo z fo)) t.heap) (hA q o)) 3 18 (hA q o) := by
  refine g_ofWH (cc := cL_fault) (maxL := 6) (ret := (some .int)) (hh := [(0, 12, 15, 13), (0, 12, 19, 15)]) (by decide +kernel) rfl ?_
  intro p e s m args below meth c s₁ B hml htab hv
  obtain ⟨rfl, ⟨hP, hO, hK⟩, hX, hNt⟩ := hv
  have hx := B.exec
  have hb := B.bytes
  have hr := B.returns
  have hlocks := B.notSynchronized
  have hts := atoms_spec (ws := wsL_fault) B.pre
  have hown : s.vm.findClass RL = some m.cls := findClass_of_methodNamed B.named
  have hS : va_S (hA q o) s.heap s.heap [] := va_S.rf
  have hl := lv_entry ([.ref (q (0)), .int x1, .int x2, .int x3, .ref o]) (n := 6) (Nat.le_of_ble_eq_true rfl)
  rw [lg_entry_eq]
  generalize (lg_sl ([.ref (q (0)), .int x1, .int x2, .int x3, .ref o]) ++ List.replicate (6 - (lg_sl ([.ref (q (0)), .int x1, .int x2, .int x3, .ref o])).length) Slot.unset).toArray = ls at hl ⊢
  have hl : lv_has ls 6 [(0, .ref (q (0))), (1, .int x1), (2, .int x2), (3, .int x3), (4, .ref o)] := hl
  refine lv_aload hx hb dL_fault_0 (lv_at hl 4 rfl) ?_
  refine lv_iconst (v := (0 : Int32)) hx hb dL_fault_2 (by decide) ?_
  refine lv_aload_n hx hb dL_fault_3 rfl (lv_at hl 0 rfl) ?_
  refine lv_iload_n hx hb dL_fault_4 rfl (lv_at hl 1 rfl) ?_
  refine lv_iload_n hx hb dL_fault_5 rfl (lv_at hl 2 rfl) ?_
  refine lv_iload_n hx hb dL_fault_6 rfl (lv_at hl 3 rfl) ?_
  rcases z with r1 | k1
  · have hz : some (0 : Int32) = some r := hz
    cases hz
    refine h_cVi (As := [.int x1, .int x2, .int x3]) (rest := [.int (0 : Int32), .ref o]) hx hb hml hown hts hK hX (fun a h => Or.inl h) hP hO (h_odis ho) hS (mX8_fault l hlf hJ hp) (cwV 3 hts gL_fault_X8_fault rfl rfl rfl nVX8_fault ⟨Nat.le_of_ble_eq_true rfl, Nat.le_of_ble_eq_true rfl⟩) (g_recv hK hP kk_Tri ce_Tri rfl) rfl hl.1 rfl (Nat.le_of_ble_eq_true rfl) dL_fault_7 ⟨Nat.le_of_ble_eq_true rfl, Nat.le_of_ble_eq_true rfl⟩ (fun H locs hP hO hS => ?_)
    refine lv_i2l hx hb dL_fault_10 rfl ?_
    refine h_last hx hb hK hJ ho hP hO hS dL_fault_11 (fun H locs hP hO hS => ?_)
    refine lv_goto (tgt := 23) hx hb dL_fault_12 (by decide) ?_
    refine lv_iconst (v := (0 : Int32)) hx hb dL_fault_23 (by decide) ?_
    exact W.iret (v := (0 : Int32)) hx hb hr (fun t ht hW => ⟨⟨(0 : Int32), (), rfl, rfl, by subst ht; exact ⟨hP, hO⟩⟩, hS.F ht⟩) hS.2.2 dL_fault_24
  · skip
    by_cases h1 : k1 = 1
    · subst h1
      have hz : some (1 : Int32) = some r := hz
      cases hz
      refine h_cVx (As := [.int x1, .int x2, .int x3]) (rest := [.int (0 : Int32), .ref o]) hx hb hml hown hts hK hX (fun a h => Or.inl h) hP hO (h_odis ho) hS (mX8_fault l hlf hJ hp) (cwV 3 hts gL_fault_X8_fault rfl rfl rfl nVX8_fault ⟨Nat.le_of_ble_eq_true rfl, Nat.le_of_ble_eq_true rfl⟩) (g_recv hK hP kk_Tri ce_Tri rfl) rfl hl.1 rfl (Nat.le_of_ble_eq_true rfl) dL_fault_7 ⟨Nat.le_of_ble_eq_true rfl, Nat.le_of_ble_eq_true rfl⟩ (fun ce q9 H locs hP hO hS g1 g2 g3 => ?_)
      refine vx_catch (own := RL) (name := xn 1) hown [] (⟨0, 12, 15, 13⟩ : ExceptionTableEntry) [(⟨0, 12, 19, 15⟩ : ExceptionTableEntry)] htab (fun z hz => nomatch hz) (by decide) (by decide) (hts _ mwL_fault_13) (va_Nw.use rfl (hX.2.2.2.1 (xn 1, xn 1) (by decide +kernel))) g1 g2 g3 ?_
      refine lv_astore (lv' := [(5, .ref q9), (0, .ref (q (0))), (1, .int x1), (2, .int x2), (3, .int x3), (4, .ref o)]) hx hb dL_fault_15 hl (by decide) rfl (fun ls hl => ?_)
      refine lv_iconst (v := (1 : Int32)) hx hb dL_fault_17 (by decide) ?_
      exact W.iret (v := (1 : Int32)) hx hb hr (fun t ht hW => ⟨⟨(1 : Int32), (), rfl, rfl, by subst ht; exact ⟨hP, hO⟩⟩, hS.F ht⟩) hS.2.2 dL_fault_18
    by_cases h2 : k1 = 2
    · subst h2
      have hz : some (2 : Int32) = some r := hz
      cases hz
      refine h_cVx (As := [.int x1, .int x2, .int x3]) (rest := [.int (0 : Int32), .ref o]) hx hb hml hown hts hK hX (fun a h => Or.inl h) hP hO (h_odis ho) hS (mX8_fault l hlf hJ hp) (cwV 3 hts gL_fault_X8_fault rfl rfl rfl nVX8_fault ⟨Nat.le_of_ble_eq_true rfl, Nat.le_of_ble_eq_true rfl⟩) (g_recv hK hP kk_Tri ce_Tri rfl) rfl hl.1 rfl (Nat.le_of_ble_eq_true rfl) dL_fault_7 ⟨Nat.le_of_ble_eq_true rfl, Nat.le_of_ble_eq_true rfl⟩ (fun ce q9 H locs hP hO hS g1 g2 g3 => ?_)
      refine vx_catch (own := RL) (name := xn 2) hown [(⟨0, 12, 15, 13⟩ : ExceptionTableEntry)] (⟨0, 12, 19, 15⟩ : ExceptionTableEntry) [] htab (fun z hz => by
        simp only [List.mem_cons, List.not_mem_nil, or_false] at hz
        rcases hz with rfl
        · exact Or.inr ⟨by decide, xn 1, hts _ mwL_fault_13, hNt (xn 2, xn 1) (by decide +kernel)⟩) (by decide) (by decide) (hts _ mwL_fault_15) (va_Nw.use rfl (hX.2.2.2.1 (xn 2, xn 2) (by decide +kernel))) g1 g2 g3 ?_
      refine lv_astore (lv' := [(5, .ref q9), (0, .ref (q (0))), (1, .int x1), (2, .int x2), (3, .int x3), (4, .ref o)]) hx hb dL_fault_19 hl (by decide) rfl (fun ls hl => ?_)
      refine lv_iconst (v := (2 : Int32)) hx hb dL_fault_21 (by decide) ?_
      exact W.iret (v := (2 : Int32)) hx hb hr (fun t ht hW => ⟨⟨(2 : Int32), (), rfl, rfl, by subst ht; exact ⟨hP, hO⟩⟩, hS.F ht⟩) hS.2.2 dL_fault_22
    exfalso
    simp [lhz, lhk, h1, h2] at hz
theorem mwL_position_13 : Cond.classLink RL 13 (xn 1) ∈ wsL_position := by decide +kernel
abbrev rmL_position : Room := { frames := 8, cells := 1, slots := 6, locals := 132 }
theorem nVL_position : yL_position.cls ≠ "java/lang/invoke/MethodHandle" ∧ yL_position.cls ≠ "java/lang/invoke/VarHandle" ∧ (parseMethodDescriptor yL_position.desc).map (fun d => d.parameters.length) = some 3 := by decide +kernel
set_option maxHeartbeats 4000000 in
set_option maxRecDepth 100000 in
theorem mL_position {D : va_G} {cy : Nat → ClassId} {q : Nat → Nat} (l : Launch) (hlf : l.stackTraces = false) (hJ : gJ 78 q) {o : Nat} (ho : ¬ gA 78 q o) {fo : Nat → Int64} {x1 : Int32} {σ : TS} {z : Int32 ⊕ Nat} {u : TS} {r : Int32} (hp : sX8_position x1 σ = some (z, u)) (hz : lhz [(1, 1)] z = some r) : Met l yL_position wsL_position rmL_position (va_Pc [.ref (q (0)), .int x1, .ref o] (hPre D vwCl (tyL cy) (gS 78 q (TX cy q) σ) (oW o cy fo) (hA q o))) (va_Qi (fun r' (_ : Unit) => r' = r) (fun _ t => va_P D vwCl (gS 78 q (TX cy q) u) t.heap ∧ va_P D vwCl (oW o cy (lo z fo)) t.heap) (hA q o)) 1 6 (hA q o) := by
  refine g_ofWH (cc := cL_position) (maxL := 4) (ret := (some .int)) (hh := [(0, 9, 12, 13)]) (by decide +kernel) rfl ?_
  intro p e s m args below meth c s₁ B hml htab hv
  obtain ⟨rfl, ⟨hP, hO, hK⟩, hX, hNt⟩ := hv
  have hx := B.exec
  have hb := B.bytes
  have hr := B.returns
  have hlocks := B.notSynchronized
  have hts := atoms_spec (ws := wsL_position) B.pre
  have hown : s.vm.findClass RL = some m.cls := findClass_of_methodNamed B.named
  have hS : va_S (hA q o) s.heap s.heap [] := va_S.rf
  have hl := lv_entry ([.ref (q (0)), .int x1, .ref o]) (n := 4) (Nat.le_of_ble_eq_true rfl)
  rw [lg_entry_eq]
  generalize (lg_sl ([.ref (q (0)), .int x1, .ref o]) ++ List.replicate (4 - (lg_sl ([.ref (q (0)), .int x1, .ref o])).length) Slot.unset).toArray = ls at hl ⊢
  have hl : lv_has ls 4 [(0, .ref (q (0))), (1, .int x1), (2, .ref o)] := hl
  refine lv_aload_n hx hb dL_position_0 rfl (lv_at hl 2 rfl) ?_
  refine lv_iconst (v := (0 : Int32)) hx hb dL_position_1 (by decide) ?_
  refine lv_aload_n hx hb dL_position_2 rfl (lv_at hl 0 rfl) ?_
  refine lv_iload_n hx hb dL_position_3 rfl (lv_at hl 1 rfl) ?_
  rcases z with r1 | k1
  · have hz : some (0 : Int32) = some r := hz
    cases hz
    refine h_cVi (As := [.int x1]) (rest := [.int (0 : Int32), .ref o]) hx hb hml hown hts hK hX (fun a h => Or.inl h) hP hO (h_odis ho) hS (mX8_position l hlf hJ hp) (cwV 1 hts gL_position_X8_position rfl rfl rfl nVX8_position ⟨Nat.le_of_ble_eq_true rfl, Nat.le_of_ble_eq_true rfl⟩) (g_recv hK hP kk_Tri ce_Tri rfl) rfl hl.1 rfl (Nat.le_of_ble_eq_true rfl) dL_position_4 ⟨Nat.le_of_ble_eq_true rfl, Nat.le_of_ble_eq_true rfl⟩ (fun H locs hP hO hS => ?_)
    refine lv_i2l hx hb dL_position_7 rfl ?_
    refine h_last hx hb hK hJ ho hP hO hS dL_position_8 (fun H locs hP hO hS => ?_)
    refine lv_goto (tgt := 15) hx hb dL_position_9 (by decide) ?_
    refine lv_iconst (v := (0 : Int32)) hx hb dL_position_15 (by decide) ?_
    exact W.iret (v := (0 : Int32)) hx hb hr (fun t ht hW => ⟨⟨(0 : Int32), (), rfl, rfl, by subst ht; exact ⟨hP, hO⟩⟩, hS.F ht⟩) hS.2.2 dL_position_16
  · skip
    by_cases h1 : k1 = 1
    · subst h1
      have hz : some (1 : Int32) = some r := hz
      cases hz
      refine h_cVx (As := [.int x1]) (rest := [.int (0 : Int32), .ref o]) hx hb hml hown hts hK hX (fun a h => Or.inl h) hP hO (h_odis ho) hS (mX8_position l hlf hJ hp) (cwV 1 hts gL_position_X8_position rfl rfl rfl nVX8_position ⟨Nat.le_of_ble_eq_true rfl, Nat.le_of_ble_eq_true rfl⟩) (g_recv hK hP kk_Tri ce_Tri rfl) rfl hl.1 rfl (Nat.le_of_ble_eq_true rfl) dL_position_4 ⟨Nat.le_of_ble_eq_true rfl, Nat.le_of_ble_eq_true rfl⟩ (fun ce q9 H locs hP hO hS g1 g2 g3 => ?_)
      refine vx_catch (own := RL) (name := xn 1) hown [] (⟨0, 9, 12, 13⟩ : ExceptionTableEntry) [] htab (fun z hz => nomatch hz) (by decide) (by decide) (hts _ mwL_position_13) (va_Nw.use rfl (hX.2.2.2.1 (xn 1, xn 1) (by decide +kernel))) g1 g2 g3 ?_
      refine lv_astore_n (lv' := [(3, .ref q9), (0, .ref (q (0))), (1, .int x1), (2, .ref o)]) hx hb dL_position_12 rfl hl (by decide) rfl (fun ls hl => ?_)
      refine lv_iconst (v := (1 : Int32)) hx hb dL_position_13 (by decide) ?_
      exact W.iret (v := (1 : Int32)) hx hb hr (fun t ht hW => ⟨⟨(1 : Int32), (), rfl, rfl, by subst ht; exact ⟨hP, hO⟩⟩, hS.F ht⟩) hS.2.2 dL_position_14
    exfalso
    simp [lhz, lhk, h1] at hz
theorem mwL_hasLetGo_13 : Cond.classLink RL 13 (xn 1) ∈ wsL_hasLetGo := by decide +kernel
abbrev rmL_hasLetGo : Room := { frames := 8, cells := 1, slots := 6, locals := 132 }
theorem nVL_hasLetGo : yL_hasLetGo.cls ≠ "java/lang/invoke/MethodHandle" ∧ yL_hasLetGo.cls ≠ "java/lang/invoke/VarHandle" ∧ (parseMethodDescriptor yL_hasLetGo.desc).map (fun d => d.parameters.length) = some 3 := by decide +kernel
set_option maxHeartbeats 4000000 in
set_option maxRecDepth 100000 in
theorem mL_hasLetGo {D : va_G} {cy : Nat → ClassId} {q : Nat → Nat} (l : Launch) (hlf : l.stackTraces = false) (hJ : gJ 78 q) {o : Nat} (ho : ¬ gA 78 q o) {fo : Nat → Int64} {x1 : Int32} {σ : TS} {z : Int32 ⊕ Nat} {u : TS} {r : Int32} (hp : sX8_hasLetGo x1 σ = some (z, u)) (hz : lhz [(1, 1)] z = some r) : Met l yL_hasLetGo wsL_hasLetGo rmL_hasLetGo (va_Pc [.ref (q (0)), .int x1, .ref o] (hPre D vwCl (tyL cy) (gS 78 q (TX cy q) σ) (oW o cy fo) (hA q o))) (va_Qi (fun r' (_ : Unit) => r' = r) (fun _ t => va_P D vwCl (gS 78 q (TX cy q) u) t.heap ∧ va_P D vwCl (oW o cy (lob z fo)) t.heap) (hA q o)) 1 6 (hA q o) := by
  refine g_ofWH (cc := cL_hasLetGo) (maxL := 4) (ret := (some .int)) (hh := [(0, 16, 19, 13)]) (by decide +kernel) rfl ?_
  intro p e s m args below meth c s₁ B hml htab hv
  obtain ⟨rfl, ⟨hP, hO, hK⟩, hX, hNt⟩ := hv
  have hx := B.exec
  have hb := B.bytes
  have hr := B.returns
  have hlocks := B.notSynchronized
  have hts := atoms_spec (ws := wsL_hasLetGo) B.pre
  have hown : s.vm.findClass RL = some m.cls := findClass_of_methodNamed B.named
  have hS : va_S (hA q o) s.heap s.heap [] := va_S.rf
  have hl := lv_entry ([.ref (q (0)), .int x1, .ref o]) (n := 4) (Nat.le_of_ble_eq_true rfl)
  rw [lg_entry_eq]
  generalize (lg_sl ([.ref (q (0)), .int x1, .ref o]) ++ List.replicate (4 - (lg_sl ([.ref (q (0)), .int x1, .ref o])).length) Slot.unset).toArray = ls at hl ⊢
  have hl : lv_has ls 4 [(0, .ref (q (0))), (1, .int x1), (2, .ref o)] := hl
  refine lv_aload_n hx hb dL_hasLetGo_0 rfl (lv_at hl 2 rfl) ?_
  refine lv_iconst (v := (0 : Int32)) hx hb dL_hasLetGo_1 (by decide) ?_
  refine lv_aload_n hx hb dL_hasLetGo_2 rfl (lv_at hl 0 rfl) ?_
  refine lv_iload_n hx hb dL_hasLetGo_3 rfl (lv_at hl 1 rfl) ?_
  rcases z with r1 | k1
  · have hz : some (0 : Int32) = some r := hz
    cases hz
    refine h_cVi (As := [.int x1]) (rest := [.int (0 : Int32), .ref o]) hx hb hml hown hts hK hX (fun a h => Or.inl h) hP hO (h_odis ho) hS (mX8_hasLetGo l hlf hJ hp) (cwV 1 hts gL_hasLetGo_X8_hasLetGo rfl rfl rfl nVX8_hasLetGo ⟨Nat.le_of_ble_eq_true rfl, Nat.le_of_ble_eq_true rfl⟩) (g_recv hK hP kk_Tri ce_Tri rfl) rfl hl.1 rfl (Nat.le_of_ble_eq_true rfl) dL_hasLetGo_4 ⟨Nat.le_of_ble_eq_true rfl, Nat.le_of_ble_eq_true rfl⟩ (fun H locs hP hO hS => ?_)
    refine lv_if_eq (tgt := 14) hx hb dL_hasLetGo_7 (by decide) (fun hc => ?_) (fun hc => ?_)
    · have e0 : lob (Sum.inl r1) fo = vp_updL fo 0 0 := by simp [lob, hc]
      refine lv_lconst (v := (0 : Int64)) hx hb dL_hasLetGo_14 (by decide) ?_
      refine h_last hx hb hK hJ ho hP hO hS dL_hasLetGo_15 (fun H locs hP hO hS => ?_)
      refine lv_goto (tgt := 22) hx hb dL_hasLetGo_16 (by decide) ?_
      refine lv_iconst (v := (0 : Int32)) hx hb dL_hasLetGo_22 (by decide) ?_
      exact W.iret (v := (0 : Int32)) hx hb hr (fun t ht hW => ⟨⟨(0 : Int32), (), rfl, rfl, by subst ht; rw [e0]; exact ⟨hP, hO⟩⟩, hS.F ht⟩) hS.2.2 dL_hasLetGo_23
    · have e0 : lob (Sum.inl r1) fo = vp_updL fo 0 1 := by simp [lob, hc]
      refine lv_lconst (v := (1 : Int64)) hx hb dL_hasLetGo_10 (by decide) ?_
      refine lv_goto (tgt := 15) hx hb dL_hasLetGo_11 (by decide) ?_
      refine h_last hx hb hK hJ ho hP hO hS dL_hasLetGo_15 (fun H locs hP hO hS => ?_)
      refine lv_goto (tgt := 22) hx hb dL_hasLetGo_16 (by decide) ?_
      refine lv_iconst (v := (0 : Int32)) hx hb dL_hasLetGo_22 (by decide) ?_
      exact W.iret (v := (0 : Int32)) hx hb hr (fun t ht hW => ⟨⟨(0 : Int32), (), rfl, rfl, by subst ht; rw [e0]; exact ⟨hP, hO⟩⟩, hS.F ht⟩) hS.2.2 dL_hasLetGo_23
  · skip
    by_cases h1 : k1 = 1
    · subst h1
      have hz : some (1 : Int32) = some r := hz
      cases hz
      refine h_cVx (As := [.int x1]) (rest := [.int (0 : Int32), .ref o]) hx hb hml hown hts hK hX (fun a h => Or.inl h) hP hO (h_odis ho) hS (mX8_hasLetGo l hlf hJ hp) (cwV 1 hts gL_hasLetGo_X8_hasLetGo rfl rfl rfl nVX8_hasLetGo ⟨Nat.le_of_ble_eq_true rfl, Nat.le_of_ble_eq_true rfl⟩) (g_recv hK hP kk_Tri ce_Tri rfl) rfl hl.1 rfl (Nat.le_of_ble_eq_true rfl) dL_hasLetGo_4 ⟨Nat.le_of_ble_eq_true rfl, Nat.le_of_ble_eq_true rfl⟩ (fun ce q9 H locs hP hO hS g1 g2 g3 => ?_)
      refine vx_catch (own := RL) (name := xn 1) hown [] (⟨0, 16, 19, 13⟩ : ExceptionTableEntry) [] htab (fun z hz => nomatch hz) (by decide) (by decide) (hts _ mwL_hasLetGo_13) (va_Nw.use rfl (hX.2.2.2.1 (xn 1, xn 1) (by decide +kernel))) g1 g2 g3 ?_
      refine lv_astore_n (lv' := [(3, .ref q9), (0, .ref (q (0))), (1, .int x1), (2, .ref o)]) hx hb dL_hasLetGo_19 rfl hl (by decide) rfl (fun ls hl => ?_)
      refine lv_iconst (v := (1 : Int32)) hx hb dL_hasLetGo_20 (by decide) ?_
      exact W.iret (v := (1 : Int32)) hx hb hr (fun t ht hW => ⟨⟨(1 : Int32), (), rfl, rfl, by subst ht; exact ⟨hP, hO⟩⟩, hS.F ht⟩) hS.2.2 dL_hasLetGo_21
    exfalso
    simp [lhz, lhk, h1] at hz
theorem mwL_arm_15 : Cond.classLink RL 15 (xn 2) ∈ wsL_arm := by decide +kernel
abbrev rmL_arm : Room := { frames := 8, cells := 1, slots := 6, locals := 131 }
theorem nVL_arm : yL_arm.cls ≠ "java/lang/invoke/MethodHandle" ∧ yL_arm.cls ≠ "java/lang/invoke/VarHandle" ∧ (parseMethodDescriptor yL_arm.desc).map (fun d => d.parameters.length) = some 3 := by decide +kernel
set_option maxHeartbeats 4000000 in
set_option maxRecDepth 100000 in
theorem mL_arm {D : va_G} {cy : Nat → ClassId} {q : Nat → Nat} (l : Launch) (hlf : l.stackTraces = false) (hJ : gJ 78 q) {o : Nat} (ho : ¬ gA 78 q o) {fo : Nat → Int64} {x1 : Int32} {σ : TS} {z : Int32 ⊕ Nat} {u : TS} {r : Int32} (hp : sX8_arm x1 σ = some (z, u)) (hz : lhz [(2, 1)] z = some r) : Met l yL_arm wsL_arm rmL_arm (va_Pc [.ref (q (0)), .int x1, .ref o] (hPre D vwCl (tyL cy) (gS 78 q (TX cy q) σ) (oW o cy fo) (hA q o))) (va_Qi (fun r' (_ : Unit) => r' = r) (fun _ t => va_P D vwCl (gS 78 q (TX cy q) u) t.heap ∧ va_P D vwCl (oW o cy (lo z fo)) t.heap) (hA q o)) 1 6 (hA q o) := by
  refine g_ofWH (cc := cL_arm) (maxL := 4) (ret := (some .int)) (hh := [(0, 9, 12, 15)]) (by decide +kernel) rfl ?_
  intro p e s m args below meth c s₁ B hml htab hv
  obtain ⟨rfl, ⟨hP, hO, hK⟩, hX, hNt⟩ := hv
  have hx := B.exec
  have hb := B.bytes
  have hr := B.returns
  have hlocks := B.notSynchronized
  have hts := atoms_spec (ws := wsL_arm) B.pre
  have hown : s.vm.findClass RL = some m.cls := findClass_of_methodNamed B.named
  have hS : va_S (hA q o) s.heap s.heap [] := va_S.rf
  have hl := lv_entry ([.ref (q (0)), .int x1, .ref o]) (n := 4) (Nat.le_of_ble_eq_true rfl)
  rw [lg_entry_eq]
  generalize (lg_sl ([.ref (q (0)), .int x1, .ref o]) ++ List.replicate (4 - (lg_sl ([.ref (q (0)), .int x1, .ref o])).length) Slot.unset).toArray = ls at hl ⊢
  have hl : lv_has ls 4 [(0, .ref (q (0))), (1, .int x1), (2, .ref o)] := hl
  refine lv_aload_n hx hb dL_arm_0 rfl (lv_at hl 2 rfl) ?_
  refine lv_iconst (v := (0 : Int32)) hx hb dL_arm_1 (by decide) ?_
  refine lv_aload_n hx hb dL_arm_2 rfl (lv_at hl 0 rfl) ?_
  refine lv_iload_n hx hb dL_arm_3 rfl (lv_at hl 1 rfl) ?_
  rcases z with r1 | k1
  · have hz : some (0 : Int32) = some r := hz
    cases hz
    refine h_cVi (As := [.int x1]) (rest := [.int (0 : Int32), .ref o]) hx hb hml hown hts hK hX (fun a h => Or.inl h) hP hO (h_odis ho) hS (mX8_arm l hlf hJ hp) (cwV 1 hts gL_arm_X8_arm rfl rfl rfl nVX8_arm ⟨Nat.le_of_ble_eq_true rfl, Nat.le_of_ble_eq_true rfl⟩) (g_recv hK hP kk_Tri ce_Tri rfl) rfl hl.1 rfl (Nat.le_of_ble_eq_true rfl) dL_arm_4 ⟨Nat.le_of_ble_eq_true rfl, Nat.le_of_ble_eq_true rfl⟩ (fun H locs hP hO hS => ?_)
    refine lv_i2l hx hb dL_arm_7 rfl ?_
    refine h_last hx hb hK hJ ho hP hO hS dL_arm_8 (fun H locs hP hO hS => ?_)
    refine lv_goto (tgt := 15) hx hb dL_arm_9 (by decide) ?_
    refine lv_iconst (v := (0 : Int32)) hx hb dL_arm_15 (by decide) ?_
    exact W.iret (v := (0 : Int32)) hx hb hr (fun t ht hW => ⟨⟨(0 : Int32), (), rfl, rfl, by subst ht; exact ⟨hP, hO⟩⟩, hS.F ht⟩) hS.2.2 dL_arm_16
  · skip
    by_cases h2 : k1 = 2
    · subst h2
      have hz : some (1 : Int32) = some r := hz
      cases hz
      refine h_cVx (As := [.int x1]) (rest := [.int (0 : Int32), .ref o]) hx hb hml hown hts hK hX (fun a h => Or.inl h) hP hO (h_odis ho) hS (mX8_arm l hlf hJ hp) (cwV 1 hts gL_arm_X8_arm rfl rfl rfl nVX8_arm ⟨Nat.le_of_ble_eq_true rfl, Nat.le_of_ble_eq_true rfl⟩) (g_recv hK hP kk_Tri ce_Tri rfl) rfl hl.1 rfl (Nat.le_of_ble_eq_true rfl) dL_arm_4 ⟨Nat.le_of_ble_eq_true rfl, Nat.le_of_ble_eq_true rfl⟩ (fun ce q9 H locs hP hO hS g1 g2 g3 => ?_)
      refine vx_catch (own := RL) (name := xn 2) hown [] (⟨0, 9, 12, 15⟩ : ExceptionTableEntry) [] htab (fun z hz => nomatch hz) (by decide) (by decide) (hts _ mwL_arm_15) (va_Nw.use rfl (hX.2.2.2.1 (xn 2, xn 2) (by decide +kernel))) g1 g2 g3 ?_
      refine lv_astore_n (lv' := [(3, .ref q9), (0, .ref (q (0))), (1, .int x1), (2, .ref o)]) hx hb dL_arm_12 rfl hl (by decide) rfl (fun ls hl => ?_)
      refine lv_iconst (v := (1 : Int32)) hx hb dL_arm_13 (by decide) ?_
      exact W.iret (v := (1 : Int32)) hx hb hr (fun t ht hW => ⟨⟨(1 : Int32), (), rfl, rfl, by subst ht; exact ⟨hP, hO⟩⟩, hS.F ht⟩) hS.2.2 dL_arm_14
    exfalso
    simp [lhz, lhk, h2] at hz
theorem mwL_give_15 : Cond.classLink RL 15 (xn 2) ∈ wsL_give := by decide +kernel
theorem mwL_give_57 : Cond.classLink RL 57 (xn 4) ∈ wsL_give := by decide +kernel
abbrev rmL_give : Room := { frames := 8, cells := 2, slots := 12, locals := 131 }
theorem nVL_give : yL_give.cls ≠ "java/lang/invoke/MethodHandle" ∧ yL_give.cls ≠ "java/lang/invoke/VarHandle" ∧ (parseMethodDescriptor yL_give.desc).map (fun d => d.parameters.length) = some 3 := by decide +kernel
set_option maxHeartbeats 4000000 in
set_option maxRecDepth 100000 in
theorem mL_give {D : va_G} {cy : Nat → ClassId} {q : Nat → Nat} (l : Launch) (hlf : l.stackTraces = false) (hJ : gJ 78 q) {o : Nat} (ho : ¬ gA 78 q o) {fo : Nat → Int64} {x1 : Int32} {σ : TS} {z : Int32 ⊕ Nat} {u : TS} {r : Int32} (hp : sX8_give x1 σ = some (z, u)) (hz : lhz [(2, 1), (4, 2)] z = some r) : Met l yL_give wsL_give rmL_give (va_Pc [.ref (q (0)), .int x1, .ref o] (hPre D vwCl (tyL cy) (gS 78 q (TX cy q) σ) (oW o cy fo) (hA q o))) (va_Qi (fun r' (_ : Unit) => r' = r) (fun _ t => va_P D vwCl (gS 78 q (TX cy q) u) t.heap ∧ va_P D vwCl (oW o cy (lo z fo)) t.heap) (hA q o)) 2 12 (hA q o) := by
  refine g_ofWH (cc := cL_give) (maxL := 4) (ret := (some .int)) (hh := [(0, 9, 12, 15), (0, 9, 15, 57)]) (by decide +kernel) rfl ?_
  intro p e s m args below meth c s₁ B hml htab hv
  obtain ⟨rfl, ⟨hP, hO, hK⟩, hX, hNt⟩ := hv
  have hx := B.exec
  have hb := B.bytes
  have hr := B.returns
  have hlocks := B.notSynchronized
  have hts := atoms_spec (ws := wsL_give) B.pre
  have hown : s.vm.findClass RL = some m.cls := findClass_of_methodNamed B.named
  have hS : va_S (hA q o) s.heap s.heap [] := va_S.rf
  have hl := lv_entry ([.ref (q (0)), .int x1, .ref o]) (n := 4) (Nat.le_of_ble_eq_true rfl)
  rw [lg_entry_eq]
  generalize (lg_sl ([.ref (q (0)), .int x1, .ref o]) ++ List.replicate (4 - (lg_sl ([.ref (q (0)), .int x1, .ref o])).length) Slot.unset).toArray = ls at hl ⊢
  have hl : lv_has ls 4 [(0, .ref (q (0))), (1, .int x1), (2, .ref o)] := hl
  refine lv_aload_n hx hb dL_give_0 rfl (lv_at hl 2 rfl) ?_
  refine lv_iconst (v := (0 : Int32)) hx hb dL_give_1 (by decide) ?_
  refine lv_aload_n hx hb dL_give_2 rfl (lv_at hl 0 rfl) ?_
  refine lv_iload_n hx hb dL_give_3 rfl (lv_at hl 1 rfl) ?_
  rcases z with r1 | k1
  · have hz : some (0 : Int32) = some r := hz
    cases hz
    refine h_cVi (As := [.int x1]) (rest := [.int (0 : Int32), .ref o]) hx hb hml hown hts hK hX (fun a h => Or.inl h) hP hO (h_odis ho) hS (mX8_give l hlf hJ hp) (cwV 1 hts gL_give_X8_give rfl rfl rfl nVX8_give ⟨Nat.le_of_ble_eq_true rfl, Nat.le_of_ble_eq_true rfl⟩) (g_recv hK hP kk_Tri ce_Tri rfl) rfl hl.1 rfl (Nat.le_of_ble_eq_true rfl) dL_give_4 ⟨Nat.le_of_ble_eq_true rfl, Nat.le_of_ble_eq_true rfl⟩ (fun H locs hP hO hS => ?_)
    refine lv_i2l hx hb dL_give_7 rfl ?_
    refine h_last hx hb hK hJ ho hP hO hS dL_give_8 (fun H locs hP hO hS => ?_)
    refine lv_goto (tgt := 18) hx hb dL_give_9 (by decide) ?_
    refine lv_iconst (v := (0 : Int32)) hx hb dL_give_18 (by decide) ?_
    exact W.iret (v := (0 : Int32)) hx hb hr (fun t ht hW => ⟨⟨(0 : Int32), (), rfl, rfl, by subst ht; exact ⟨hP, hO⟩⟩, hS.F ht⟩) hS.2.2 dL_give_19
  · skip
    by_cases h2 : k1 = 2
    · subst h2
      have hz : some (1 : Int32) = some r := hz
      cases hz
      refine h_cVx (As := [.int x1]) (rest := [.int (0 : Int32), .ref o]) hx hb hml hown hts hK hX (fun a h => Or.inl h) hP hO (h_odis ho) hS (mX8_give l hlf hJ hp) (cwV 1 hts gL_give_X8_give rfl rfl rfl nVX8_give ⟨Nat.le_of_ble_eq_true rfl, Nat.le_of_ble_eq_true rfl⟩) (g_recv hK hP kk_Tri ce_Tri rfl) rfl hl.1 rfl (Nat.le_of_ble_eq_true rfl) dL_give_4 ⟨Nat.le_of_ble_eq_true rfl, Nat.le_of_ble_eq_true rfl⟩ (fun ce q9 H locs hP hO hS g1 g2 g3 => ?_)
      refine vx_catch (own := RL) (name := xn 2) hown [] (⟨0, 9, 12, 15⟩ : ExceptionTableEntry) [(⟨0, 9, 15, 57⟩ : ExceptionTableEntry)] htab (fun z hz => nomatch hz) (by decide) (by decide) (hts _ mwL_give_15) (va_Nw.use rfl (hX.2.2.2.1 (xn 2, xn 2) (by decide +kernel))) g1 g2 g3 ?_
      refine lv_astore_n (lv' := [(3, .ref q9), (0, .ref (q (0))), (1, .int x1), (2, .ref o)]) hx hb dL_give_12 rfl hl (by decide) rfl (fun ls hl => ?_)
      refine lv_iconst (v := (1 : Int32)) hx hb dL_give_13 (by decide) ?_
      exact W.iret (v := (1 : Int32)) hx hb hr (fun t ht hW => ⟨⟨(1 : Int32), (), rfl, rfl, by subst ht; exact ⟨hP, hO⟩⟩, hS.F ht⟩) hS.2.2 dL_give_14
    by_cases h4 : k1 = 4
    · subst h4
      have hz : some (2 : Int32) = some r := hz
      cases hz
      refine h_cVx (As := [.int x1]) (rest := [.int (0 : Int32), .ref o]) hx hb hml hown hts hK hX (fun a h => Or.inl h) hP hO (h_odis ho) hS (mX8_give l hlf hJ hp) (cwV 1 hts gL_give_X8_give rfl rfl rfl nVX8_give ⟨Nat.le_of_ble_eq_true rfl, Nat.le_of_ble_eq_true rfl⟩) (g_recv hK hP kk_Tri ce_Tri rfl) rfl hl.1 rfl (Nat.le_of_ble_eq_true rfl) dL_give_4 ⟨Nat.le_of_ble_eq_true rfl, Nat.le_of_ble_eq_true rfl⟩ (fun ce q9 H locs hP hO hS g1 g2 g3 => ?_)
      refine vx_catch (own := RL) (name := xn 4) hown [(⟨0, 9, 12, 15⟩ : ExceptionTableEntry)] (⟨0, 9, 15, 57⟩ : ExceptionTableEntry) [] htab (fun z hz => by
        simp only [List.mem_cons, List.not_mem_nil, or_false] at hz
        rcases hz with rfl
        · exact Or.inr ⟨by decide, xn 2, hts _ mwL_give_15, hNt (xn 4, xn 2) (by decide +kernel)⟩) (by decide) (by decide) (hts _ mwL_give_57) (va_Nw.use rfl (hX.2.2.2.1 (xn 4, xn 4) (by decide +kernel))) g1 g2 g3 ?_
      refine lv_astore_n (lv' := [(3, .ref q9), (0, .ref (q (0))), (1, .int x1), (2, .ref o)]) hx hb dL_give_15 rfl hl (by decide) rfl (fun ls hl => ?_)
      refine lv_iconst (v := (2 : Int32)) hx hb dL_give_16 (by decide) ?_
      exact W.iret (v := (2 : Int32)) hx hb hr (fun t ht hW => ⟨⟨(2 : Int32), (), rfl, rfl, by subst ht; exact ⟨hP, hO⟩⟩, hS.F ht⟩) hS.2.2 dL_give_17
    exfalso
    simp [lhz, lhk, h2, h4] at hz
theorem mwL_line_15 : Cond.classLink RL 15 (xn 2) ∈ wsL_line := by decide +kernel
theorem mwL_line_97 : Cond.classLink RL 97 (xn 5) ∈ wsL_line := by decide +kernel
abbrev rmL_line : Room := { frames := 8, cells := 2, slots := 12, locals := 132 }
theorem nVL_line : yL_line.cls ≠ "java/lang/invoke/MethodHandle" ∧ yL_line.cls ≠ "java/lang/invoke/VarHandle" ∧ (parseMethodDescriptor yL_line.desc).map (fun d => d.parameters.length) = some 4 := by decide +kernel
set_option maxHeartbeats 4000000 in
set_option maxRecDepth 100000 in
theorem mL_line {D : va_G} {cy : Nat → ClassId} {q : Nat → Nat} (l : Launch) (hlf : l.stackTraces = false) (hJ : gJ 78 q) {o : Nat} (ho : ¬ gA 78 q o) {fo : Nat → Int64} {x1 : Int32} {x2 : Int32} {σ : TS} {z : Int32 ⊕ Nat} {u : TS} {r : Int32} (hp : sX8_line x1 x2 σ = some (z, u)) (hz : lhz [(2, 1), (5, 2)] z = some r) : Met l yL_line wsL_line rmL_line (va_Pc [.ref (q (0)), .int x1, .int x2, .ref o] (hPre D vwCl (tyL cy) (gS 78 q (TX cy q) σ) (oW o cy fo) (hA q o))) (va_Qi (fun r' (_ : Unit) => r' = r) (fun _ t => va_P D vwCl (gS 78 q (TX cy q) u) t.heap ∧ va_P D vwCl (oW o cy (lo z fo)) t.heap) (hA q o)) 2 12 (hA q o) := by
  refine g_ofWH (cc := cL_line) (maxL := 5) (ret := (some .int)) (hh := [(0, 10, 13, 15), (0, 10, 17, 97)]) (by decide +kernel) rfl ?_
  intro p e s m args below meth c s₁ B hml htab hv
  obtain ⟨rfl, ⟨hP, hO, hK⟩, hX, hNt⟩ := hv
  have hx := B.exec
  have hb := B.bytes
  have hr := B.returns
  have hlocks := B.notSynchronized
  have hts := atoms_spec (ws := wsL_line) B.pre
  have hown : s.vm.findClass RL = some m.cls := findClass_of_methodNamed B.named
  have hS : va_S (hA q o) s.heap s.heap [] := va_S.rf
  have hl := lv_entry ([.ref (q (0)), .int x1, .int x2, .ref o]) (n := 5) (Nat.le_of_ble_eq_true rfl)
  rw [lg_entry_eq]
  generalize (lg_sl ([.ref (q (0)), .int x1, .int x2, .ref o]) ++ List.replicate (5 - (lg_sl ([.ref (q (0)), .int x1, .int x2, .ref o])).length) Slot.unset).toArray = ls at hl ⊢
  have hl : lv_has ls 5 [(0, .ref (q (0))), (1, .int x1), (2, .int x2), (3, .ref o)] := hl
  refine lv_aload_n hx hb dL_line_0 rfl (lv_at hl 3 rfl) ?_
  refine lv_iconst (v := (0 : Int32)) hx hb dL_line_1 (by decide) ?_
  refine lv_aload_n hx hb dL_line_2 rfl (lv_at hl 0 rfl) ?_
  refine lv_iload_n hx hb dL_line_3 rfl (lv_at hl 1 rfl) ?_
  refine lv_iload_n hx hb dL_line_4 rfl (lv_at hl 2 rfl) ?_
  rcases z with r1 | k1
  · have hz : some (0 : Int32) = some r := hz
    cases hz
    refine h_cVi (As := [.int x1, .int x2]) (rest := [.int (0 : Int32), .ref o]) hx hb hml hown hts hK hX (fun a h => Or.inl h) hP hO (h_odis ho) hS (mX8_line l hlf hJ hp) (cwV 2 hts gL_line_X8_line rfl rfl rfl nVX8_line ⟨Nat.le_of_ble_eq_true rfl, Nat.le_of_ble_eq_true rfl⟩) (g_recv hK hP kk_Tri ce_Tri rfl) rfl hl.1 rfl (Nat.le_of_ble_eq_true rfl) dL_line_5 ⟨Nat.le_of_ble_eq_true rfl, Nat.le_of_ble_eq_true rfl⟩ (fun H locs hP hO hS => ?_)
    refine lv_i2l hx hb dL_line_8 rfl ?_
    refine h_last hx hb hK hJ ho hP hO hS dL_line_9 (fun H locs hP hO hS => ?_)
    refine lv_goto (tgt := 21) hx hb dL_line_10 (by decide) ?_
    refine lv_iconst (v := (0 : Int32)) hx hb dL_line_21 (by decide) ?_
    exact W.iret (v := (0 : Int32)) hx hb hr (fun t ht hW => ⟨⟨(0 : Int32), (), rfl, rfl, by subst ht; exact ⟨hP, hO⟩⟩, hS.F ht⟩) hS.2.2 dL_line_22
  · skip
    by_cases h2 : k1 = 2
    · subst h2
      have hz : some (1 : Int32) = some r := hz
      cases hz
      refine h_cVx (As := [.int x1, .int x2]) (rest := [.int (0 : Int32), .ref o]) hx hb hml hown hts hK hX (fun a h => Or.inl h) hP hO (h_odis ho) hS (mX8_line l hlf hJ hp) (cwV 2 hts gL_line_X8_line rfl rfl rfl nVX8_line ⟨Nat.le_of_ble_eq_true rfl, Nat.le_of_ble_eq_true rfl⟩) (g_recv hK hP kk_Tri ce_Tri rfl) rfl hl.1 rfl (Nat.le_of_ble_eq_true rfl) dL_line_5 ⟨Nat.le_of_ble_eq_true rfl, Nat.le_of_ble_eq_true rfl⟩ (fun ce q9 H locs hP hO hS g1 g2 g3 => ?_)
      refine vx_catch (own := RL) (name := xn 2) hown [] (⟨0, 10, 13, 15⟩ : ExceptionTableEntry) [(⟨0, 10, 17, 97⟩ : ExceptionTableEntry)] htab (fun z hz => nomatch hz) (by decide) (by decide) (hts _ mwL_line_15) (va_Nw.use rfl (hX.2.2.2.1 (xn 2, xn 2) (by decide +kernel))) g1 g2 g3 ?_
      refine lv_astore (lv' := [(4, .ref q9), (0, .ref (q (0))), (1, .int x1), (2, .int x2), (3, .ref o)]) hx hb dL_line_13 hl (by decide) rfl (fun ls hl => ?_)
      refine lv_iconst (v := (1 : Int32)) hx hb dL_line_15 (by decide) ?_
      exact W.iret (v := (1 : Int32)) hx hb hr (fun t ht hW => ⟨⟨(1 : Int32), (), rfl, rfl, by subst ht; exact ⟨hP, hO⟩⟩, hS.F ht⟩) hS.2.2 dL_line_16
    by_cases h5 : k1 = 5
    · subst h5
      have hz : some (2 : Int32) = some r := hz
      cases hz
      refine h_cVx (As := [.int x1, .int x2]) (rest := [.int (0 : Int32), .ref o]) hx hb hml hown hts hK hX (fun a h => Or.inl h) hP hO (h_odis ho) hS (mX8_line l hlf hJ hp) (cwV 2 hts gL_line_X8_line rfl rfl rfl nVX8_line ⟨Nat.le_of_ble_eq_true rfl, Nat.le_of_ble_eq_true rfl⟩) (g_recv hK hP kk_Tri ce_Tri rfl) rfl hl.1 rfl (Nat.le_of_ble_eq_true rfl) dL_line_5 ⟨Nat.le_of_ble_eq_true rfl, Nat.le_of_ble_eq_true rfl⟩ (fun ce q9 H locs hP hO hS g1 g2 g3 => ?_)
      refine vx_catch (own := RL) (name := xn 5) hown [(⟨0, 10, 13, 15⟩ : ExceptionTableEntry)] (⟨0, 10, 17, 97⟩ : ExceptionTableEntry) [] htab (fun z hz => by
        simp only [List.mem_cons, List.not_mem_nil, or_false] at hz
        rcases hz with rfl
        · exact Or.inr ⟨by decide, xn 2, hts _ mwL_line_15, hNt (xn 5, xn 2) (by decide +kernel)⟩) (by decide) (by decide) (hts _ mwL_line_97) (va_Nw.use rfl (hX.2.2.2.1 (xn 5, xn 5) (by decide +kernel))) g1 g2 g3 ?_
      refine lv_astore (lv' := [(4, .ref q9), (0, .ref (q (0))), (1, .int x1), (2, .int x2), (3, .ref o)]) hx hb dL_line_17 hl (by decide) rfl (fun ls hl => ?_)
      refine lv_iconst (v := (2 : Int32)) hx hb dL_line_19 (by decide) ?_
      exact W.iret (v := (2 : Int32)) hx hb hr (fun t ht hW => ⟨⟨(2 : Int32), (), rfl, rfl, by subst ht; exact ⟨hP, hO⟩⟩, hS.F ht⟩) hS.2.2 dL_line_20
    exfalso
    simp [lhz, lhk, h2, h5] at hz

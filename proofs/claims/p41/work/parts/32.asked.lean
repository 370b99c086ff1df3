abbrev rmL_asked : Room := { frames := 8, cells := 3, slots := 18, locals := 135 }
theorem nVL_asked : yL_asked.cls ≠ "java/lang/invoke/MethodHandle" ∧ yL_asked.cls ≠ "java/lang/invoke/VarHandle" ∧ (parseMethodDescriptor yL_asked.desc).map (fun d => d.parameters.length) = some 3 := by decide +kernel
set_option maxHeartbeats 4000000 in
set_option maxRecDepth 100000 in
theorem mL_asked_read {D : va_G} {cy : Nat → ClassId} {q : Nat → Nat} (l : Launch) (hlf : l.stackTraces = false) (hJ : gJ 78 q) {a : Nat} (ha : ¬ gA 78 q a) {f : Nat → Int32} {σ : TS} {z : Int32 ⊕ Nat} {u : TS} (hp : sX8_read (f 0) (f 1) (f 2) (f 3) σ = some (z, u)) : vx_Met l yL_asked wsL_asked rmL_asked (va_Pc [.ref (q 0), .int (114 : Int32), .ref a] (hPre D vwCl (tyL cy) (gS 78 q (TX cy q) σ) (iW a cy 4 f) (gA 78 q))) (gQx D vwCl z (gS 78 q (TX cy q) u) (gA 78 q)) (gXx D vwCl z (gS 78 q (TX cy q) u) (gA 78 q)) 3 18 (gA 78 q) := by
  refine vx_ofW (cc := cL_asked) (maxL := 3) (ret := (some .int)) (by decide +kernel) rfl ?_
  intro p e s m args below meth c s₁ B hml hex hv
  obtain ⟨rfl, ⟨hP, hO, hK⟩, hX, hNt⟩ := hv
  have hx := B.exec
  have hb := B.bytes
  have hr := B.returns
  have hlocks := B.notSynchronized
  have hts := atoms_spec (ws := wsL_asked) B.pre
  have hown : s.vm.findClass RL = some m.cls := findClass_of_methodNamed B.named
  have hS : va_S (gA 78 q) s.heap s.heap [] := va_S.rf
  have hl := lv_entry ([.ref (q 0), .int (114 : Int32), .ref a]) (n := 3) (Nat.le_of_ble_eq_true rfl)
  rw [lg_entry_eq]
  generalize (lg_sl ([.ref (q 0), .int (114 : Int32), .ref a]) ++ List.replicate (3 - (lg_sl ([.ref (q 0), .int (114 : Int32), .ref a])).length) Slot.unset).toArray = ls at hl ⊢
  have hl : lv_has ls 3 [(0, .ref (q 0)), (1, .int (114 : Int32)), (2, .ref a)] := hl
  refine lv_iload_n hx hb dL_asked_0 rfl (lv_at hl 1 rfl) ?_
  refine g_sw hx hb (off := 215) (tgt := 216) dL_asked_1 (by decide) (by decide) (by decide) ?_
  refine lv_aload_n hx hb dL_asked_216 rfl (lv_at hl 0 rfl) ?_
  refine lv_aload_n hx hb dL_asked_217 rfl (lv_at hl 2 rfl) ?_
  refine lv_iconst (v := (0 : Int32)) hx hb dL_asked_218 (by decide) ?_
  refine h_ild (j := 0) hx hb hK hO (by decide) rfl dL_asked_219 ?_
  refine lv_aload_n hx hb dL_asked_220 rfl (lv_at hl 2 rfl) ?_
  refine lv_iconst (v := (1 : Int32)) hx hb dL_asked_221 (by decide) ?_
  refine h_ild (j := 1) hx hb hK hO (by decide) rfl dL_asked_222 ?_
  refine lv_aload_n hx hb dL_asked_223 rfl (lv_at hl 2 rfl) ?_
  refine lv_iconst (v := (2 : Int32)) hx hb dL_asked_224 (by decide) ?_
  refine h_ild (j := 2) hx hb hK hO (by decide) rfl dL_asked_225 ?_
  refine lv_aload_n hx hb dL_asked_226 rfl (lv_at hl 2 rfl) ?_
  refine lv_iconst (v := (3 : Int32)) hx hb dL_asked_227 (by decide) ?_
  refine h_ild (j := 3) hx hb hK hO (by decide) rfl dL_asked_228 ?_
  rcases z with r1 | k1
  · refine h_cVi (As := [.int (f 0), .int (f 1), .int (f 2), .int (f 3)]) (rest := []) hx hb hml hown hts hK hX (fun a h => h) hP hO (i_dis ha) hS (mX8_read l hlf hJ hp) (cwV 4 hts gL_asked_X8_read rfl rfl rfl nVX8_read ⟨Nat.le_of_ble_eq_true rfl, Nat.le_of_ble_eq_true rfl⟩) (g_recv hK hP kk_Tri ce_Tri rfl) rfl hl.1 rfl (Nat.le_of_ble_eq_true rfl) dL_asked_229 ⟨Nat.le_of_ble_eq_true rfl, Nat.le_of_ble_eq_true rfl⟩ (fun H locs hP hO hS => ?_)
    refine W.widen (k := 3) (n := 18) (Nat.le_of_ble_eq_true rfl) (Nat.le_of_ble_eq_true rfl) ?_
    refine vx_ret ?_
    exact W.iret (v := r1) hx hb hr (fun t ht hW => ⟨⟨r1, (), rfl, rfl, by subst ht; exact hP⟩, hS.F ht⟩) hS.2.2 dL_asked_232
  · refine h_cVx (As := [.int (f 0), .int (f 1), .int (f 2), .int (f 3)]) (rest := []) hx hb hml hown hts hK hX (fun a h => h) hP hO (i_dis ha) hS (mX8_read l hlf hJ hp) (cwV 4 hts gL_asked_X8_read rfl rfl rfl nVX8_read ⟨Nat.le_of_ble_eq_true rfl, Nat.le_of_ble_eq_true rfl⟩) (g_recv hK hP kk_Tri ce_Tri rfl) rfl hl.1 rfl (Nat.le_of_ble_eq_true rfl) dL_asked_229 ⟨Nat.le_of_ble_eq_true rfl, Nat.le_of_ble_eq_true rfl⟩ (fun ce q9 H locs hP hO hS g1 g2 g3 => ?_)
    exact vx_out (fun x hx => (hex x hx).elim) hlocks g1 g2 g3 (fun t ht hvm => ⟨(), trivial, ⟨⟨k1, rfl, rfl⟩, by rw [ht]; exact hP⟩, hS.F ht⟩) hS.2.2 (Nat.le_of_ble_eq_true rfl) (Nat.le_of_ble_eq_true rfl)
set_option maxHeartbeats 4000000 in
set_option maxRecDepth 100000 in
theorem mL_asked_limit {D : va_G} {cy : Nat → ClassId} {q : Nat → Nat} (l : Launch) (hlf : l.stackTraces = false) (hJ : gJ 78 q) {a : Nat} (ha : ¬ gA 78 q a) {f : Nat → Int32} {σ : TS} {z : Int32 ⊕ Nat} {u : TS} (hp : sX8_limit (f 0) (f 1) σ = some (z, u)) : vx_Met l yL_asked wsL_asked rmL_asked (va_Pc [.ref (q 0), .int (108 : Int32), .ref a] (hPre D vwCl (tyL cy) (gS 78 q (TX cy q) σ) (iW a cy 2 f) (gA 78 q))) (gQx D vwCl z (gS 78 q (TX cy q) u) (gA 78 q)) (gXx D vwCl z (gS 78 q (TX cy q) u) (gA 78 q)) 3 18 (gA 78 q) := by
  refine vx_ofW (cc := cL_asked) (maxL := 3) (ret := (some .int)) (by decide +kernel) rfl ?_
  intro p e s m args below meth c s₁ B hml hex hv
  obtain ⟨rfl, ⟨hP, hO, hK⟩, hX, hNt⟩ := hv
  have hx := B.exec
  have hb := B.bytes
  have hr := B.returns
  have hlocks := B.notSynchronized
  have hts := atoms_spec (ws := wsL_asked) B.pre
  have hown : s.vm.findClass RL = some m.cls := findClass_of_methodNamed B.named
  have hS : va_S (gA 78 q) s.heap s.heap [] := va_S.rf
  have hl := lv_entry ([.ref (q 0), .int (108 : Int32), .ref a]) (n := 3) (Nat.le_of_ble_eq_true rfl)
  rw [lg_entry_eq]
  generalize (lg_sl ([.ref (q 0), .int (108 : Int32), .ref a]) ++ List.replicate (3 - (lg_sl ([.ref (q 0), .int (108 : Int32), .ref a])).length) Slot.unset).toArray = ls at hl ⊢
  have hl : lv_has ls 3 [(0, .ref (q 0)), (1, .int (108 : Int32)), (2, .ref a)] := hl
  refine lv_iload_n hx hb dL_asked_0 rfl (lv_at hl 1 rfl) ?_
  refine g_sw hx hb (off := 232) (tgt := 233) dL_asked_1 (by decide) (by decide) (by decide) ?_
  refine lv_aload_n hx hb dL_asked_233 rfl (lv_at hl 0 rfl) ?_
  refine lv_aload_n hx hb dL_asked_234 rfl (lv_at hl 2 rfl) ?_
  refine lv_iconst (v := (0 : Int32)) hx hb dL_asked_235 (by decide) ?_
  refine h_ild (j := 0) hx hb hK hO (by decide) rfl dL_asked_236 ?_
  refine lv_aload_n hx hb dL_asked_237 rfl (lv_at hl 2 rfl) ?_
  refine lv_iconst (v := (1 : Int32)) hx hb dL_asked_238 (by decide) ?_
  refine h_ild (j := 1) hx hb hK hO (by decide) rfl dL_asked_239 ?_
  rcases z with r1 | k1
  · refine h_cVi (As := [.int (f 0), .int (f 1)]) (rest := []) hx hb hml hown hts hK hX (fun a h => h) hP hO (i_dis ha) hS (mX8_limit l hlf hJ hp) (cwV 2 hts gL_asked_X8_limit rfl rfl rfl nVX8_limit ⟨Nat.le_of_ble_eq_true rfl, Nat.le_of_ble_eq_true rfl⟩) (g_recv hK hP kk_Tri ce_Tri rfl) rfl hl.1 rfl (Nat.le_of_ble_eq_true rfl) dL_asked_240 ⟨Nat.le_of_ble_eq_true rfl, Nat.le_of_ble_eq_true rfl⟩ (fun H locs hP hO hS => ?_)
    refine W.widen (k := 3) (n := 18) (Nat.le_of_ble_eq_true rfl) (Nat.le_of_ble_eq_true rfl) ?_
    refine vx_ret ?_
    exact W.iret (v := r1) hx hb hr (fun t ht hW => ⟨⟨r1, (), rfl, rfl, by subst ht; exact hP⟩, hS.F ht⟩) hS.2.2 dL_asked_243
  · refine h_cVx (As := [.int (f 0), .int (f 1)]) (rest := []) hx hb hml hown hts hK hX (fun a h => h) hP hO (i_dis ha) hS (mX8_limit l hlf hJ hp) (cwV 2 hts gL_asked_X8_limit rfl rfl rfl nVX8_limit ⟨Nat.le_of_ble_eq_true rfl, Nat.le_of_ble_eq_true rfl⟩) (g_recv hK hP kk_Tri ce_Tri rfl) rfl hl.1 rfl (Nat.le_of_ble_eq_true rfl) dL_asked_240 ⟨Nat.le_of_ble_eq_true rfl, Nat.le_of_ble_eq_true rfl⟩ (fun ce q9 H locs hP hO hS g1 g2 g3 => ?_)
    exact vx_out (fun x hx => (hex x hx).elim) hlocks g1 g2 g3 (fun t ht hvm => ⟨(), trivial, ⟨⟨k1, rfl, rfl⟩, by rw [ht]; exact hP⟩, hS.F ht⟩) hS.2.2 (Nat.le_of_ble_eq_true rfl) (Nat.le_of_ble_eq_true rfl)
set_option maxHeartbeats 4000000 in
set_option maxRecDepth 100000 in
theorem mL_asked_agreed {D : va_G} {cy : Nat → ClassId} {q : Nat → Nat} (l : Launch) (hlf : l.stackTraces = false) (hJ : gJ 78 q) {a : Nat} (ha : ¬ gA 78 q a) {f : Nat → Int32} {σ : TS} {z : Int32 ⊕ Nat} {u : TS} (hp : sX8_agreed (f 0) σ = some (z, u)) : vx_Met l yL_asked wsL_asked rmL_asked (va_Pc [.ref (q 0), .int (97 : Int32), .ref a] (hPre D vwCl (tyL cy) (gS 78 q (TX cy q) σ) (iW a cy 1 f) (gA 78 q))) (gQx D vwCl z (gS 78 q (TX cy q) u) (gA 78 q)) (gXx D vwCl z (gS 78 q (TX cy q) u) (gA 78 q)) 3 18 (gA 78 q) := by
  refine vx_ofW (cc := cL_asked) (maxL := 3) (ret := (some .int)) (by decide +kernel) rfl ?_
  intro p e s m args below meth c s₁ B hml hex hv
  obtain ⟨rfl, ⟨hP, hO, hK⟩, hX, hNt⟩ := hv
  have hx := B.exec
  have hb := B.bytes
  have hr := B.returns
  have hlocks := B.notSynchronized
  have hts := atoms_spec (ws := wsL_asked) B.pre
  have hown : s.vm.findClass RL = some m.cls := findClass_of_methodNamed B.named
  have hS : va_S (gA 78 q) s.heap s.heap [] := va_S.rf
  have hl := lv_entry ([.ref (q 0), .int (97 : Int32), .ref a]) (n := 3) (Nat.le_of_ble_eq_true rfl)
  rw [lg_entry_eq]
  generalize (lg_sl ([.ref (q 0), .int (97 : Int32), .ref a]) ++ List.replicate (3 - (lg_sl ([.ref (q 0), .int (97 : Int32), .ref a])).length) Slot.unset).toArray = ls at hl ⊢
  have hl : lv_has ls 3 [(0, .ref (q 0)), (1, .int (97 : Int32)), (2, .ref a)] := hl
  refine lv_iload_n hx hb dL_asked_0 rfl (lv_at hl 1 rfl) ?_
  refine g_sw hx hb (off := 243) (tgt := 244) dL_asked_1 (by decide) (by decide) (by decide) ?_
  refine lv_aload_n hx hb dL_asked_244 rfl (lv_at hl 0 rfl) ?_
  refine lv_aload_n hx hb dL_asked_245 rfl (lv_at hl 2 rfl) ?_
  refine lv_iconst (v := (0 : Int32)) hx hb dL_asked_246 (by decide) ?_
  refine h_ild (j := 0) hx hb hK hO (by decide) rfl dL_asked_247 ?_
  rcases z with r1 | k1
  · refine h_cVi (As := [.int (f 0)]) (rest := []) hx hb hml hown hts hK hX (fun a h => h) hP hO (i_dis ha) hS (mX8_agreed l hlf hJ hp) (cwV 1 hts gL_asked_X8_agreed rfl rfl rfl nVX8_agreed ⟨Nat.le_of_ble_eq_true rfl, Nat.le_of_ble_eq_true rfl⟩) (g_recv hK hP kk_Tri ce_Tri rfl) rfl hl.1 rfl (Nat.le_of_ble_eq_true rfl) dL_asked_248 ⟨Nat.le_of_ble_eq_true rfl, Nat.le_of_ble_eq_true rfl⟩ (fun H locs hP hO hS => ?_)
    refine W.widen (k := 3) (n := 18) (Nat.le_of_ble_eq_true rfl) (Nat.le_of_ble_eq_true rfl) ?_
    refine vx_ret ?_
    exact W.iret (v := r1) hx hb hr (fun t ht hW => ⟨⟨r1, (), rfl, rfl, by subst ht; exact hP⟩, hS.F ht⟩) hS.2.2 dL_asked_251
  · refine h_cVx (As := [.int (f 0)]) (rest := []) hx hb hml hown hts hK hX (fun a h => h) hP hO (i_dis ha) hS (mX8_agreed l hlf hJ hp) (cwV 1 hts gL_asked_X8_agreed rfl rfl rfl nVX8_agreed ⟨Nat.le_of_ble_eq_true rfl, Nat.le_of_ble_eq_true rfl⟩) (g_recv hK hP kk_Tri ce_Tri rfl) rfl hl.1 rfl (Nat.le_of_ble_eq_true rfl) dL_asked_248 ⟨Nat.le_of_ble_eq_true rfl, Nat.le_of_ble_eq_true rfl⟩ (fun ce q9 H locs hP hO hS g1 g2 g3 => ?_)
    exact vx_out (fun x hx => (hex x hx).elim) hlocks g1 g2 g3 (fun t ht hvm => ⟨(), trivial, ⟨⟨k1, rfl, rfl⟩, by rw [ht]; exact hP⟩, hS.F ht⟩) hS.2.2 (Nat.le_of_ble_eq_true rfl) (Nat.le_of_ble_eq_true rfl)
set_option maxHeartbeats 4000000 in
set_option maxRecDepth 100000 in
theorem mL_asked_lie {D : va_G} {cy : Nat → ClassId} {q : Nat → Nat} (l : Launch) (hlf : l.stackTraces = false) (hJ : gJ 78 q) {a : Nat} (ha : ¬ gA 78 q a) {f : Nat → Int32} {σ : TS} {z : Int32 ⊕ Nat} {u : TS} (hp : sX8_lie (f 0) (f 1) (f 2) σ = some (z, u)) : vx_Met l yL_asked wsL_asked rmL_asked (va_Pc [.ref (q 0), .int (105 : Int32), .ref a] (hPre D vwCl (tyL cy) (gS 78 q (TX cy q) σ) (iW a cy 3 f) (gA 78 q))) (gQx D vwCl z (gS 78 q (TX cy q) u) (gA 78 q)) (gXx D vwCl z (gS 78 q (TX cy q) u) (gA 78 q)) 3 18 (gA 78 q) := by
  refine vx_ofW (cc := cL_asked) (maxL := 3) (ret := (some .int)) (by decide +kernel) rfl ?_
  intro p e s m args below meth c s₁ B hml hex hv
  obtain ⟨rfl, ⟨hP, hO, hK⟩, hX, hNt⟩ := hv
  have hx := B.exec
  have hb := B.bytes
  have hr := B.returns
  have hlocks := B.notSynchronized
  have hts := atoms_spec (ws := wsL_asked) B.pre
  have hown : s.vm.findClass RL = some m.cls := findClass_of_methodNamed B.named
  have hS : va_S (gA 78 q) s.heap s.heap [] := va_S.rf
  have hl := lv_entry ([.ref (q 0), .int (105 : Int32), .ref a]) (n := 3) (Nat.le_of_ble_eq_true rfl)
  rw [lg_entry_eq]
  generalize (lg_sl ([.ref (q 0), .int (105 : Int32), .ref a]) ++ List.replicate (3 - (lg_sl ([.ref (q 0), .int (105 : Int32), .ref a])).length) Slot.unset).toArray = ls at hl ⊢
  have hl : lv_has ls 3 [(0, .ref (q 0)), (1, .int (105 : Int32)), (2, .ref a)] := hl
  refine lv_iload_n hx hb dL_asked_0 rfl (lv_at hl 1 rfl) ?_
  refine g_sw hx hb (off := 262) (tgt := 263) dL_asked_1 (by decide) (by decide) (by decide) ?_
  refine lv_aload_n hx hb dL_asked_263 rfl (lv_at hl 0 rfl) ?_
  refine lv_aload_n hx hb dL_asked_264 rfl (lv_at hl 2 rfl) ?_
  refine lv_iconst (v := (0 : Int32)) hx hb dL_asked_265 (by decide) ?_
  refine h_ild (j := 0) hx hb hK hO (by decide) rfl dL_asked_266 ?_
  refine lv_aload_n hx hb dL_asked_267 rfl (lv_at hl 2 rfl) ?_
  refine lv_iconst (v := (1 : Int32)) hx hb dL_asked_268 (by decide) ?_
  refine h_ild (j := 1) hx hb hK hO (by decide) rfl dL_asked_269 ?_
  refine lv_aload_n hx hb dL_asked_270 rfl (lv_at hl 2 rfl) ?_
  refine lv_iconst (v := (2 : Int32)) hx hb dL_asked_271 (by decide) ?_
  refine h_ild (j := 2) hx hb hK hO (by decide) rfl dL_asked_272 ?_
  rcases z with r1 | k1
  · refine h_cVi (As := [.int (f 0), .int (f 1), .int (f 2)]) (rest := []) hx hb hml hown hts hK hX (fun a h => h) hP hO (i_dis ha) hS (mX8_lie l hlf hJ hp) (cwV 3 hts gL_asked_X8_lie rfl rfl rfl nVX8_lie ⟨Nat.le_of_ble_eq_true rfl, Nat.le_of_ble_eq_true rfl⟩) (g_recv hK hP kk_Tri ce_Tri rfl) rfl hl.1 rfl (Nat.le_of_ble_eq_true rfl) dL_asked_273 ⟨Nat.le_of_ble_eq_true rfl, Nat.le_of_ble_eq_true rfl⟩ (fun H locs hP hO hS => ?_)
    refine W.widen (k := 3) (n := 18) (Nat.le_of_ble_eq_true rfl) (Nat.le_of_ble_eq_true rfl) ?_
    refine vx_ret ?_
    exact W.iret (v := r1) hx hb hr (fun t ht hW => ⟨⟨r1, (), rfl, rfl, by subst ht; exact hP⟩, hS.F ht⟩) hS.2.2 dL_asked_276
  · refine h_cVx (As := [.int (f 0), .int (f 1), .int (f 2)]) (rest := []) hx hb hml hown hts hK hX (fun a h => h) hP hO (i_dis ha) hS (mX8_lie l hlf hJ hp) (cwV 3 hts gL_asked_X8_lie rfl rfl rfl nVX8_lie ⟨Nat.le_of_ble_eq_true rfl, Nat.le_of_ble_eq_true rfl⟩) (g_recv hK hP kk_Tri ce_Tri rfl) rfl hl.1 rfl (Nat.le_of_ble_eq_true rfl) dL_asked_273 ⟨Nat.le_of_ble_eq_true rfl, Nat.le_of_ble_eq_true rfl⟩ (fun ce q9 H locs hP hO hS g1 g2 g3 => ?_)
    exact vx_out (fun x hx => (hex x hx).elim) hlocks g1 g2 g3 (fun t ht hvm => ⟨(), trivial, ⟨⟨k1, rfl, rfl⟩, by rw [ht]; exact hP⟩, hS.F ht⟩) hS.2.2 (Nat.le_of_ble_eq_true rfl) (Nat.le_of_ble_eq_true rfl)
set_option maxHeartbeats 4000000 in
set_option maxRecDepth 100000 in
theorem mL_asked_clock {D : va_G} {cy : Nat → ClassId} {q : Nat → Nat} (l : Launch) (hlf : l.stackTraces = false) (hJ : gJ 78 q) {a : Nat} (ha : ¬ gA 78 q a) {f : Nat → Int32} {σ : TS} {z : Int32 ⊕ Nat} {u : TS} (hp : sX8_clock (f 0) σ = some (z, u)) : vx_Met l yL_asked wsL_asked rmL_asked (va_Pc [.ref (q 0), .int (75 : Int32), .ref a] (hPre D vwCl (tyL cy) (gS 78 q (TX cy q) σ) (iW a cy 1 f) (gA 78 q))) (gQx D vwCl z (gS 78 q (TX cy q) u) (gA 78 q)) (gXx D vwCl z (gS 78 q (TX cy q) u) (gA 78 q)) 3 18 (gA 78 q) := by
  refine vx_ofW (cc := cL_asked) (maxL := 3) (ret := (some .int)) (by decide +kernel) rfl ?_
  intro p e s m args below meth c s₁ B hml hex hv
  obtain ⟨rfl, ⟨hP, hO, hK⟩, hX, hNt⟩ := hv
  have hx := B.exec
  have hb := B.bytes
  have hr := B.returns
  have hlocks := B.notSynchronized
  have hts := atoms_spec (ws := wsL_asked) B.pre
  have hown : s.vm.findClass RL = some m.cls := findClass_of_methodNamed B.named
  have hS : va_S (gA 78 q) s.heap s.heap [] := va_S.rf
  have hl := lv_entry ([.ref (q 0), .int (75 : Int32), .ref a]) (n := 3) (Nat.le_of_ble_eq_true rfl)
  rw [lg_entry_eq]
  generalize (lg_sl ([.ref (q 0), .int (75 : Int32), .ref a]) ++ List.replicate (3 - (lg_sl ([.ref (q 0), .int (75 : Int32), .ref a])).length) Slot.unset).toArray = ls at hl ⊢
  have hl : lv_has ls 3 [(0, .ref (q 0)), (1, .int (75 : Int32)), (2, .ref a)] := hl
  refine lv_iload_n hx hb dL_asked_0 rfl (lv_at hl 1 rfl) ?_
  refine g_sw hx hb (off := 276) (tgt := 277) dL_asked_1 (by decide) (by decide) (by decide) ?_
  refine lv_aload_n hx hb dL_asked_277 rfl (lv_at hl 0 rfl) ?_
  refine lv_aload_n hx hb dL_asked_278 rfl (lv_at hl 2 rfl) ?_
  refine lv_iconst (v := (0 : Int32)) hx hb dL_asked_279 (by decide) ?_
  refine h_ild (j := 0) hx hb hK hO (by decide) rfl dL_asked_280 ?_
  rcases z with r1 | k1
  · refine h_cVi (As := [.int (f 0)]) (rest := []) hx hb hml hown hts hK hX (fun a h => h) hP hO (i_dis ha) hS (mX8_clock l hlf hJ hp) (cwV 1 hts gL_asked_X8_clock rfl rfl rfl nVX8_clock ⟨Nat.le_of_ble_eq_true rfl, Nat.le_of_ble_eq_true rfl⟩) (g_recv hK hP kk_Tri ce_Tri rfl) rfl hl.1 rfl (Nat.le_of_ble_eq_true rfl) dL_asked_281 ⟨Nat.le_of_ble_eq_true rfl, Nat.le_of_ble_eq_true rfl⟩ (fun H locs hP hO hS => ?_)
    refine W.widen (k := 3) (n := 18) (Nat.le_of_ble_eq_true rfl) (Nat.le_of_ble_eq_true rfl) ?_
    refine vx_ret ?_
    exact W.iret (v := r1) hx hb hr (fun t ht hW => ⟨⟨r1, (), rfl, rfl, by subst ht; exact hP⟩, hS.F ht⟩) hS.2.2 dL_asked_284
  · refine h_cVx (As := [.int (f 0)]) (rest := []) hx hb hml hown hts hK hX (fun a h => h) hP hO (i_dis ha) hS (mX8_clock l hlf hJ hp) (cwV 1 hts gL_asked_X8_clock rfl rfl rfl nVX8_clock ⟨Nat.le_of_ble_eq_true rfl, Nat.le_of_ble_eq_true rfl⟩) (g_recv hK hP kk_Tri ce_Tri rfl) rfl hl.1 rfl (Nat.le_of_ble_eq_true rfl) dL_asked_281 ⟨Nat.le_of_ble_eq_true rfl, Nat.le_of_ble_eq_true rfl⟩ (fun ce q9 H locs hP hO hS g1 g2 g3 => ?_)
    exact vx_out (fun x hx => (hex x hx).elim) hlocks g1 g2 g3 (fun t ht hvm => ⟨(), trivial, ⟨⟨k1, rfl, rfl⟩, by rw [ht]; exact hP⟩, hS.F ht⟩) hS.2.2 (Nat.le_of_ble_eq_true rfl) (Nat.le_of_ble_eq_true rfl)
set_option maxHeartbeats 4000000 in
set_option maxRecDepth 100000 in
theorem mL_asked_save {D : va_G} {cy : Nat → ClassId} {q : Nat → Nat} (l : Launch) (hlf : l.stackTraces = false) (hJ : gJ 78 q) {a : Nat} (ha : ¬ gA 78 q a) {f : Nat → Int32} {σ : TS} {z : Int32 ⊕ Nat} {u : TS} (hp : sX8_save (f 0) (if f 1 = 1 then 1 else 0) σ = some (z, u)) : vx_Met l yL_asked wsL_asked rmL_asked (va_Pc [.ref (q 0), .int (86 : Int32), .ref a] (hPre D vwCl (tyL cy) (gS 78 q (TX cy q) σ) (iW a cy 2 f) (gA 78 q))) (gQx D vwCl z (gS 78 q (TX cy q) u) (gA 78 q)) (gXx D vwCl z (gS 78 q (TX cy q) u) (gA 78 q)) 3 18 (gA 78 q) := by
  refine vx_ofW (cc := cL_asked) (maxL := 3) (ret := (some .int)) (by decide +kernel) rfl ?_
  intro p e s m args below meth c s₁ B hml hex hv
  obtain ⟨rfl, ⟨hP, hO, hK⟩, hX, hNt⟩ := hv
  have hx := B.exec
  have hb := B.bytes
  have hr := B.returns
  have hlocks := B.notSynchronized
  have hts := atoms_spec (ws := wsL_asked) B.pre
  have hown : s.vm.findClass RL = some m.cls := findClass_of_methodNamed B.named
  have hS : va_S (gA 78 q) s.heap s.heap [] := va_S.rf
  have hl := lv_entry ([.ref (q 0), .int (86 : Int32), .ref a]) (n := 3) (Nat.le_of_ble_eq_true rfl)
  rw [lg_entry_eq]
  generalize (lg_sl ([.ref (q 0), .int (86 : Int32), .ref a]) ++ List.replicate (3 - (lg_sl ([.ref (q 0), .int (86 : Int32), .ref a])).length) Slot.unset).toArray = ls at hl ⊢
  have hl : lv_has ls 3 [(0, .ref (q 0)), (1, .int (86 : Int32)), (2, .ref a)] := hl
  refine lv_iload_n hx hb dL_asked_0 rfl (lv_at hl 1 rfl) ?_
  refine g_sw hx hb (off := 284) (tgt := 285) dL_asked_1 (by decide) (by decide) (by decide) ?_
  refine lv_aload_n hx hb dL_asked_285 rfl (lv_at hl 0 rfl) ?_
  refine lv_aload_n hx hb dL_asked_286 rfl (lv_at hl 2 rfl) ?_
  refine lv_iconst (v := (0 : Int32)) hx hb dL_asked_287 (by decide) ?_
  refine h_ild (j := 0) hx hb hK hO (by decide) rfl dL_asked_288 ?_
  refine lv_aload_n hx hb dL_asked_289 rfl (lv_at hl 2 rfl) ?_
  refine lv_iconst (v := (1 : Int32)) hx hb dL_asked_290 (by decide) ?_
  refine h_ild (j := 1) hx hb hK hO (by decide) rfl dL_asked_291 ?_
  refine lv_iconst (v := (1 : Int32)) hx hb dL_asked_292 (by decide) ?_
  refine lv_icmp_ne (tgt := 300) hx hb dL_asked_293 (by decide) (fun hn => ?_) (fun hn => ?_)
  · rw [if_neg hn] at hp
    refine lv_iconst (v := (0 : Int32)) hx hb dL_asked_300 (by decide) ?_
    rcases z with r1 | k1
    · refine h_cVi (As := [.int (f 0), .int (0 : Int32)]) (rest := []) hx hb hml hown hts hK hX (fun a h => h) hP hO (i_dis ha) hS (mX8_save l hlf hJ hp) (cwV 2 hts gL_asked_X8_save rfl rfl rfl nVX8_save ⟨Nat.le_of_ble_eq_true rfl, Nat.le_of_ble_eq_true rfl⟩) (g_recv hK hP kk_Tri ce_Tri rfl) rfl hl.1 rfl (Nat.le_of_ble_eq_true rfl) dL_asked_301 ⟨Nat.le_of_ble_eq_true rfl, Nat.le_of_ble_eq_true rfl⟩ (fun H locs hP hO hS => ?_)
      refine W.widen (k := 3) (n := 18) (Nat.le_of_ble_eq_true rfl) (Nat.le_of_ble_eq_true rfl) ?_
      refine vx_ret ?_
      exact W.iret (v := r1) hx hb hr (fun t ht hW => ⟨⟨r1, (), rfl, rfl, by subst ht; exact hP⟩, hS.F ht⟩) hS.2.2 dL_asked_304
    · refine h_cVx (As := [.int (f 0), .int (0 : Int32)]) (rest := []) hx hb hml hown hts hK hX (fun a h => h) hP hO (i_dis ha) hS (mX8_save l hlf hJ hp) (cwV 2 hts gL_asked_X8_save rfl rfl rfl nVX8_save ⟨Nat.le_of_ble_eq_true rfl, Nat.le_of_ble_eq_true rfl⟩) (g_recv hK hP kk_Tri ce_Tri rfl) rfl hl.1 rfl (Nat.le_of_ble_eq_true rfl) dL_asked_301 ⟨Nat.le_of_ble_eq_true rfl, Nat.le_of_ble_eq_true rfl⟩ (fun ce q9 H locs hP hO hS g1 g2 g3 => ?_)
      exact vx_out (fun x hx => (hex x hx).elim) hlocks g1 g2 g3 (fun t ht hvm => ⟨(), trivial, ⟨⟨k1, rfl, rfl⟩, by rw [ht]; exact hP⟩, hS.F ht⟩) hS.2.2 (Nat.le_of_ble_eq_true rfl) (Nat.le_of_ble_eq_true rfl)
  · rw [if_pos hn] at hp
    refine lv_iconst (v := (1 : Int32)) hx hb dL_asked_296 (by decide) ?_
    refine lv_goto (tgt := 301) hx hb dL_asked_297 (by decide) ?_
    rcases z with r1 | k1
    · refine h_cVi (As := [.int (f 0), .int (1 : Int32)]) (rest := []) hx hb hml hown hts hK hX (fun a h => h) hP hO (i_dis ha) hS (mX8_save l hlf hJ hp) (cwV 2 hts gL_asked_X8_save rfl rfl rfl nVX8_save ⟨Nat.le_of_ble_eq_true rfl, Nat.le_of_ble_eq_true rfl⟩) (g_recv hK hP kk_Tri ce_Tri rfl) rfl hl.1 rfl (Nat.le_of_ble_eq_true rfl) dL_asked_301 ⟨Nat.le_of_ble_eq_true rfl, Nat.le_of_ble_eq_true rfl⟩ (fun H locs hP hO hS => ?_)
      refine W.widen (k := 3) (n := 18) (Nat.le_of_ble_eq_true rfl) (Nat.le_of_ble_eq_true rfl) ?_
      refine vx_ret ?_
      exact W.iret (v := r1) hx hb hr (fun t ht hW => ⟨⟨r1, (), rfl, rfl, by subst ht; exact hP⟩, hS.F ht⟩) hS.2.2 dL_asked_304
    · refine h_cVx (As := [.int (f 0), .int (1 : Int32)]) (rest := []) hx hb hml hown hts hK hX (fun a h => h) hP hO (i_dis ha) hS (mX8_save l hlf hJ hp) (cwV 2 hts gL_asked_X8_save rfl rfl rfl nVX8_save ⟨Nat.le_of_ble_eq_true rfl, Nat.le_of_ble_eq_true rfl⟩) (g_recv hK hP kk_Tri ce_Tri rfl) rfl hl.1 rfl (Nat.le_of_ble_eq_true rfl) dL_asked_301 ⟨Nat.le_of_ble_eq_true rfl, Nat.le_of_ble_eq_true rfl⟩ (fun ce q9 H locs hP hO hS g1 g2 g3 => ?_)
      exact vx_out (fun x hx => (hex x hx).elim) hlocks g1 g2 g3 (fun t ht hvm => ⟨(), trivial, ⟨⟨k1, rfl, rfl⟩, by rw [ht]; exact hP⟩, hS.F ht⟩) hS.2.2 (Nat.le_of_ble_eq_true rfl) (Nat.le_of_ble_eq_true rfl)
set_option maxHeartbeats 4000000 in
set_option maxRecDepth 100000 in
theorem mL_asked_load {D : va_G} {cy : Nat → ClassId} {q : Nat → Nat} (l : Launch) (hlf : l.stackTraces = false) (hJ : gJ 78 q) {a : Nat} (ha : ¬ gA 78 q a) {f : Nat → Int32} {σ : TS} {z : Int32 ⊕ Nat} {u : TS} (hp : sX8_load (f 0) σ = some (z, u)) : vx_Met l yL_asked wsL_asked rmL_asked (va_Pc [.ref (q 0), .int (76 : Int32), .ref a] (hPre D vwCl (tyL cy) (gS 78 q (TX cy q) σ) (iW a cy 1 f) (gA 78 q))) (gQx D vwCl z (gS 78 q (TX cy q) u) (gA 78 q)) (gXx D vwCl z (gS 78 q (TX cy q) u) (gA 78 q)) 3 18 (gA 78 q) := by
  refine vx_ofW (cc := cL_asked) (maxL := 3) (ret := (some .int)) (by decide +kernel) rfl ?_
  intro p e s m args below meth c s₁ B hml hex hv
  obtain ⟨rfl, ⟨hP, hO, hK⟩, hX, hNt⟩ := hv
  have hx := B.exec
  have hb := B.bytes
  have hr := B.returns
  have hlocks := B.notSynchronized
  have hts := atoms_spec (ws := wsL_asked) B.pre
  have hown : s.vm.findClass RL = some m.cls := findClass_of_methodNamed B.named
  have hS : va_S (gA 78 q) s.heap s.heap [] := va_S.rf
  have hl := lv_entry ([.ref (q 0), .int (76 : Int32), .ref a]) (n := 3) (Nat.le_of_ble_eq_true rfl)
  rw [lg_entry_eq]
  generalize (lg_sl ([.ref (q 0), .int (76 : Int32), .ref a]) ++ List.replicate (3 - (lg_sl ([.ref (q 0), .int (76 : Int32), .ref a])).length) Slot.unset).toArray = ls at hl ⊢
  have hl : lv_has ls 3 [(0, .ref (q 0)), (1, .int (76 : Int32)), (2, .ref a)] := hl
  refine lv_iload_n hx hb dL_asked_0 rfl (lv_at hl 1 rfl) ?_
  refine g_sw hx hb (off := 304) (tgt := 305) dL_asked_1 (by decide) (by decide) (by decide) ?_
  refine lv_aload_n hx hb dL_asked_305 rfl (lv_at hl 0 rfl) ?_
  refine lv_aload_n hx hb dL_asked_306 rfl (lv_at hl 2 rfl) ?_
  refine lv_iconst (v := (0 : Int32)) hx hb dL_asked_307 (by decide) ?_
  refine h_ild (j := 0) hx hb hK hO (by decide) rfl dL_asked_308 ?_
  rcases z with r1 | k1
  · refine h_cVi (As := [.int (f 0)]) (rest := []) hx hb hml hown hts hK hX (fun a h => h) hP hO (i_dis ha) hS (mX8_load l hlf hJ hp) (cwV 1 hts gL_asked_X8_load rfl rfl rfl nVX8_load ⟨Nat.le_of_ble_eq_true rfl, Nat.le_of_ble_eq_true rfl⟩) (g_recv hK hP kk_Tri ce_Tri rfl) rfl hl.1 rfl (Nat.le_of_ble_eq_true rfl) dL_asked_309 ⟨Nat.le_of_ble_eq_true rfl, Nat.le_of_ble_eq_true rfl⟩ (fun H locs hP hO hS => ?_)
    refine W.widen (k := 3) (n := 18) (Nat.le_of_ble_eq_true rfl) (Nat.le_of_ble_eq_true rfl) ?_
    refine vx_ret ?_
    exact W.iret (v := r1) hx hb hr (fun t ht hW => ⟨⟨r1, (), rfl, rfl, by subst ht; exact hP⟩, hS.F ht⟩) hS.2.2 dL_asked_312
  · refine h_cVx (As := [.int (f 0)]) (rest := []) hx hb hml hown hts hK hX (fun a h => h) hP hO (i_dis ha) hS (mX8_load l hlf hJ hp) (cwV 1 hts gL_asked_X8_load rfl rfl rfl nVX8_load ⟨Nat.le_of_ble_eq_true rfl, Nat.le_of_ble_eq_true rfl⟩) (g_recv hK hP kk_Tri ce_Tri rfl) rfl hl.1 rfl (Nat.le_of_ble_eq_true rfl) dL_asked_309 ⟨Nat.le_of_ble_eq_true rfl, Nat.le_of_ble_eq_true rfl⟩ (fun ce q9 H locs hP hO hS g1 g2 g3 => ?_)
    exact vx_out (fun x hx => (hex x hx).elim) hlocks g1 g2 g3 (fun t ht hvm => ⟨(), trivial, ⟨⟨k1, rfl, rfl⟩, by rw [ht]; exact hP⟩, hS.F ht⟩) hS.2.2 (Nat.le_of_ble_eq_true rfl) (Nat.le_of_ble_eq_true rfl)
set_option maxHeartbeats 4000000 in
set_option maxRecDepth 100000 in
theorem mL_asked_fault {D : va_G} {cy : Nat → ClassId} {q : Nat → Nat} (l : Launch) (hlf : l.stackTraces = false) (hJ : gJ 78 q) {a : Nat} (ha : ¬ gA 78 q a) {f : Nat → Int32} {σ : TS} {z : Int32 ⊕ Nat} {u : TS} (hp : sX8_fault (f 0) (f 1) (f 2) σ = some (z, u)) : vx_Met l yL_asked wsL_asked rmL_asked (va_Pc [.ref (q 0), .int (70 : Int32), .ref a] (hPre D vwCl (tyL cy) (gS 78 q (TX cy q) σ) (iW a cy 3 f) (gA 78 q))) (gQx D vwCl z (gS 78 q (TX cy q) u) (gA 78 q)) (gXx D vwCl z (gS 78 q (TX cy q) u) (gA 78 q)) 3 18 (gA 78 q) := by
  refine vx_ofW (cc := cL_asked) (maxL := 3) (ret := (some .int)) (by decide +kernel) rfl ?_
  intro p e s m args below meth c s₁ B hml hex hv
  obtain ⟨rfl, ⟨hP, hO, hK⟩, hX, hNt⟩ := hv
  have hx := B.exec
  have hb := B.bytes
  have hr := B.returns
  have hlocks := B.notSynchronized
  have hts := atoms_spec (ws := wsL_asked) B.pre
  have hown : s.vm.findClass RL = some m.cls := findClass_of_methodNamed B.named
  have hS : va_S (gA 78 q) s.heap s.heap [] := va_S.rf
  have hl := lv_entry ([.ref (q 0), .int (70 : Int32), .ref a]) (n := 3) (Nat.le_of_ble_eq_true rfl)
  rw [lg_entry_eq]
  generalize (lg_sl ([.ref (q 0), .int (70 : Int32), .ref a]) ++ List.replicate (3 - (lg_sl ([.ref (q 0), .int (70 : Int32), .ref a])).length) Slot.unset).toArray = ls at hl ⊢
  have hl : lv_has ls 3 [(0, .ref (q 0)), (1, .int (70 : Int32)), (2, .ref a)] := hl
  refine lv_iload_n hx hb dL_asked_0 rfl (lv_at hl 1 rfl) ?_
  refine g_sw hx hb (off := 312) (tgt := 313) dL_asked_1 (by decide) (by decide) (by decide) ?_
  refine lv_aload_n hx hb dL_asked_313 rfl (lv_at hl 0 rfl) ?_
  refine lv_aload_n hx hb dL_asked_314 rfl (lv_at hl 2 rfl) ?_
  refine lv_iconst (v := (0 : Int32)) hx hb dL_asked_315 (by decide) ?_
  refine h_ild (j := 0) hx hb hK hO (by decide) rfl dL_asked_316 ?_
  refine lv_aload_n hx hb dL_asked_317 rfl (lv_at hl 2 rfl) ?_
  refine lv_iconst (v := (1 : Int32)) hx hb dL_asked_318 (by decide) ?_
  refine h_ild (j := 1) hx hb hK hO (by decide) rfl dL_asked_319 ?_
  refine lv_aload_n hx hb dL_asked_320 rfl (lv_at hl 2 rfl) ?_
  refine lv_iconst (v := (2 : Int32)) hx hb dL_asked_321 (by decide) ?_
  refine h_ild (j := 2) hx hb hK hO (by decide) rfl dL_asked_322 ?_
  rcases z with r1 | k1
  · refine h_cVi (As := [.int (f 0), .int (f 1), .int (f 2)]) (rest := []) hx hb hml hown hts hK hX (fun a h => h) hP hO (i_dis ha) hS (mX8_fault l hlf hJ hp) (cwV 3 hts gL_asked_X8_fault rfl rfl rfl nVX8_fault ⟨Nat.le_of_ble_eq_true rfl, Nat.le_of_ble_eq_true rfl⟩) (g_recv hK hP kk_Tri ce_Tri rfl) rfl hl.1 rfl (Nat.le_of_ble_eq_true rfl) dL_asked_323 ⟨Nat.le_of_ble_eq_true rfl, Nat.le_of_ble_eq_true rfl⟩ (fun H locs hP hO hS => ?_)
    refine W.widen (k := 3) (n := 18) (Nat.le_of_ble_eq_true rfl) (Nat.le_of_ble_eq_true rfl) ?_
    refine vx_ret ?_
    exact W.iret (v := r1) hx hb hr (fun t ht hW => ⟨⟨r1, (), rfl, rfl, by subst ht; exact hP⟩, hS.F ht⟩) hS.2.2 dL_asked_326
  · refine h_cVx (As := [.int (f 0), .int (f 1), .int (f 2)]) (rest := []) hx hb hml hown hts hK hX (fun a h => h) hP hO (i_dis ha) hS (mX8_fault l hlf hJ hp) (cwV 3 hts gL_asked_X8_fault rfl rfl rfl nVX8_fault ⟨Nat.le_of_ble_eq_true rfl, Nat.le_of_ble_eq_true rfl⟩) (g_recv hK hP kk_Tri ce_Tri rfl) rfl hl.1 rfl (Nat.le_of_ble_eq_true rfl) dL_asked_323 ⟨Nat.le_of_ble_eq_true rfl, Nat.le_of_ble_eq_true rfl⟩ (fun ce q9 H locs hP hO hS g1 g2 g3 => ?_)
    exact vx_out (fun x hx => (hex x hx).elim) hlocks g1 g2 g3 (fun t ht hvm => ⟨(), trivial, ⟨⟨k1, rfl, rfl⟩, by rw [ht]; exact hP⟩, hS.F ht⟩) hS.2.2 (Nat.le_of_ble_eq_true rfl) (Nat.le_of_ble_eq_true rfl)
set_option maxHeartbeats 4000000 in
set_option maxRecDepth 100000 in
theorem mL_asked_position {D : va_G} {cy : Nat → ClassId} {q : Nat → Nat} (l : Launch) (hlf : l.stackTraces = false) (hJ : gJ 78 q) {a : Nat} (ha : ¬ gA 78 q a) {f : Nat → Int32} {σ : TS} {z : Int32 ⊕ Nat} {u : TS} (hp : sX8_position (f 0) σ = some (z, u)) : vx_Met l yL_asked wsL_asked rmL_asked (va_Pc [.ref (q 0), .int (80 : Int32), .ref a] (hPre D vwCl (tyL cy) (gS 78 q (TX cy q) σ) (iW a cy 1 f) (gA 78 q))) (gQx D vwCl z (gS 78 q (TX cy q) u) (gA 78 q)) (gXx D vwCl z (gS 78 q (TX cy q) u) (gA 78 q)) 3 18 (gA 78 q) := by
  refine vx_ofW (cc := cL_asked) (maxL := 3) (ret := (some .int)) (by decide +kernel) rfl ?_
  intro p e s m args below meth c s₁ B hml hex hv
  obtain ⟨rfl, ⟨hP, hO, hK⟩, hX, hNt⟩ := hv
  have hx := B.exec
  have hb := B.bytes
  have hr := B.returns
  have hlocks := B.notSynchronized
  have hts := atoms_spec (ws := wsL_asked) B.pre
  have hown : s.vm.findClass RL = some m.cls := findClass_of_methodNamed B.named
  have hS : va_S (gA 78 q) s.heap s.heap [] := va_S.rf
  have hl := lv_entry ([.ref (q 0), .int (80 : Int32), .ref a]) (n := 3) (Nat.le_of_ble_eq_true rfl)
  rw [lg_entry_eq]
  generalize (lg_sl ([.ref (q 0), .int (80 : Int32), .ref a]) ++ List.replicate (3 - (lg_sl ([.ref (q 0), .int (80 : Int32), .ref a])).length) Slot.unset).toArray = ls at hl ⊢
  have hl : lv_has ls 3 [(0, .ref (q 0)), (1, .int (80 : Int32)), (2, .ref a)] := hl
  refine lv_iload_n hx hb dL_asked_0 rfl (lv_at hl 1 rfl) ?_
  refine g_sw hx hb (off := 326) (tgt := 327) dL_asked_1 (by decide) (by decide) (by decide) ?_
  refine lv_aload_n hx hb dL_asked_327 rfl (lv_at hl 0 rfl) ?_
  refine lv_aload_n hx hb dL_asked_328 rfl (lv_at hl 2 rfl) ?_
  refine lv_iconst (v := (0 : Int32)) hx hb dL_asked_329 (by decide) ?_
  refine h_ild (j := 0) hx hb hK hO (by decide) rfl dL_asked_330 ?_
  rcases z with r1 | k1
  · refine h_cVi (As := [.int (f 0)]) (rest := []) hx hb hml hown hts hK hX (fun a h => h) hP hO (i_dis ha) hS (mX8_position l hlf hJ hp) (cwV 1 hts gL_asked_X8_position rfl rfl rfl nVX8_position ⟨Nat.le_of_ble_eq_true rfl, Nat.le_of_ble_eq_true rfl⟩) (g_recv hK hP kk_Tri ce_Tri rfl) rfl hl.1 rfl (Nat.le_of_ble_eq_true rfl) dL_asked_331 ⟨Nat.le_of_ble_eq_true rfl, Nat.le_of_ble_eq_true rfl⟩ (fun H locs hP hO hS => ?_)
    refine W.widen (k := 3) (n := 18) (Nat.le_of_ble_eq_true rfl) (Nat.le_of_ble_eq_true rfl) ?_
    refine vx_ret ?_
    exact W.iret (v := r1) hx hb hr (fun t ht hW => ⟨⟨r1, (), rfl, rfl, by subst ht; exact hP⟩, hS.F ht⟩) hS.2.2 dL_asked_334
  · refine h_cVx (As := [.int (f 0)]) (rest := []) hx hb hml hown hts hK hX (fun a h => h) hP hO (i_dis ha) hS (mX8_position l hlf hJ hp) (cwV 1 hts gL_asked_X8_position rfl rfl rfl nVX8_position ⟨Nat.le_of_ble_eq_true rfl, Nat.le_of_ble_eq_true rfl⟩) (g_recv hK hP kk_Tri ce_Tri rfl) rfl hl.1 rfl (Nat.le_of_ble_eq_true rfl) dL_asked_331 ⟨Nat.le_of_ble_eq_true rfl, Nat.le_of_ble_eq_true rfl⟩ (fun ce q9 H locs hP hO hS g1 g2 g3 => ?_)
    exact vx_out (fun x hx => (hex x hx).elim) hlocks g1 g2 g3 (fun t ht hvm => ⟨(), trivial, ⟨⟨k1, rfl, rfl⟩, by rw [ht]; exact hP⟩, hS.F ht⟩) hS.2.2 (Nat.le_of_ble_eq_true rfl) (Nat.le_of_ble_eq_true rfl)
set_option maxHeartbeats 4000000 in
set_option maxRecDepth 100000 in
theorem mL_asked_hasLetGo {D : va_G} {cy : Nat → ClassId} {q : Nat → Nat} (l : Launch) (hlf : l.stackTraces = false) (hJ : gJ 78 q) {a : Nat} (ha : ¬ gA 78 q a) {f : Nat → Int32} {σ : TS} {z : Int32 ⊕ Nat} {u : TS} (hp : sX8_hasLetGo (f 0) σ = some (z, u)) : vx_Met l yL_asked wsL_asked rmL_asked (va_Pc [.ref (q 0), .int (103 : Int32), .ref a] (hPre D vwCl (tyL cy) (gS 78 q (TX cy q) σ) (iW a cy 1 f) (gA 78 q))) (gQx D vwCl (zB z) (gS 78 q (TX cy q) u) (gA 78 q)) (gXx D vwCl (zB z) (gS 78 q (TX cy q) u) (gA 78 q)) 3 18 (gA 78 q) := by
  refine vx_ofW (cc := cL_asked) (maxL := 3) (ret := (some .int)) (by decide +kernel) rfl ?_
  intro p e s m args below meth c s₁ B hml hex hv
  obtain ⟨rfl, ⟨hP, hO, hK⟩, hX, hNt⟩ := hv
  have hx := B.exec
  have hb := B.bytes
  have hr := B.returns
  have hlocks := B.notSynchronized
  have hts := atoms_spec (ws := wsL_asked) B.pre
  have hown : s.vm.findClass RL = some m.cls := findClass_of_methodNamed B.named
  have hS : va_S (gA 78 q) s.heap s.heap [] := va_S.rf
  have hl := lv_entry ([.ref (q 0), .int (103 : Int32), .ref a]) (n := 3) (Nat.le_of_ble_eq_true rfl)
  rw [lg_entry_eq]
  generalize (lg_sl ([.ref (q 0), .int (103 : Int32), .ref a]) ++ List.replicate (3 - (lg_sl ([.ref (q 0), .int (103 : Int32), .ref a])).length) Slot.unset).toArray = ls at hl ⊢
  have hl : lv_has ls 3 [(0, .ref (q 0)), (1, .int (103 : Int32)), (2, .ref a)] := hl
  refine lv_iload_n hx hb dL_asked_0 rfl (lv_at hl 1 rfl) ?_
  refine g_sw hx hb (off := 334) (tgt := 335) dL_asked_1 (by decide) (by decide) (by decide) ?_
  refine lv_aload_n hx hb dL_asked_335 rfl (lv_at hl 0 rfl) ?_
  refine lv_aload_n hx hb dL_asked_336 rfl (lv_at hl 2 rfl) ?_
  refine lv_iconst (v := (0 : Int32)) hx hb dL_asked_337 (by decide) ?_
  refine h_ild (j := 0) hx hb hK hO (by decide) rfl dL_asked_338 ?_
  rcases z with r1 | k1
  · refine h_cVi (As := [.int (f 0)]) (rest := []) hx hb hml hown hts hK hX (fun a h => h) hP hO (i_dis ha) hS (mX8_hasLetGo l hlf hJ hp) (cwV 1 hts gL_asked_X8_hasLetGo rfl rfl rfl nVX8_hasLetGo ⟨Nat.le_of_ble_eq_true rfl, Nat.le_of_ble_eq_true rfl⟩) (g_recv hK hP kk_Tri ce_Tri rfl) rfl hl.1 rfl (Nat.le_of_ble_eq_true rfl) dL_asked_339 ⟨Nat.le_of_ble_eq_true rfl, Nat.le_of_ble_eq_true rfl⟩ (fun H locs hP hO hS => ?_)
    refine lv_if_eq (tgt := 349) hx hb dL_asked_342 (by decide) (fun h0 => ?_) (fun h0 => ?_)
    · refine lv_iconst (v := (0 : Int32)) hx hb dL_asked_349 (by decide) ?_
      refine W.widen (k := 3) (n := 18) (Nat.le_of_ble_eq_true rfl) (Nat.le_of_ble_eq_true rfl) ?_
      refine vx_ret ?_
      exact W.iret (v := (0 : Int32)) hx hb hr (fun t ht hW => ⟨⟨(0 : Int32), (), rfl, congrArg Sum.inl (if_pos h0), by subst ht; exact hP⟩, hS.F ht⟩) hS.2.2 dL_asked_350
    · refine lv_iconst (v := (1 : Int32)) hx hb dL_asked_345 (by decide) ?_
      refine lv_goto (tgt := 350) hx hb dL_asked_346 (by decide) ?_
      refine W.widen (k := 3) (n := 18) (Nat.le_of_ble_eq_true rfl) (Nat.le_of_ble_eq_true rfl) ?_
      refine vx_ret ?_
      exact W.iret (v := (1 : Int32)) hx hb hr (fun t ht hW => ⟨⟨(1 : Int32), (), rfl, congrArg Sum.inl (if_neg h0), by subst ht; exact hP⟩, hS.F ht⟩) hS.2.2 dL_asked_350
  · refine h_cVx (As := [.int (f 0)]) (rest := []) hx hb hml hown hts hK hX (fun a h => h) hP hO (i_dis ha) hS (mX8_hasLetGo l hlf hJ hp) (cwV 1 hts gL_asked_X8_hasLetGo rfl rfl rfl nVX8_hasLetGo ⟨Nat.le_of_ble_eq_true rfl, Nat.le_of_ble_eq_true rfl⟩) (g_recv hK hP kk_Tri ce_Tri rfl) rfl hl.1 rfl (Nat.le_of_ble_eq_true rfl) dL_asked_339 ⟨Nat.le_of_ble_eq_true rfl, Nat.le_of_ble_eq_true rfl⟩ (fun ce q9 H locs hP hO hS g1 g2 g3 => ?_)
    exact vx_out (fun x hx => (hex x hx).elim) hlocks g1 g2 g3 (fun t ht hvm => ⟨(), trivial, ⟨⟨k1, rfl, rfl⟩, by rw [ht]; exact hP⟩, hS.F ht⟩) hS.2.2 (Nat.le_of_ble_eq_true rfl) (Nat.le_of_ble_eq_true rfl)
set_option maxHeartbeats 4000000 in
set_option maxRecDepth 100000 in
theorem mL_asked_arm {D : va_G} {cy : Nat → ClassId} {q : Nat → Nat} (l : Launch) (hlf : l.stackTraces = false) (hJ : gJ 78 q) {a : Nat} (ha : ¬ gA 78 q a) {f : Nat → Int32} {σ : TS} {z : Int32 ⊕ Nat} {u : TS} (hp : sX8_arm (lchr (f 0)) σ = some (z, u)) : vx_Met l yL_asked wsL_asked rmL_asked (va_Pc [.ref (q 0), .int (65 : Int32), .ref a] (hPre D vwCl (tyL cy) (gS 78 q (TX cy q) σ) (iW a cy 1 f) (gA 78 q))) (gQx D vwCl z (gS 78 q (TX cy q) u) (gA 78 q)) (gXx D vwCl z (gS 78 q (TX cy q) u) (gA 78 q)) 3 18 (gA 78 q) := by
  refine vx_ofW (cc := cL_asked) (maxL := 3) (ret := (some .int)) (by decide +kernel) rfl ?_
  intro p e s m args below meth c s₁ B hml hex hv
  obtain ⟨rfl, ⟨hP, hO, hK⟩, hX, hNt⟩ := hv
  have hx := B.exec
  have hb := B.bytes
  have hr := B.returns
  have hlocks := B.notSynchronized
  have hts := atoms_spec (ws := wsL_asked) B.pre
  have hown : s.vm.findClass RL = some m.cls := findClass_of_methodNamed B.named
  have hS : va_S (gA 78 q) s.heap s.heap [] := va_S.rf
  have hl := lv_entry ([.ref (q 0), .int (65 : Int32), .ref a]) (n := 3) (Nat.le_of_ble_eq_true rfl)
  rw [lg_entry_eq]
  generalize (lg_sl ([.ref (q 0), .int (65 : Int32), .ref a]) ++ List.replicate (3 - (lg_sl ([.ref (q 0), .int (65 : Int32), .ref a])).length) Slot.unset).toArray = ls at hl ⊢
  have hl : lv_has ls 3 [(0, .ref (q 0)), (1, .int (65 : Int32)), (2, .ref a)] := hl
  refine lv_iload_n hx hb dL_asked_0 rfl (lv_at hl 1 rfl) ?_
  refine g_sw hx hb (off := 350) (tgt := 351) dL_asked_1 (by decide) (by decide) (by decide) ?_
  refine lv_aload_n hx hb dL_asked_351 rfl (lv_at hl 0 rfl) ?_
  refine lv_aload_n hx hb dL_asked_352 rfl (lv_at hl 2 rfl) ?_
  refine lv_iconst (v := (0 : Int32)) hx hb dL_asked_353 (by decide) ?_
  refine h_ild (j := 0) hx hb hK hO (by decide) rfl dL_asked_354 ?_
  refine lv_i2c (v := lchr (f 0)) hx hb dL_asked_355 rfl ?_
  rcases z with r1 | k1
  · refine h_cVi (As := [.int (lchr (f 0))]) (rest := []) hx hb hml hown hts hK hX (fun a h => h) hP hO (i_dis ha) hS (mX8_arm l hlf hJ hp) (cwV 1 hts gL_asked_X8_arm rfl rfl rfl nVX8_arm ⟨Nat.le_of_ble_eq_true rfl, Nat.le_of_ble_eq_true rfl⟩) (g_recv hK hP kk_Tri ce_Tri rfl) rfl hl.1 rfl (Nat.le_of_ble_eq_true rfl) dL_asked_356 ⟨Nat.le_of_ble_eq_true rfl, Nat.le_of_ble_eq_true rfl⟩ (fun H locs hP hO hS => ?_)
    refine W.widen (k := 3) (n := 18) (Nat.le_of_ble_eq_true rfl) (Nat.le_of_ble_eq_true rfl) ?_
    refine vx_ret ?_
    exact W.iret (v := r1) hx hb hr (fun t ht hW => ⟨⟨r1, (), rfl, rfl, by subst ht; exact hP⟩, hS.F ht⟩) hS.2.2 dL_asked_359
  · refine h_cVx (As := [.int (lchr (f 0))]) (rest := []) hx hb hml hown hts hK hX (fun a h => h) hP hO (i_dis ha) hS (mX8_arm l hlf hJ hp) (cwV 1 hts gL_asked_X8_arm rfl rfl rfl nVX8_arm ⟨Nat.le_of_ble_eq_true rfl, Nat.le_of_ble_eq_true rfl⟩) (g_recv hK hP kk_Tri ce_Tri rfl) rfl hl.1 rfl (Nat.le_of_ble_eq_true rfl) dL_asked_356 ⟨Nat.le_of_ble_eq_true rfl, Nat.le_of_ble_eq_true rfl⟩ (fun ce q9 H locs hP hO hS g1 g2 g3 => ?_)
    exact vx_out (fun x hx => (hex x hx).elim) hlocks g1 g2 g3 (fun t ht hvm => ⟨(), trivial, ⟨⟨k1, rfl, rfl⟩, by rw [ht]; exact hP⟩, hS.F ht⟩) hS.2.2 (Nat.le_of_ble_eq_true rfl) (Nat.le_of_ble_eq_true rfl)
set_option maxHeartbeats 4000000 in
set_option maxRecDepth 100000 in
theorem mL_asked_give {D : va_G} {cy : Nat → ClassId} {q : Nat → Nat} (l : Launch) (hlf : l.stackTraces = false) (hJ : gJ 78 q) {a : Nat} (ha : ¬ gA 78 q a) {f : Nat → Int32} {σ : TS} {z : Int32 ⊕ Nat} {u : TS} (hp : sX8_give (lchr (f 0)) σ = some (z, u)) : vx_Met l yL_asked wsL_asked rmL_asked (va_Pc [.ref (q 0), .int (71 : Int32), .ref a] (hPre D vwCl (tyL cy) (gS 78 q (TX cy q) σ) (iW a cy 1 f) (gA 78 q))) (gQx D vwCl z (gS 78 q (TX cy q) u) (gA 78 q)) (gXx D vwCl z (gS 78 q (TX cy q) u) (gA 78 q)) 3 18 (gA 78 q) := by
  refine vx_ofW (cc := cL_asked) (maxL := 3) (ret := (some .int)) (by decide +kernel) rfl ?_
  intro p e s m args below meth c s₁ B hml hex hv
  obtain ⟨rfl, ⟨hP, hO, hK⟩, hX, hNt⟩ := hv
  have hx := B.exec
  have hb := B.bytes
  have hr := B.returns
  have hlocks := B.notSynchronized
  have hts := atoms_spec (ws := wsL_asked) B.pre
  have hown : s.vm.findClass RL = some m.cls := findClass_of_methodNamed B.named
  have hS : va_S (gA 78 q) s.heap s.heap [] := va_S.rf
  have hl := lv_entry ([.ref (q 0), .int (71 : Int32), .ref a]) (n := 3) (Nat.le_of_ble_eq_true rfl)
  rw [lg_entry_eq]
  generalize (lg_sl ([.ref (q 0), .int (71 : Int32), .ref a]) ++ List.replicate (3 - (lg_sl ([.ref (q 0), .int (71 : Int32), .ref a])).length) Slot.unset).toArray = ls at hl ⊢
  have hl : lv_has ls 3 [(0, .ref (q 0)), (1, .int (71 : Int32)), (2, .ref a)] := hl
  refine lv_iload_n hx hb dL_asked_0 rfl (lv_at hl 1 rfl) ?_
  refine g_sw hx hb (off := 359) (tgt := 360) dL_asked_1 (by decide) (by decide) (by decide) ?_
  refine lv_aload_n hx hb dL_asked_360 rfl (lv_at hl 0 rfl) ?_
  refine lv_aload_n hx hb dL_asked_361 rfl (lv_at hl 2 rfl) ?_
  refine lv_iconst (v := (0 : Int32)) hx hb dL_asked_362 (by decide) ?_
  refine h_ild (j := 0) hx hb hK hO (by decide) rfl dL_asked_363 ?_
  refine lv_i2c (v := lchr (f 0)) hx hb dL_asked_364 rfl ?_
  rcases z with r1 | k1
  · refine h_cVi (As := [.int (lchr (f 0))]) (rest := []) hx hb hml hown hts hK hX (fun a h => h) hP hO (i_dis ha) hS (mX8_give l hlf hJ hp) (cwV 1 hts gL_asked_X8_give rfl rfl rfl nVX8_give ⟨Nat.le_of_ble_eq_true rfl, Nat.le_of_ble_eq_true rfl⟩) (g_recv hK hP kk_Tri ce_Tri rfl) rfl hl.1 rfl (Nat.le_of_ble_eq_true rfl) dL_asked_365 ⟨Nat.le_of_ble_eq_true rfl, Nat.le_of_ble_eq_true rfl⟩ (fun H locs hP hO hS => ?_)
    refine W.widen (k := 3) (n := 18) (Nat.le_of_ble_eq_true rfl) (Nat.le_of_ble_eq_true rfl) ?_
    refine vx_ret ?_
    exact W.iret (v := r1) hx hb hr (fun t ht hW => ⟨⟨r1, (), rfl, rfl, by subst ht; exact hP⟩, hS.F ht⟩) hS.2.2 dL_asked_368
  · refine h_cVx (As := [.int (lchr (f 0))]) (rest := []) hx hb hml hown hts hK hX (fun a h => h) hP hO (i_dis ha) hS (mX8_give l hlf hJ hp) (cwV 1 hts gL_asked_X8_give rfl rfl rfl nVX8_give ⟨Nat.le_of_ble_eq_true rfl, Nat.le_of_ble_eq_true rfl⟩) (g_recv hK hP kk_Tri ce_Tri rfl) rfl hl.1 rfl (Nat.le_of_ble_eq_true rfl) dL_asked_365 ⟨Nat.le_of_ble_eq_true rfl, Nat.le_of_ble_eq_true rfl⟩ (fun ce q9 H locs hP hO hS g1 g2 g3 => ?_)
    exact vx_out (fun x hx => (hex x hx).elim) hlocks g1 g2 g3 (fun t ht hvm => ⟨(), trivial, ⟨⟨k1, rfl, rfl⟩, by rw [ht]; exact hP⟩, hS.F ht⟩) hS.2.2 (Nat.le_of_ble_eq_true rfl) (Nat.le_of_ble_eq_true rfl)
set_option maxHeartbeats 4000000 in
set_option maxRecDepth 100000 in
theorem mL_asked_line {D : va_G} {cy : Nat → ClassId} {q : Nat → Nat} (l : Launch) (hlf : l.stackTraces = false) (hJ : gJ 78 q) {a : Nat} (ha : ¬ gA 78 q a) {f : Nat → Int32} {σ : TS} {z : Int32 ⊕ Nat} {u : TS} (hp : sX8_line (f 0) (lchr (f 1)) σ = some (z, u)) : vx_Met l yL_asked wsL_asked rmL_asked (va_Pc [.ref (q 0), .int (78 : Int32), .ref a] (hPre D vwCl (tyL cy) (gS 78 q (TX cy q) σ) (iW a cy 2 f) (gA 78 q))) (gQx D vwCl z (gS 78 q (TX cy q) u) (gA 78 q)) (gXx D vwCl z (gS 78 q (TX cy q) u) (gA 78 q)) 3 18 (gA 78 q) := by
  refine vx_ofW (cc := cL_asked) (maxL := 3) (ret := (some .int)) (by decide +kernel) rfl ?_
  intro p e s m args below meth c s₁ B hml hex hv
  obtain ⟨rfl, ⟨hP, hO, hK⟩, hX, hNt⟩ := hv
  have hx := B.exec
  have hb := B.bytes
  have hr := B.returns
  have hlocks := B.notSynchronized
  have hts := atoms_spec (ws := wsL_asked) B.pre
  have hown : s.vm.findClass RL = some m.cls := findClass_of_methodNamed B.named
  have hS : va_S (gA 78 q) s.heap s.heap [] := va_S.rf
  have hl := lv_entry ([.ref (q 0), .int (78 : Int32), .ref a]) (n := 3) (Nat.le_of_ble_eq_true rfl)
  rw [lg_entry_eq]
  generalize (lg_sl ([.ref (q 0), .int (78 : Int32), .ref a]) ++ List.replicate (3 - (lg_sl ([.ref (q 0), .int (78 : Int32), .ref a])).length) Slot.unset).toArray = ls at hl ⊢
  have hl : lv_has ls 3 [(0, .ref (q 0)), (1, .int (78 : Int32)), (2, .ref a)] := hl
  refine lv_iload_n hx hb dL_asked_0 rfl (lv_at hl 1 rfl) ?_
  refine g_sw hx hb (off := 368) (tgt := 369) dL_asked_1 (by decide) (by decide) (by decide) ?_
  refine lv_aload_n hx hb dL_asked_369 rfl (lv_at hl 0 rfl) ?_
  refine lv_aload_n hx hb dL_asked_370 rfl (lv_at hl 2 rfl) ?_
  refine lv_iconst (v := (0 : Int32)) hx hb dL_asked_371 (by decide) ?_
  refine h_ild (j := 0) hx hb hK hO (by decide) rfl dL_asked_372 ?_
  refine lv_aload_n hx hb dL_asked_373 rfl (lv_at hl 2 rfl) ?_
  refine lv_iconst (v := (1 : Int32)) hx hb dL_asked_374 (by decide) ?_
  refine h_ild (j := 1) hx hb hK hO (by decide) rfl dL_asked_375 ?_
  refine lv_i2c (v := lchr (f 1)) hx hb dL_asked_376 rfl ?_
  rcases z with r1 | k1
  · refine h_cVi (As := [.int (f 0), .int (lchr (f 1))]) (rest := []) hx hb hml hown hts hK hX (fun a h => h) hP hO (i_dis ha) hS (mX8_line l hlf hJ hp) (cwV 2 hts gL_asked_X8_line rfl rfl rfl nVX8_line ⟨Nat.le_of_ble_eq_true rfl, Nat.le_of_ble_eq_true rfl⟩) (g_recv hK hP kk_Tri ce_Tri rfl) rfl hl.1 rfl (Nat.le_of_ble_eq_true rfl) dL_asked_377 ⟨Nat.le_of_ble_eq_true rfl, Nat.le_of_ble_eq_true rfl⟩ (fun H locs hP hO hS => ?_)
    refine W.widen (k := 3) (n := 18) (Nat.le_of_ble_eq_true rfl) (Nat.le_of_ble_eq_true rfl) ?_
    refine vx_ret ?_
    exact W.iret (v := r1) hx hb hr (fun t ht hW => ⟨⟨r1, (), rfl, rfl, by subst ht; exact hP⟩, hS.F ht⟩) hS.2.2 dL_asked_380
  · refine h_cVx (As := [.int (f 0), .int (lchr (f 1))]) (rest := []) hx hb hml hown hts hK hX (fun a h => h) hP hO (i_dis ha) hS (mX8_line l hlf hJ hp) (cwV 2 hts gL_asked_X8_line rfl rfl rfl nVX8_line ⟨Nat.le_of_ble_eq_true rfl, Nat.le_of_ble_eq_true rfl⟩) (g_recv hK hP kk_Tri ce_Tri rfl) rfl hl.1 rfl (Nat.le_of_ble_eq_true rfl) dL_asked_377 ⟨Nat.le_of_ble_eq_true rfl, Nat.le_of_ble_eq_true rfl⟩ (fun ce q9 H locs hP hO hS g1 g2 g3 => ?_)
    exact vx_out (fun x hx => (hex x hx).elim) hlocks g1 g2 g3 (fun t ht hvm => ⟨(), trivial, ⟨⟨k1, rfl, rfl⟩, by rw [ht]; exact hP⟩, hS.F ht⟩) hS.2.2 (Nat.le_of_ble_eq_true rfl) (Nat.le_of_ble_eq_true rfl)

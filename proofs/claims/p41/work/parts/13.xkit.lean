/-! ===== methods that return or throw ===== -/
abbrev XR : Type := (Int32 ⊕ Nat) × TS
def xn (k : Nat) : String := if k = 1 then "java/lang/IndexOutOfBoundsException" else if k = 2 then "java/lang/IllegalArgumentException" else if k = 3 then "java/lang/IllegalStateException" else if k = 4 then "java/lang/UnsupportedOperationException" else "java/util/NoSuchElementException"
def o_x (z : XR) (f : Int32 → TS → Option XR) : Option XR := match z.1 with
  | .inl r => f r z.2
  | .inr k => some (.inr k, z.2)
def xNames : List String := ["java/lang/RuntimeException", "java/lang/Exception"]
def xStrs : List (Nat × String) := [(105, "the partition is full"), (240, "no good copy"), (268, "no such line"), (297, "no such index"), (302, "an argument does not fit"), (307, "not as things stand")]
def xSites : List (Nat × String) := [(107, xn 3), (242, xn 5), (299, xn 1), (304, xn 2), (309, xn 4)]
/-- the words of a throw that don't go from list to list: what may be cast to what -/
def xCasts : List (String × String) := [(xn 1, xn 1), (xn 2, xn 2), (xn 3, xn 3), (xn 4, xn 4), (xn 5, xn 5)]
def xDecls : List MethodName := [Bundle.initS "java/lang/RuntimeException", Bundle.initS "java/lang/Exception", Bundle.initS Bundle.tN]
def xBad (x : String) : List Cond := [.declares (Bundle.initS "java/lang/RuntimeException"), .declares (Bundle.initS "java/lang/Exception"), .declares (Bundle.initS Bundle.tN), .castable x x]
def xPre (A : Nat → Prop) (U : State) : Prop := vx_Zq Bundle.tN "UNASSIGNED_STACK" Bundle.steD A U U.heap ∧ vx_Zq Bundle.tN "SUPPRESSED_SENTINEL" Bundle.listD A U U.heap ∧ (∀ k ∈ xStrs, ∃ sa, vk_R RX8 k.1 k.2 sa U) ∧ (∀ k ∈ xCasts, va_Nw (.castable k.1 k.2) U) ∧ ∀ y ∈ xDecls, va_Nw (.declares y) U
theorem xPre_to {A : Nat → Prop} {s U : State} {H : Heap} {locs : List Loc} (h : xPre A s) (hS : va_S A s.heap H locs) (hU : U.heap = H) (hW : s.WarmedH U.vm) : xPre A U := by
  obtain ⟨h1, h2, h3, h4, h5⟩ := h
  refine ⟨?_, ?_, fun k hk => ?_, fun k hk => va_Nw.warmC hW (h4 k hk), fun k hk => va_Nw.warmD hW (h5 k hk)⟩
  · rw [hU]; exact vx_Zq.moved hW.alike (h1.kept hS.2.1)
  · rw [hU]; exact vx_Zq.moved hW.alike (h2.kept hS.2.1)
  · obtain ⟨sa, hsa⟩ := h3 k hk
    exact ⟨sa, vk_R.warm hW hsa⟩
def gPreX (D : va_G) (cl : List vw_C) (tys : List (ClassId × FieldType)) (ws : va_W) (A : Nat → Prop) : State → Prop := fun U => gPre D cl tys ws U ∧ xPre A U
theorem gPreX_blind {D : va_G} {cl : List vw_C} {tys : List (ClassId × FieldType)} {ws : va_W} {A : Nat → Prop} {av : List Value} : FrameBlind (va_Pc av (gPreX D cl tys ws A)) :=
  fun a U g mk h => ⟨h.1, (gPre_blind a U g mk ⟨h.1, h.2.1⟩).2, vx_Zq.moved (u := U) (U := U.calling g mk a) (Vm.Alike.refl U.vm) h.2.2.1, vx_Zq.moved (u := U) (U := U.calling g mk a) (Vm.Alike.refl U.vm) h.2.2.2.1,
    fun k hk => (h.2.2.2.2.1 k hk).elim fun sa hsa => ⟨sa, vk_R.same (u := U) (U := U.calling g mk a) rfl hsa⟩, fun k hk => va_Nw.same (u := U) (U := U.calling g mk a) rfl rfl (h.2.2.2.2.2.1 k hk), fun k hk => va_Nw.same (u := U) (U := U.calling g mk a) rfl rfl (h.2.2.2.2.2.2 k hk)⟩
abbrev gQx (D : va_G) (cl : List vw_C) (z : Int32 ⊕ Nat) (ws : va_W) (A : Nat → Prop) : Array Value → State → Outcome → State → Prop := va_Qi (fun r' (_ : Unit) => z = Sum.inl r') (fun _ t => va_P D cl ws t.heap) A
abbrev gQxv (D : va_G) (cl : List vw_C) (z : Int32 ⊕ Nat) (ws : va_W) (A : Nat → Prop) : Array Value → State → Outcome → State → Prop := va_Qv (fun (_ : Unit) => ∃ r, z = Sum.inl r) (fun _ t => va_P D cl ws t.heap) A
abbrev gXx (D : va_G) (cl : List vw_C) (z : Int32 ⊕ Nat) (ws : va_W) (A : Nat → Prop) : String → State → State → Prop := vx_X (fun (_ : Unit) => True) (fun E _ t => (∃ k, z = Sum.inr k ∧ E = xn k) ∧ va_P D cl ws t.heap) A
section XK
variable {p : Program} {l : Launch} {e : Env} {R : Room} {s : State} {m : MethodId} {args : Array Value} {below : List Frame} {meth : Method} {c : Code} {H : Heap} {locs : List Loc} {cells slots : Nat} {Q : State → Prop}
variable {cc : ByteArray} {pc : Nat} {ls : Array Slot} {rest : List Value} {D : va_G} {cl : List vw_C} {tys : List (ClassId × FieldType)} {n : Nat} {q : Nat → Nat} {X : gX} {σ : TS} {A : Nat → Prop}
theorem x_bad {x : String} (hX : xPre A s) (hk : (x, x) ∈ xCasts) : ∀ w ∈ xBad x, w.before args s = true :=
  vx_c (va_Nw.use rfl (hX.2.2.2.2 _ (by decide +kernel))) (vx_c (va_Nw.use rfl (hX.2.2.2.2 _ (by decide +kernel))) (vx_c (va_Nw.use rfl (hX.2.2.2.2 _ (by decide +kernel))) (vx_c (va_Nw.use rfl (hX.2.2.2.1 _ hk)) vx_n)))
theorem x_hat {ws : List Cond} {ic : Nat} {k : Nat} (hts : ∀ w ∈ ws, w.before args s = true) (hX : xPre A s) (hw : ∀ w ∈ (vx_atS RX8 ic (xn k) xNames).filter goodWord, w ∈ ws) (hc : (vx_atS RX8 ic (xn k) xNames).filter (fun w => !goodWord w) = xBad (xn k)) (hk : (xn k, xn k) ∈ xCasts) : ∀ w ∈ vx_atS RX8 ic (xn k) xNames, w.before args s = true :=
  vx_hat (B := xBad (xn k)) (fun w h => hts w (hw w h)) (fun w h => by rw [hc] at h; exact h) (x_bad hX hk)
theorem g_throw (hexec : p.tables.exec = Jvm.exec) (hb : c.code = cc) (hl : l.stackTraces = false) {ws : List Cond} {ik is ic k mc ms : Nat} {text : String} {Qc : Array Value → State → Outcome → State → Prop}
    (hown : s.vm.findClass RX8 = some m.cls) (hts : ∀ w ∈ ws, w.before args s = true) (hX : xPre A s) (hw : ∀ w ∈ (vx_atS RX8 ic (xn k) xNames).filter goodWord, w ∈ ws) (hc : (vx_atS RX8 ic (xn k) xNames).filter (fun w => !goodWord w) = xBad (xn k)) (hk : (xn k, xn k) ∈ xCasts) (hfit : Bundle.fit (xn k) = true)
    (hlk : Cond.classLink RX8 ik (xn k) ∈ ws) (hini : Cond.initialized (xn k) ∈ ws) (hstr : (is, text) ∈ xStrs) (hgood : ∀ w ∈ Cond.classLink RX8 ik (xn k) :: Cond.initialized (xn k) :: vx_atS RX8 ic (xn k) xNames, vx_ot w = true)
    (hP : va_P D cl (gS n q X σ) H) (hS : va_S A s.heap H locs) (hsize : ls.size = c.maxLocals)
    (d0 : decode cc pc = .ok (.new ik, 3)) (d3 : decode cc (pc + 3) = .ok (.dup, 1)) (d4 : decode cc (pc + 4) = .ok (.ldc is, 2)) (d6 : decode cc (pc + 6) = .ok (.invokespecial ic, 3)) (d9 : decode cc (pc + 9) = .ok (.athrow, 1))
    (hex : ∀ x ∈ c.exceptionTable.toList, False) (hRf : 5 < R.frames) (hRl : (rest.map fun v => v.category).sum + 82 ≤ R.locals) (hRc : cells + 1 ≤ R.cells) (hRs : slots + 6 ≤ R.slots) (hlocks : meth.locks = false) (hmc : cells + 1 ≤ mc) (hms : slots + 6 ≤ ms) :
    W p l e R s m args below meth c H locs cells slots (vx_MQ below Qc (gXx D cl (.inr k) (gS n q X σ) A) args s mc ms A) (F0 m pc ls rest) := by
  obtain ⟨sa, hsa⟩ := hX.2.2.1 _ hstr
  exact vx_throwS (names := xNames) (text := text) (sa := sa) hexec hb hl hown hfit (by decide) (hts _ hlk) (hts _ hini) hsa (x_hat hts hX hw hc hk) hgood hX.1 hX.2.1 hS hsize d0 d3 d4 d6 d9 (fun x hx => (hex x hx).elim) hRf hRl hRc hRs hlocks
    (fun t hvm hz hkeep => ⟨(), trivial, ⟨⟨k, rfl, rfl⟩, hP.kept (fun j x hj => hkeep _ (hP j x hj).lt)⟩, ⟨Nat.le_trans hS.1 hz, fun y h1 h2 => (hkeep y (Nat.lt_of_lt_of_le h1 hS.1)).trans (hS.2.1 y h1 h2)⟩⟩) hS.2.2 hmc hms
theorem g_throwW (hexec : p.tables.exec = Jvm.exec) (hb : c.code = cc) (hl : l.stackTraces = false) {ws : List Cond} {ik is ic k mc ms : Nat} {text : String} {Qc : Array Value → State → Outcome → State → Prop}
    (hown : s.vm.findClass RX8 = some m.cls) (hts : ∀ w ∈ ws, w.before args s = true) (hX : xPre A s) (hw : ∀ w ∈ (vx_atS RX8 ic (xn k) xNames).filter goodWord, w ∈ ws) (hc : (vx_atS RX8 ic (xn k) xNames).filter (fun w => !goodWord w) = xBad (xn k)) (hk : (xn k, xn k) ∈ xCasts) (hfit : Bundle.fit (xn k) = true)
    (hlk : Cond.classLink RX8 ik (xn k) ∈ ws) (hini : Cond.initialized (xn k) ∈ ws) (hstr : (is, text) ∈ xStrs) (hgood : ∀ w ∈ Cond.classLink RX8 ik (xn k) :: Cond.initialized (xn k) :: vx_atS RX8 ic (xn k) xNames, vx_ot w = true)
    (hP : va_P D cl (gS n q X σ) H) (hS : va_S A s.heap H locs) (hsize : ls.size = c.maxLocals)
    (d0 : decode cc pc = .ok (.new ik, 3)) (d3 : decode cc (pc + 3) = .ok (.dup, 1)) (d4 : decode cc (pc + 4) = .ok (.ldc_w is, 3)) (d7 : decode cc (pc + 7) = .ok (.invokespecial ic, 3)) (d10 : decode cc (pc + 10) = .ok (.athrow, 1))
    (hex : ∀ x ∈ c.exceptionTable.toList, False) (hRf : 5 < R.frames) (hRl : (rest.map fun v => v.category).sum + 82 ≤ R.locals) (hRc : cells + 1 ≤ R.cells) (hRs : slots + 6 ≤ R.slots) (hlocks : meth.locks = false) (hmc : cells + 1 ≤ mc) (hms : slots + 6 ≤ ms) :
    W p l e R s m args below meth c H locs cells slots (vx_MQ below Qc (gXx D cl (.inr k) (gS n q X σ) A) args s mc ms A) (F0 m pc ls rest) := by
  obtain ⟨sa, hsa⟩ := hX.2.2.1 _ hstr
  exact vx_throwSW (names := xNames) (text := text) (sa := sa) hexec hb hl hown hfit (by decide) (hts _ hlk) (hts _ hini) hsa (x_hat hts hX hw hc hk) hgood hX.1 hX.2.1 hS hsize d0 d3 d4 d7 d10 (fun x hx => (hex x hx).elim) hRf hRl hRc hRs hlocks
    (fun t hvm hz hkeep => ⟨(), trivial, ⟨⟨k, rfl, rfl⟩, hP.kept (fun j x hj => hkeep _ (hP j x hj).lt)⟩, ⟨Nat.le_trans hS.1 hz, fun y h1 h2 => (hkeep y (Nat.lt_of_lt_of_le h1 hS.1)).trans (hS.2.1 y h1 h2)⟩⟩) hS.2.2 hmc hms
section XKC
variable {own C : String} {y : MethodName} {bytes : ByteArray} {maxL nn index nL mc ms : Nat} {ret : Option FieldType} {ws Ts : List Cond} {rm : Room} {W0 W1 : va_W} {b : Nat} {As stk : List Value}
/-- a static call without an answer, of a method that may throw and doesn't -/
theorem g_xSv {r : Int32} (hx : p.tables.exec = Jvm.exec) (hb : c.code = cc) (hml : c.maxLocals = nL) (hown : s.vm.findClass own = some m.cls) (hts : ∀ w ∈ Ts, w.before args s = true) (hK : va_K D cl tys s) (hX : xPre A s) (hP : va_P D cl W0 H) (hS : va_S A s.heap H locs)
    (hM : vx_Met l y ws rm (va_Pc As (gPreX D cl tys W0 A)) (gQxv D cl (.inl r) W1 A) (gXx D cl (.inl r) W1 A) mc ms A) (cw : CallB R s args own index y bytes maxL ret ws rm mc ms nn ∧ (Cond.static y).before args s = true)
    (hn : As.length = nn) (hsize : ls.size = nL) (hstk : stk = As.reverse ++ rest) (hW : (rest.map fun v => v.category).sum ≤ 8) (hdg : decode cc pc = .ok (.invokestatic index, 3)) (hf : cells + mc ≤ R.cells ∧ slots + ms ≤ R.slots)
    (kk : ∀ (H1 : Heap) (locs1 : List Loc), va_P D cl W1 H1 → va_S A s.heap H1 locs1 → W p l e R s m args below meth c H1 locs1 (cells + mc) (slots + ms) Q (F0 m (pc + 3) ls rest)) : W p l e R s m args below meth c H locs cells slots Q (F0 m pc ls stk) := by
  subst hstk
  refine vx_callv (vx_runS (As := As) (rest := rest) ⟨hx, hb, hml, hown, hts⟩ hM cw ⟨gPreX_blind, fun U hU hWm => ⟨rfl, ⟨by rw [hU]; exact hP, va_K.moved hWm.alike hK⟩, xPre_to hX hS hU hWm⟩⟩ rfl hn hsize rfl (lv_room hW) hdg hf) hS (fun _ _ h => h) (fun _ h => h) (fun _ _ h => h)
    (fun E ce q9 u t H1 locs1 ht hvm hw hB hz1 hk1 hS1 h1 h2 h3 => ?_) (fun u t H1 locs1 ht hvm hw hB hz1 hk1 hS1 => ?_)
  · obtain ⟨⟨k, hk, -⟩, -⟩ := hB
    cases hk
  · rw [ht] at hB
    exact kk H1 locs1 hB hS1
/-- .. that throws: it goes on to the caller -/
theorem g_xSt {Qc : Array Value → State → Outcome → State → Prop} {k mc9 ms9 : Nat} (hx : p.tables.exec = Jvm.exec) (hb : c.code = cc) (hml : c.maxLocals = nL) (hown : s.vm.findClass own = some m.cls) (hts : ∀ w ∈ Ts, w.before args s = true) (hK : va_K D cl tys s) (hX : xPre A s) (hP : va_P D cl W0 H) (hS : va_S A s.heap H locs)
    (hM : vx_Met l y ws rm (va_Pc As (gPreX D cl tys W0 A)) (gQxv D cl (.inr k) W1 A) (gXx D cl (.inr k) W1 A) mc ms A) (cw : CallB R s args own index y bytes maxL ret ws rm mc ms nn ∧ (Cond.static y).before args s = true)
    (hn : As.length = nn) (hsize : ls.size = nL) (hstk : stk = As.reverse ++ rest) (hW : (rest.map fun v => v.category).sum ≤ 8) (hdg : decode cc pc = .ok (.invokestatic index, 3)) (hf : cells + mc ≤ R.cells ∧ slots + ms ≤ R.slots)
    (hex : ∀ x ∈ c.exceptionTable.toList, False) (hlocks : meth.locks = false) (hmc : cells + mc ≤ mc9) (hms : slots + ms ≤ ms9) : W p l e R s m args below meth c H locs cells slots (vx_MQ below Qc (gXx D cl (.inr k) W1 A) args s mc9 ms9 A) (F0 m pc ls stk) := by
  subst hstk
  refine vx_callv (vx_runS (As := As) (rest := rest) ⟨hx, hb, hml, hown, hts⟩ hM cw ⟨gPreX_blind, fun U hU hWm => ⟨rfl, ⟨by rw [hU]; exact hP, va_K.moved hWm.alike hK⟩, xPre_to hX hS hU hWm⟩⟩ rfl hn hsize rfl (lv_room hW) hdg hf) hS (fun _ _ h => h) (fun _ h => h) (fun _ _ h => h)
    (fun E ce q9 u t H1 locs1 ht hvm hw hB hz1 hk1 hS1 h1 h2 h3 => ?_) (fun u t H1 locs1 ht hvm hw hB hz1 hk1 hS1 => ?_)
  · obtain ⟨⟨k2, hk2, hE⟩, hB2⟩ := hB
    rw [ht] at hB2
    refine vx_out (fun x hx => (hex x hx).elim) hlocks h1 h2 h3 (fun t' ht' hvm' => ⟨(), trivial, ⟨⟨k2, hk2, hE⟩, by rw [ht']; exact hB2⟩, hS1.F ht'⟩) hS1.2.2 hmc hms
  · obtain ⟨r, hr⟩ := hw
    cases hr
end XKC
end XK
theorem hxc_107 : (vx_atS RX8 107 (xn 3) xNames).filter (fun w => !goodWord w) = xBad (xn 3) := by decide +kernel
theorem hxc_299 : (vx_atS RX8 299 (xn 1) xNames).filter (fun w => !goodWord w) = xBad (xn 1) := by decide +kernel
theorem hxc_304 : (vx_atS RX8 304 (xn 2) xNames).filter (fun w => !goodWord w) = xBad (xn 2) := by decide +kernel
theorem hxc_309 : (vx_atS RX8 309 (xn 4) xNames).filter (fun w => !goodWord w) = xBad (xn 4) := by decide +kernel
theorem hxg_107 : ∀ w ∈ Cond.classLink RX8 103 (xn 3) :: Cond.initialized (xn 3) :: vx_atS RX8 107 (xn 3) xNames, vx_ot w = true := by decide +kernel
theorem hxg_299 : ∀ w ∈ Cond.classLink RX8 295 (xn 1) :: Cond.initialized (xn 1) :: vx_atS RX8 299 (xn 1) xNames, vx_ot w = true := by decide +kernel
theorem hxg_304 : ∀ w ∈ Cond.classLink RX8 300 (xn 2) :: Cond.initialized (xn 2) :: vx_atS RX8 304 (xn 2) xNames, vx_ot w = true := by decide +kernel
theorem hxg_309 : ∀ w ∈ Cond.classLink RX8 305 (xn 4) :: Cond.initialized (xn 4) :: vx_atS RX8 309 (xn 4) xNames, vx_ot w = true := by decide +kernel
/-! ===== NoSuchElementException: its constructor calls RuntimeException's by entry 13; the rest of the way is the library's ===== -/
theorem xn_0 : decode xn_six 0 = .ok (.aload_n 0, 1) := by decide +kernel
theorem xn_1 : decode xn_six 1 = .ok (.aload_n 1, 1) := by decide +kernel
theorem xn_2 : decode xn_six 2 = .ok (.invokespecial 13, 3) := by decide +kernel
theorem xn_5 : decode xn_six 5 = .ok (.return_, 1) := by decide +kernel
section XN
variable {p : Program} {l : Launch} {e : Env} {R : Room} {s : State} {m₀ : MethodId} {args : Array Value} {below : List Frame} {meth : Method} {c : Code} {W : State} {locs : List Loc} {cells slots : Nat}
set_option maxHeartbeats 4000000 in
theorem n_ctorThrow (X : Stand p l e R s m₀ args below meth c W locs cells slots) (hexec : p.tables.exec = Jvm.exec) (htr : e.platform.stackTraces = false)
    (hown : s.vm.findClass RX8 = some m₀.cls) (h : ∀ a ∈ xn_atoms, a.before args s = true)
    (hlocs : ∀ x ∈ locs, ∀ cell, s.heap[x.base]? = some cell → cell.vm.isStatics = false)
    {a : Addr} {cX : ClassId} {kX : Class} (hfoundX : s.vm.findClass "java/util/NoSuchElementException" = some cX) (hkX : s.vm.classes[cX]? = some kX) (hcell : W.heap[a]? = some (freshCell cX kX)) (hnew : s.heap.size ≤ a)
    {msg : Value} (hmsg : msg.isRef = true)
    {g : JFrame} (hg : g.method = m₀) (hsize : g.locals.size = c.maxLocals) (hlocked : g.locked = none) (hentered : g.entered = []) {rest : List Value} (hstack : g.stack = msg :: .ref a :: .ref a :: rest)
    (hd6 : decode c.code g.pc = .ok (.invokespecial 242, 3)) (hd9 : decode c.code (g.pc + 3) = .ok (.athrow, 1)) (hout : ∀ x ∈ c.exceptionTable.toList, covers x (g.pc + 3) = false)
    (hRframes : 5 < R.frames) (hRlocals : 2 * g.monitorRoom + ((Value.ref a :: rest).map fun v => v.category).sum + 81 ≤ R.locals) (hlocks : meth.locks = false) :
    ∃ U : State, Steps p.tables e below (W.setTop g) U ∧ U.status = .running ∧ Ended U below (.threw a) ∧ s.WarmedH U.vm ∧ s.sameButNew ({ U with vm := s.vm } : State) locs cells slots ∧
      ∃ ce : Cell, U.heap[a]? = some ce ∧ ce.vm = .none ∧ s.vm.findClass "java/util/NoSuchElementException" = some ce.cls := by
  have howns : e.platform.frameOwnsMonitors = true := by rw [X.admits.platform]
  have hfin : e.platform.finalization = false := by rw [X.admits.platform]
  have hpl : e.platform.magicAccessors = ({} : Platform).magicAccessors := by rw [X.admits.platform]
  have a' : ∀ x, x ∈ xn_atoms → x.holds args s none s [] = true := fun x hx => h x hx
  obtain ⟨T, Z0, L, -, Y⟩ := ThrowableC.of_atoms (args := args) howns hfin hpl (fun x hx => h x (by simp [xn_atoms, hx]))
  obtain ⟨Z, M, LZ, LM, hnZ⟩ := Init0T.ofS_atoms (args := args) hpl L Y (fun x hx => h x (by simp [xn_atoms, hx]))
  obtain ⟨P2, Ps2, hlen2, L2, hL2, hP2m, hlink2, hpass2⟩ := Bundle.chainS (args := args) hpl hnZ ["java/lang/Exception"] "java/lang/RuntimeException" (by decide) (by decide) (fun x hx => h x (by simp [xn_atoms, hx]))
  obtain ⟨P1, L1, hP1m, hs1⟩ := PassC.ofS_atoms (args := args) (s := s) hpl (X := "java/util/NoSuchElementException") (Y := "java/lang/RuntimeException") (by decide +kernel) (by decide) xn_0 xn_1 xn_2 xn_5 (fun x hx => h x (by simp [xn_atoms, hx]))
  have hlink1 : P1.sup = P2.m := Option.some.inj (hs1.symm.trans hP2m)
  have hfound : s.vm.findClass "java/util/NoSuchElementException" = some P1.m.cls := findClass_of_methodNamed hP1m
  cases Option.some.inj (hfoundX.symm.trans hfound)
  obtain ⟨c1, kX', hc1, hk, hord, -, -, hn6⟩ := Cond.instantiable_spec (a' (.instantiable "java/util/NoSuchElementException" 6) (by simp [xn_atoms]))
  cases Option.some.inj (hc1.symm.trans hfound)
  cases Option.some.inj (hkX.symm.trans hk)
  have hsel0 : selectMethod e.platform s.vm P1.m.cls T.fill0 = .method T.fill0 := by
    obtain ⟨c2, r2, m2, q1, q2, q3, q4, -⟩ := Cond.selects_spec (a' (.selects "java/util/NoSuchElementException" Bundle.tFill0 Bundle.tFill0) (by simp [xn_atoms]))
    cases Option.some.inj (q1.symm.trans hfound)
    cases Option.some.inj (q2.symm.trans (State.methodFound?_of_named Y.fill0 (by decide)))
    cases Option.some.inj (q3.symm.trans Y.fill0)
    rw [Launch.admits_selectMethod X.admits]; exact q4
  have hselF : selectMethod e.platform s.vm P1.m.cls T.fill = .method T.fill := by
    obtain ⟨c2, r2, m2, q1, q2, q3, q4, -⟩ := Cond.selects_spec (a' (.selects "java/util/NoSuchElementException" Bundle.tFill Bundle.tFill) (by simp [xn_atoms]))
    cases Option.some.inj (q1.symm.trans hfound)
    cases Option.some.inj (q2.symm.trans (State.methodFound?_of_named Y.fill (by decide)))
    cases Option.some.inj (q3.symm.trans Y.fill)
    rw [Launch.admits_selectMethod X.admits]; exact q4
  obtain ⟨cellS0, hcS0, hiss⟩ := Y.statics
  obtain ⟨u0, hu0⟩ := Cond.staticRefV Y.unassigned L.unassignedStatic L.statics hcS0 hiss (a' (.isRef (.static Bundle.tN "UNASSIGNED_STACK" Bundle.steD)) (by simp [xn_atoms]))
  obtain ⟨sen, hsen⟩ := Cond.staticRefV Y.sentinel L.sentinelStatic L.statics hcS0 hiss (a' (.isRef (.static Bundle.tN "SUPPRESSED_SENTINEL" Bundle.listD)) (by simp [xn_atoms]))
  obtain ⟨ci198, i198, fB, hk198, hg198, ha198, hsB, -, hnB, htB, hffB⟩ := Cond.ownField (t := .object "java/lang/Object") Y.found L.cls (by decide +kernel) (a' (.fieldLink Bundle.tN 198 Bundle.tN "backtrace" "Ljava/lang/Object;") (by simp [xn_atoms])) (a' (.lays Bundle.tN Bundle.tN "backtrace" "Ljava/lang/Object;") (by simp [xn_atoms])) e.platform hpl
  obtain ⟨cellS, hcS', heS, -, hkeep⟩ := X.same.2.2.2.2.2 T.aS cellS0 hcS0
  have hcellS : W.heap[T.aS]? = some cellS := hcS'
  have hout' : ∀ i, (⟨T.aS, i⟩ : Loc) ∉ locs := fun i hmem => by
    have := hlocs _ hmem cellS0 hcS0
    rw [hiss] at this; cases this
  have hknownS : cellS.vm ≠ .unknown := by
    rw [heS]; intro hu
    rw [show cellS0.vm = .unknown from hu] at hiss
    cases hiss
  have hneS : T.aS ≠ a := Nat.ne_of_lt (Nat.lt_of_lt_of_le (Array.getElem?_eq_some_iff.mp hcS0).1 hnew)
  obtain ⟨iM, hffM⟩ := Y.msg
  obtain ⟨tyC, dC, hdC, hdnC⟩ := Cond.laysAt hfound hk Y.cause (a' (.lays "java/util/NoSuchElementException" Bundle.tN "cause" "Ljava/lang/Throwable;") (by simp [xn_atoms]))
  obtain ⟨tyS, dS, hdS, hdnS⟩ := Cond.laysAt hfound hk Y.stack (a' (.lays "java/util/NoSuchElementException" Bundle.tN "stackTrace" Bundle.steD) (by simp [xn_atoms]))
  obtain ⟨tyP, dP, hdP, hdnP⟩ := Cond.laysAt hfound hk Y.supp (a' (.lays "java/util/NoSuchElementException" Bundle.tN "suppressedExceptions" Bundle.listD) (by simp [xn_atoms]))
  obtain ⟨tyM, dM, hdM, hdnM⟩ := Cond.laysAt hfound hk hffM (a' (.lays "java/util/NoSuchElementException" Bundle.tN "detailMessage" "Ljava/lang/String;") (by simp [xn_atoms]))
  obtain ⟨tyB, dB, hdB, hdnB⟩ := Cond.laysAt hfound hk hffB (a' (.lays "java/util/NoSuchElementException" Bundle.tN "backtrace" "Ljava/lang/Object;") (by simp [xn_atoms]))
  have bC := Cond.laysApart hdB hdC hdnB hdnC (by rw [hnB, Y.causeName]; decide)
  have bS := Cond.laysApart hdB hdS hdnB hdnS (by rw [hnB, Y.stackName]; decide)
  have bP := Cond.laysApart hdB hdP hdnB hdnP (by rw [hnB, Y.suppName]; decide)
  have hskip : SkipFacts T e.platform s (fun u => u) u0 ((preparedCellV T.toThrowableT (freshCell P1.m.cls kX) a u0 sen).withEntry W.cur) :=
    ⟨{ ci198 := ci198, i198 := i198, fBack := fB }, ⟨hk198, hg198, ha198, hsB⟩, by
      have := fresh_default (c := P1.m.cls) tyB
      rw [htB] at this
      simpa [preparedCellV, Cell.setSlot, Cell.withEntry, Array.getElem?_setIfInBounds, bC, bS, bP, bC.symm, bS.symm, bP.symm, defaultValue] using this, fun _ _ => rfl⟩
  obtain ⟨tm, methC, cdC, kC, vm₁, hnC, -, -, -, -, -, -, -, hW₁, st1⟩ := Steps.initColdS (tb := p.tables) (e := e) (below := below) (s := s) (U := W) X.here hexec X.warmed hpl hown (t := Bundle.initS "java/util/NoSuchElementException") rfl rfl (by decide)
    (a' (.methodLink RX8 242 (Bundle.initS "java/util/NoSuchElementException")) (by simp [xn_atoms, RX8])) (h (.instanceMethod (Bundle.initS "java/util/NoSuchElementException")) (by simp [xn_atoms, Bundle.passSAtoms])) (bytes := xn_six) (maxL := 2) (h (.code (Bundle.initS "java/util/NoSuchElementException") xn_six 2 none) (by simp [xn_atoms, Bundle.passSAtoms]))
    (f := g) hg (a := a) (msg := msg) (rest := .ref a :: rest) hstack hd6
  cases Option.some.inj (hnC.symm.trans hP1m)
  have X₁ := X.noted hW₁
  obtain ⟨vm₂, X₂, st2⟩ := X₁.ctorMessageOffV hexec (g := { g with stack := .ref a :: rest }) hg hsize T L Z LZ M LM (P1 :: P2 :: Ps2)
    (fun P hP => by rcases List.mem_cons.mp hP with rfl | hP; exact L1; rcases List.mem_cons.mp hP with rfl | hP; exact L2; exact hL2 P hP) ⟨hlink1, hlink2, hpass2⟩ (u0 := u0) (sen := sen) (self := a) hmsg (cell := freshCell P1.m.cls kX) (cellS := cellS)
    hcell (fun _ => by simp) (by simp) rfl rfl hsel0 hselF hcellS hneS hknownS (by rw [hkeep _ (hout' _)]; exact hu0) (by rw [hkeep _ (hout' _)]; exact hsen)
    (Takes.of_laid hk hord tyC (by rw [Y.causeType]; rfl)) (Takes.of_laid hk hord tyS (by rw [Y.stackType]; exact fits_refV_array _ u0)) (Takes.of_laid hk hord tyP (by rw [Y.suppType]; exact fits_refV_object _ sen))
    (Takes.of_laid hk hord tyM (by rw [Y.msgType]; exact fits_refV_object _ ⟨msg, hmsg⟩)) Y.objLocals hskip htr [] hd6
    (by simp only [List.length_cons, hlen2]; exact hRframes) (by simp only [List.length_cons, hlen2]; exact hRlocals)
  obtain ⟨hwalk, hrun, hended, hWU, hsame⟩ := X₂.athrowLeaves hexec (g := { g with stack := .ref a :: rest, pc := g.pc + 3 }) hg hlocked hentered hout (a := a) (rest := rest) rfl hd9
  have hlt : a < ((W.setVm vm₁).setVm vm₂).heap.size := (Array.getElem?_eq_some_iff.mp hcell).1
  have hU := heapAt_setCell_self (s := (W.setVm vm₁).setVm vm₂) (plainBareV T.toThrowableT (freshCell P1.m.cls kX) a u0 sen msg) hlt
  refine ⟨_, st1 _ (fun acts => ?_), hrun, hended, hWU, hsame.weaken (fun y hy hlt' => ?_) (Nat.le_refl _) (Nat.le_refl _), _, hU, rfl, hfound⟩
  · rw [doInvoke_state]
    exact st2 _ hwalk
  · rcases List.mem_append.mp hy with h1 | h1
    · exact h1
    · exfalso
      have hb : y.base = a := by
        simp only [List.mem_cons, List.not_mem_nil, or_false] at h1
        rcases h1 with rfl | rfl | rfl | rfl | rfl <;> rfl
      rw [hb] at hlt'
      exact Nat.not_lt.mpr hnew hlt'
end XN
theorem xn_ot : ∀ w ∈ Cond.classLink RX8 238 "java/util/NoSuchElementException" :: Cond.initialized "java/util/NoSuchElementException" :: xn_at242, vx_ot w = true := by decide +kernel
theorem xn_bad : xn_at242.filter (fun w => !goodWord w) = xBad "java/util/NoSuchElementException" := by decide +kernel
section XNT
variable {p : Program} {l : Launch} {e : Env} {R : Room} {s : State} {m : MethodId} {args : Array Value} {below : List Frame} {meth : Method} {c : Code} {H : Heap} {locs : List Loc} {cells slots : Nat} {Q : State → Prop}
variable {mc ms : Nat} {free : Addr → Prop} {A : Nat → Prop} {ls : Array Slot} {rest : List Value} {Qc : Array Value → State → Outcome → State → Prop} {XC : String → State → State → Prop}
set_option maxHeartbeats 4000000 in
theorem n_throw0 {cc : ByteArray} {pc : Nat} (hexec : p.tables.exec = Jvm.exec) (hb : c.code = cc) (hl : l.stackTraces = false) {text : String} {is sa : Nat}
    (hown : s.vm.findClass RX8 = some m.cls) (hk : (Cond.classLink RX8 238 "java/util/NoSuchElementException").before args s = true) (hini : (Cond.initialized "java/util/NoSuchElementException").before args s = true) (hstr : vk_R RX8 is text sa s) (hat : ∀ w ∈ xn_at242, w.before args s = true)
    (hU : vx_Zq Bundle.tN "UNASSIGNED_STACK" Bundle.steD A s s.heap) (hN : vx_Zq Bundle.tN "SUPPRESSED_SENTINEL" Bundle.listD A s s.heap) (hS : va_S A s.heap H locs) (hsize : ls.size = c.maxLocals)
    (d0 : decode cc pc = .ok (.new 238, 3)) (d3 : decode cc (pc + 3) = .ok (.dup, 1)) (d4 : decode cc (pc + 4) = .ok (.ldc is, 2)) (d6 : decode cc (pc + 6) = .ok (.invokespecial 242, 3)) (d9 : decode cc (pc + 9) = .ok (.athrow, 1))
    (hout : ∀ x ∈ c.exceptionTable.toList, covers x (pc + 9) = false)
    (hRframes : 5 < R.frames) (hRlocals : (rest.map fun v => v.category).sum + 82 ≤ R.locals) (hRcells : cells + 1 ≤ R.cells) (hRslots : slots + 6 ≤ R.slots) (hlocks : meth.locks = false)
    (hx : ∀ t : State, s.vm.Alike t.vm → H.size ≤ t.heap.size → (∀ q : Nat, q < H.size → t.heap[q]? = H[q]?) → XC "java/util/NoSuchElementException" s t)
    (hf : ∀ z ∈ locs, free z.base) (hc : cells + 1 ≤ mc) (hs : slots + 6 ≤ ms) :
    W p l e R s m args below meth c H locs cells slots (vx_MQ below Qc XC args s mc ms free) (F0 m pc ls rest) := by
  intro T hT X
  have htr : e.platform.stackTraces = false := (show e.platform.stackTraces = l.stackTraces by rw [X.admits.platform]).trans hl
  have Y := vx_rebase X (R' := { frames := R.frames, locals := R.locals, cells := 1, slots := 6 }) (Nat.le_refl _) (Nat.le_refl _) hRcells hRslots
  obtain ⟨s', hA⟩ : ∃ z, z = (T.setVm s.vm).setFrames (.invoking m args :: below) := ⟨_, rfl⟩
  rw [← hA] at Y
  have hvm : s'.vm = s.vm := by rw [hA]; rfl
  have hhp : s'.heap = H := by rw [hA]; exact hT
  have hW0 : s.WarmedH s'.vm := by rw [hvm]; exact State.WarmedH.refl s
  have hat' : ∀ w ∈ xn_at242, w.before args s' = true := fun w hw => vx_ot_at hW0 hvm.symm (xn_ot w (List.mem_cons_of_mem _ (List.mem_cons_of_mem _ hw))) (hat w hw)
  have hk' : (Cond.classLink RX8 238 "java/util/NoSuchElementException").before args s' = true := vx_ot_at hW0 hvm.symm (xn_ot _ List.mem_cons_self) hk
  have hini' : (Cond.initialized "java/util/NoSuchElementException").before args s' = true := vx_ot_at hW0 hvm.symm (xn_ot _ (List.mem_cons_of_mem _ List.mem_cons_self)) hini
  have hU' : vx_Zq Bundle.tN "UNASSIGNED_STACK" Bundle.steD A s' s'.heap := by rw [hhp]; exact vx_Zq.moved hW0.alike (hU.kept hS.2.1)
  have hN' : vx_Zq Bundle.tN "SUPPRESSED_SENTINEL" Bundle.listD A s' s'.heap := by rw [hhp]; exact vx_Zq.moved hW0.alike (hN.kept hS.2.1)
  have h : ∀ w ∈ xn_atoms, w.before args s' = true := vx_own hat' (vx_isRefq hU'.1) (vx_isRefq hN'.1) hU'.2.word hN'.2.word
  have hown' : s'.vm.findClass RX8 = some m.cls := by rw [hvm]; exact hown
  have hins : (Cond.instantiable "java/util/NoSuchElementException" 6).before args s' = true := h _ (by simp [xn_atoms])
  obtain ⟨vm₁, cX, kX, hfX, hkX, -, -, X₁, st1⟩ := Y.newCold hexec (own := RX8) (C := "java/util/NoSuchElementException") (index := 238) (n := 6) hown' hk' hins hini'
    (g := F0 m pc ls rest) rfl (by rw [hb]; exact d0) (Nat.le_refl _) (Nat.le_refl _)
  generalize hT1 : (T.setVm vm₁).pushCell { cls := cX, slots := kX.instanceTypes.map defaultValue, vm := .none } = T1 at X₁ st1
  have hcat : (Value.ref T.heap.size).category = 1 := rfl
  have hcellA : T1.heap[T.heap.size]? = some (freshCell cX kX) := by rw [← hT1]; exact State.heap_pushCell_size _ _
  have d3' : decode c.code (pc + 3) = .ok (.dup, 1) := by rw [hb]; exact d3
  have d4' : decode c.code (pc + 4) = .ok (.ldc is, 2) := by rw [hb]; exact d4
  have hstr' : vk_R RX8 is text sa s' := vk_R.warm hW0 hstr
  obtain ⟨U, hsteps, hrun, hend, hW, hsame, ce, hce, hcv, hcc⟩ := n_ctorThrow X₁ hexec htr hown' h (fun x hx => nomatch hx) hfX hkX hcellA (by rw [hhp, hT]; exact Nat.le_refl _) (msg := .ref sa) rfl
    (g := { method := m, pc := pc + 6, locals := ls, stack := .ref sa :: .ref T.heap.size :: .ref T.heap.size :: rest, locked := none }) rfl hsize rfl rfl (rest := rest) rfl
    (by rw [hb]; exact d6) (by rw [hb]; exact d9) hout hRframes (by simp only [List.map_cons, List.sum_cons, hcat]; show 2 * 0 + _ + 81 ≤ _; omega) hlocks
  obtain ⟨f1, f2⟩ := vx_frame hsame
  rw [hhp] at f1 f2
  have hWs : s.WarmedH U.vm := State.WarmedH.trans hW0 hW
  have hcl : s.vm.findClass "java/util/NoSuchElementException" = some ce.cls := by
    rw [hvm] at hcc
    exact hcc
  have hall : s.sameButNew ({ U with vm := s.vm } : State) locs mc ms := by
    subst hA
    obtain ⟨e1, e2⟩ := hsame
    rw [State.setFrames_setFrames] at e1
    have h2 : (T.setVm s.vm).sameButNew ({ U with vm := s.vm } : State) [] (0 + 1) (0 + 6) := ⟨e1, e2⟩
    have h3 := X.same.trans h2
    rw [List.append_nil] at h3
    exact h3.mono hc hs
  refine ⟨U, ?_, .threw T.heap.size, hrun, hend, Or.inr ⟨T.heap.size, rfl, "java/util/NoSuchElementException", ce, locs, hx U hWs.alike f1 (fun q hq => f2 q hq (fun z hz => nomatch hz)), hce, hcv, hcl, hWs, hall, hf⟩⟩
  refine st1 _ ?_
  show Steps p.tables e below (T1.setTop { method := m, pc := pc + 3, locals := ls, stack := .ref T.heap.size :: rest, locked := none }) _
  jvm_step X₁.here [X₁.here.top, hexec, d3', Value.category]
  exact X₁.ldcString hexec (own := RX8) (text := text) (index := is) (a := sa) hown' hstr'.1 hstr'.2
    (g := { method := m, pc := pc + 4, locals := ls, stack := .ref T.heap.size :: .ref T.heap.size :: rest, locked := none }) rfl d4' _ hsteps
set_option maxHeartbeats 4000000 in
theorem n_throw0W {cc : ByteArray} {pc : Nat} (hexec : p.tables.exec = Jvm.exec) (hb : c.code = cc) (hl : l.stackTraces = false) {text : String} {is sa : Nat}
    (hown : s.vm.findClass RX8 = some m.cls) (hk : (Cond.classLink RX8 238 "java/util/NoSuchElementException").before args s = true) (hini : (Cond.initialized "java/util/NoSuchElementException").before args s = true) (hstr : vk_R RX8 is text sa s) (hat : ∀ w ∈ xn_at242, w.before args s = true)
    (hU : vx_Zq Bundle.tN "UNASSIGNED_STACK" Bundle.steD A s s.heap) (hN : vx_Zq Bundle.tN "SUPPRESSED_SENTINEL" Bundle.listD A s s.heap) (hS : va_S A s.heap H locs) (hsize : ls.size = c.maxLocals)
    (d0 : decode cc pc = .ok (.new 238, 3)) (d3 : decode cc (pc + 3) = .ok (.dup, 1)) (d4 : decode cc (pc + 4) = .ok (.ldc_w is, 3)) (d6 : decode cc (pc + 7) = .ok (.invokespecial 242, 3)) (d9 : decode cc (pc + 10) = .ok (.athrow, 1))
    (hout : ∀ x ∈ c.exceptionTable.toList, covers x (pc + 10) = false)
    (hRframes : 5 < R.frames) (hRlocals : (rest.map fun v => v.category).sum + 82 ≤ R.locals) (hRcells : cells + 1 ≤ R.cells) (hRslots : slots + 6 ≤ R.slots) (hlocks : meth.locks = false)
    (hx : ∀ t : State, s.vm.Alike t.vm → H.size ≤ t.heap.size → (∀ q : Nat, q < H.size → t.heap[q]? = H[q]?) → XC "java/util/NoSuchElementException" s t)
    (hf : ∀ z ∈ locs, free z.base) (hc : cells + 1 ≤ mc) (hs : slots + 6 ≤ ms) :
    W p l e R s m args below meth c H locs cells slots (vx_MQ below Qc XC args s mc ms free) (F0 m pc ls rest) := by
  intro T hT X
  have htr : e.platform.stackTraces = false := (show e.platform.stackTraces = l.stackTraces by rw [X.admits.platform]).trans hl
  have Y := vx_rebase X (R' := { frames := R.frames, locals := R.locals, cells := 1, slots := 6 }) (Nat.le_refl _) (Nat.le_refl _) hRcells hRslots
  obtain ⟨s', hA⟩ : ∃ z, z = (T.setVm s.vm).setFrames (.invoking m args :: below) := ⟨_, rfl⟩
  rw [← hA] at Y
  have hvm : s'.vm = s.vm := by rw [hA]; rfl
  have hhp : s'.heap = H := by rw [hA]; exact hT
  have hW0 : s.WarmedH s'.vm := by rw [hvm]; exact State.WarmedH.refl s
  have hat' : ∀ w ∈ xn_at242, w.before args s' = true := fun w hw => vx_ot_at hW0 hvm.symm (xn_ot w (List.mem_cons_of_mem _ (List.mem_cons_of_mem _ hw))) (hat w hw)
  have hk' : (Cond.classLink RX8 238 "java/util/NoSuchElementException").before args s' = true := vx_ot_at hW0 hvm.symm (xn_ot _ List.mem_cons_self) hk
  have hini' : (Cond.initialized "java/util/NoSuchElementException").before args s' = true := vx_ot_at hW0 hvm.symm (xn_ot _ (List.mem_cons_of_mem _ List.mem_cons_self)) hini
  have hU' : vx_Zq Bundle.tN "UNASSIGNED_STACK" Bundle.steD A s' s'.heap := by rw [hhp]; exact vx_Zq.moved hW0.alike (hU.kept hS.2.1)
  have hN' : vx_Zq Bundle.tN "SUPPRESSED_SENTINEL" Bundle.listD A s' s'.heap := by rw [hhp]; exact vx_Zq.moved hW0.alike (hN.kept hS.2.1)
  have h : ∀ w ∈ xn_atoms, w.before args s' = true := vx_own hat' (vx_isRefq hU'.1) (vx_isRefq hN'.1) hU'.2.word hN'.2.word
  have hown' : s'.vm.findClass RX8 = some m.cls := by rw [hvm]; exact hown
  have hins : (Cond.instantiable "java/util/NoSuchElementException" 6).before args s' = true := h _ (by simp [xn_atoms])
  obtain ⟨vm₁, cX, kX, hfX, hkX, -, -, X₁, st1⟩ := Y.newCold hexec (own := RX8) (C := "java/util/NoSuchElementException") (index := 238) (n := 6) hown' hk' hins hini'
    (g := F0 m pc ls rest) rfl (by rw [hb]; exact d0) (Nat.le_refl _) (Nat.le_refl _)
  generalize hT1 : (T.setVm vm₁).pushCell { cls := cX, slots := kX.instanceTypes.map defaultValue, vm := .none } = T1 at X₁ st1
  have hcat : (Value.ref T.heap.size).category = 1 := rfl
  have hcellA : T1.heap[T.heap.size]? = some (freshCell cX kX) := by rw [← hT1]; exact State.heap_pushCell_size _ _
  have d3' : decode c.code (pc + 3) = .ok (.dup, 1) := by rw [hb]; exact d3
  have d4' : decode c.code (pc + 4) = .ok (.ldc_w is, 3) := by rw [hb]; exact d4
  have hstr' : vk_R RX8 is text sa s' := vk_R.warm hW0 hstr
  obtain ⟨U, hsteps, hrun, hend, hW, hsame, ce, hce, hcv, hcc⟩ := n_ctorThrow X₁ hexec htr hown' h (fun x hx => nomatch hx) hfX hkX hcellA (by rw [hhp, hT]; exact Nat.le_refl _) (msg := .ref sa) rfl
    (g := { method := m, pc := pc + 7, locals := ls, stack := .ref sa :: .ref T.heap.size :: .ref T.heap.size :: rest, locked := none }) rfl hsize rfl rfl (rest := rest) rfl
    (by rw [hb]; exact d6) (by rw [hb]; exact d9) hout hRframes (by simp only [List.map_cons, List.sum_cons, hcat]; show 2 * 0 + _ + 81 ≤ _; omega) hlocks
  obtain ⟨f1, f2⟩ := vx_frame hsame
  rw [hhp] at f1 f2
  have hWs : s.WarmedH U.vm := State.WarmedH.trans hW0 hW
  have hcl : s.vm.findClass "java/util/NoSuchElementException" = some ce.cls := by
    rw [hvm] at hcc
    exact hcc
  have hall : s.sameButNew ({ U with vm := s.vm } : State) locs mc ms := by
    subst hA
    obtain ⟨e1, e2⟩ := hsame
    rw [State.setFrames_setFrames] at e1
    have h2 : (T.setVm s.vm).sameButNew ({ U with vm := s.vm } : State) [] (0 + 1) (0 + 6) := ⟨e1, e2⟩
    have h3 := X.same.trans h2
    rw [List.append_nil] at h3
    exact h3.mono hc hs
  refine ⟨U, ?_, .threw T.heap.size, hrun, hend, Or.inr ⟨T.heap.size, rfl, "java/util/NoSuchElementException", ce, locs, hx U hWs.alike f1 (fun q hq => f2 q hq (fun z hz => nomatch hz)), hce, hcv, hcl, hWs, hall, hf⟩⟩
  refine st1 _ ?_
  show Steps p.tables e below (T1.setTop { method := m, pc := pc + 3, locals := ls, stack := .ref T.heap.size :: rest, locked := none }) _
  jvm_step X₁.here [X₁.here.top, hexec, d3', Value.category]
  exact X₁.ldcStringW hexec (own := RX8) (text := text) (index := is) (a := sa) hown' hstr'.1 hstr'.2
    (g := { method := m, pc := pc + 4, locals := ls, stack := .ref T.heap.size :: .ref T.heap.size :: rest, locked := none }) rfl d4' _ hsteps
theorem n_throw (hexec : p.tables.exec = Jvm.exec) {cc : ByteArray} {pc : Nat} {D : va_G} {cl : List vw_C} {n : Nat} {q : Nat → Nat} {X : gX} {σ : TS} (hb : c.code = cc) (hl : l.stackTraces = false) {ws : List Cond} {is : Nat} {text : String}
    (hown : s.vm.findClass RX8 = some m.cls) (hts : ∀ w ∈ ws, w.before args s = true) (hX : xPre A s) (hw : ∀ w ∈ xn_at242.filter goodWord, w ∈ ws)
    (hlk : Cond.classLink RX8 238 "java/util/NoSuchElementException" ∈ ws) (hini : Cond.initialized "java/util/NoSuchElementException" ∈ ws) (hstr : (is, text) ∈ xStrs)
    (hP : va_P D cl (gS n q X σ) H) (hS : va_S A s.heap H locs) (hsize : ls.size = c.maxLocals)
    (d0 : decode cc pc = .ok (.new 238, 3)) (d3 : decode cc (pc + 3) = .ok (.dup, 1)) (d4 : decode cc (pc + 4) = .ok (.ldc is, 2)) (d6 : decode cc (pc + 6) = .ok (.invokespecial 242, 3)) (d9 : decode cc (pc + 9) = .ok (.athrow, 1))
    (hex : ∀ x ∈ c.exceptionTable.toList, False) (hRf : 5 < R.frames) (hRl : (rest.map fun v => v.category).sum + 82 ≤ R.locals) (hRc : cells + 1 ≤ R.cells) (hRs : slots + 6 ≤ R.slots) (hlocks : meth.locks = false) (hmc : cells + 1 ≤ mc) (hms : slots + 6 ≤ ms) :
    W p l e R s m args below meth c H locs cells slots (vx_MQ below Qc (gXx D cl (.inr 5) (gS n q X σ) A) args s mc ms A) (F0 m pc ls rest) := by
  obtain ⟨sa, hsa⟩ := hX.2.2.1 _ hstr
  have hat : ∀ w ∈ xn_at242, w.before args s = true := vx_hat (B := xBad "java/util/NoSuchElementException") (fun w h => hts w (hw w h)) (fun w h => by rw [xn_bad] at h; exact h) (x_bad hX (by decide +kernel))
  exact n_throw0 (text := text) (sa := sa) hexec hb hl hown (hts _ hlk) (hts _ hini) hsa hat hX.1 hX.2.1 hS hsize d0 d3 d4 d6 d9 (fun x hx => (hex x hx).elim) hRf hRl hRc hRs hlocks
    (fun t hvm hz hkeep => ⟨(), trivial, ⟨⟨5, rfl, by decide⟩, hP.kept (fun j x hj => hkeep _ (hP j x hj).lt)⟩, ⟨Nat.le_trans hS.1 hz, fun y h1 h2 => (hkeep y (Nat.lt_of_lt_of_le h1 hS.1)).trans (hS.2.1 y h1 h2)⟩⟩) hS.2.2 hmc hms
theorem n_throwW (hexec : p.tables.exec = Jvm.exec) {cc : ByteArray} {pc : Nat} {D : va_G} {cl : List vw_C} {n : Nat} {q : Nat → Nat} {X : gX} {σ : TS} (hb : c.code = cc) (hl : l.stackTraces = false) {ws : List Cond} {is : Nat} {text : String}
    (hown : s.vm.findClass RX8 = some m.cls) (hts : ∀ w ∈ ws, w.before args s = true) (hX : xPre A s) (hw : ∀ w ∈ xn_at242.filter goodWord, w ∈ ws)
    (hlk : Cond.classLink RX8 238 "java/util/NoSuchElementException" ∈ ws) (hini : Cond.initialized "java/util/NoSuchElementException" ∈ ws) (hstr : (is, text) ∈ xStrs)
    (hP : va_P D cl (gS n q X σ) H) (hS : va_S A s.heap H locs) (hsize : ls.size = c.maxLocals)
    (d0 : decode cc pc = .ok (.new 238, 3)) (d3 : decode cc (pc + 3) = .ok (.dup, 1)) (d4 : decode cc (pc + 4) = .ok (.ldc_w is, 3)) (d6 : decode cc (pc + 7) = .ok (.invokespecial 242, 3)) (d9 : decode cc (pc + 10) = .ok (.athrow, 1))
    (hex : ∀ x ∈ c.exceptionTable.toList, False) (hRf : 5 < R.frames) (hRl : (rest.map fun v => v.category).sum + 82 ≤ R.locals) (hRc : cells + 1 ≤ R.cells) (hRs : slots + 6 ≤ R.slots) (hlocks : meth.locks = false) (hmc : cells + 1 ≤ mc) (hms : slots + 6 ≤ ms) :
    W p l e R s m args below meth c H locs cells slots (vx_MQ below Qc (gXx D cl (.inr 5) (gS n q X σ) A) args s mc ms A) (F0 m pc ls rest) := by
  obtain ⟨sa, hsa⟩ := hX.2.2.1 _ hstr
  have hat : ∀ w ∈ xn_at242, w.before args s = true := vx_hat (B := xBad "java/util/NoSuchElementException") (fun w h => hts w (hw w h)) (fun w h => by rw [xn_bad] at h; exact h) (x_bad hX (by decide +kernel))
  exact n_throw0W (text := text) (sa := sa) hexec hb hl hown (hts _ hlk) (hts _ hini) hsa hat hX.1 hX.2.1 hS hsize d0 d3 d4 d6 d9 (fun x hx => (hex x hx).elim) hRf hRl hRc hRs hlocks
    (fun t hvm hz hkeep => ⟨(), trivial, ⟨⟨5, rfl, by decide⟩, hP.kept (fun j x hj => hkeep _ (hP j x hj).lt)⟩, ⟨Nat.le_trans hS.1 hz, fun y h1 h2 => (hkeep y (Nat.lt_of_lt_of_le h1 hS.1)).trans (hS.2.1 y h1 h2)⟩⟩) hS.2.2 hmc hms
end XNT

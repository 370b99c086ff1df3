/-! ===== the law's body: calls over several worlds ===== -/
section LK
variable {p : Program} {l : Launch} {e : Env} {R : Room} {s : State} {m : MethodId} {args : Array Value} {below : List Frame} {meth : Method} {c : Code} {H : Heap} {locs : List Loc} {cells slots : Nat} {Q : State → Prop}
variable {cc : ByteArray} {pc : Nat} {ls : Array Slot} {rest : List Value} {D : va_G} {cl : List vw_C} {tys : List (ClassId × FieldType)} {A1 A2 : Nat → Prop}
variable {own C : String} {y : MethodName} {bytes : ByteArray} {maxL nn index nL mc ms : Nat} {ret : Option FieldType} {hh : List (Nat × Nat × Nat × Nat)} {ws Ts : List Cond} {rm : Room} {W0 W1 WO O0 O1 : va_W} {b : Nat} {As stk : List Value}
theorem l_cVi {r : Int32} (hx : p.tables.exec = Jvm.exec) (hb : c.code = cc) (hml : c.maxLocals = nL) (hown : s.vm.findClass own = some m.cls) (hts : ∀ w ∈ Ts, w.before args s = true) (hK : va_K D cl tys s) (hA : ∀ a, A1 a → A2 a) (hP : va_P D cl W0 H) (hO : va_P D cl WO H) (hdis : ∀ (k : Nat) (x : Nat × va_E), WO[k]? = some x → ¬ A1 x.1) (hS : va_S A2 s.heap H locs)
    (hM : Met l y ws rm (va_Pc (.ref b :: As) (gPre D cl tys W0)) (gQi D cl r W1 A1) 0 0 A1) (cw : CallW R s args own C index y bytes maxL ret ws rm 0 0 nn) (hrecv : ∃ cellB : Cell, H[b]? = some cellB ∧ cellB.vm.isStatics = false ∧ s.vm.findClass C = some cellB.cls)
    (hn : As.length = nn) (hsize : ls.size = nL) (hstk : stk = As.reverse ++ .ref b :: rest) (hW : (rest.map fun v => v.category).sum ≤ 8) (hdg : decode cc pc = .ok (.invokevirtual index, 3)) (hf : cells ≤ R.cells ∧ slots ≤ R.slots)
    (kk : ∀ (H1 : Heap) (locs1 : List Loc), va_P D cl W1 H1 → va_P D cl WO H1 → va_S A2 s.heap H1 locs1 → W p l e R s m args below meth c H1 locs1 cells slots Q (F0 m (pc + 3) ls (.int r :: rest))) : W p l e R s m args below meth c H locs cells slots Q (F0 m pc ls stk) := by
  subst hstk
  refine va_calli (va_runV (As := As) (rest := rest) ⟨hx, hb, hml, hown, hts⟩ hM cw ⟨gPre_blind, hrecv, fun U hU hWm => ⟨rfl, by rw [hU]; exact hP, va_K.moved hWm.alike hK⟩⟩ rfl hn hsize rfl (lv_room hW) hdg hf) hS (fun a _ h => hA a h) hA (fun r' u t H1 locs1 ht hvm hw hB hz1 hk1 hS1 => ?_)
  subst hw
  rw [ht] at hB
  exact kk H1 locs1 hB (h_keep hO hdis hk1) hS1
theorem l_cVl {r : Int64} (hx : p.tables.exec = Jvm.exec) (hb : c.code = cc) (hml : c.maxLocals = nL) (hown : s.vm.findClass own = some m.cls) (hts : ∀ w ∈ Ts, w.before args s = true) (hK : va_K D cl tys s) (hA : ∀ a, A1 a → A2 a) (hP : va_P D cl W0 H) (hO : va_P D cl WO H) (hdis : ∀ (k : Nat) (x : Nat × va_E), WO[k]? = some x → ¬ A1 x.1) (hS : va_S A2 s.heap H locs)
    (hM : Met l y ws rm (va_Pc (.ref b :: As) (gPre D cl tys W0)) (gQl D cl r W1 A1) 0 0 A1) (cw : CallW R s args own C index y bytes maxL ret ws rm 0 0 nn) (hrecv : ∃ cellB : Cell, H[b]? = some cellB ∧ cellB.vm.isStatics = false ∧ s.vm.findClass C = some cellB.cls)
    (hn : As.length = nn) (hsize : ls.size = nL) (hstk : stk = As.reverse ++ .ref b :: rest) (hW : (rest.map fun v => v.category).sum ≤ 8) (hdg : decode cc pc = .ok (.invokevirtual index, 3)) (hf : cells ≤ R.cells ∧ slots ≤ R.slots)
    (kk : ∀ (H1 : Heap) (locs1 : List Loc), va_P D cl W1 H1 → va_P D cl WO H1 → va_S A2 s.heap H1 locs1 → W p l e R s m args below meth c H1 locs1 cells slots Q (F0 m (pc + 3) ls (.long r :: rest))) : W p l e R s m args below meth c H locs cells slots Q (F0 m pc ls stk) := by
  subst hstk
  refine va_calll (va_runV (As := As) (rest := rest) ⟨hx, hb, hml, hown, hts⟩ hM cw ⟨gPre_blind, hrecv, fun U hU hWm => ⟨rfl, by rw [hU]; exact hP, va_K.moved hWm.alike hK⟩⟩ rfl hn hsize rfl (lv_room hW) hdg hf) hS (fun a _ h => hA a h) hA (fun r' u t H1 locs1 ht hvm hw hB hz1 hk1 hS1 => ?_)
  subst hw
  rw [ht] at hB
  exact kk H1 locs1 hB (h_keep hO hdis hk1) hS1
theorem l_cVf {r : UInt32} (hx : p.tables.exec = Jvm.exec) (hb : c.code = cc) (hml : c.maxLocals = nL) (hown : s.vm.findClass own = some m.cls) (hts : ∀ w ∈ Ts, w.before args s = true) (hK : va_K D cl tys s) (hA : ∀ a, A1 a → A2 a) (hP : va_P D cl W0 H) (hO : va_P D cl WO H) (hdis : ∀ (k : Nat) (x : Nat × va_E), WO[k]? = some x → ¬ A1 x.1) (hS : va_S A2 s.heap H locs)
    (hM : Met l y ws rm (va_Pc (.ref b :: As) (gPre D cl tys W0)) (gQf D cl r W1 A1) 0 0 A1) (cw : CallW R s args own C index y bytes maxL ret ws rm 0 0 nn) (hrecv : ∃ cellB : Cell, H[b]? = some cellB ∧ cellB.vm.isStatics = false ∧ s.vm.findClass C = some cellB.cls)
    (hn : As.length = nn) (hsize : ls.size = nL) (hstk : stk = As.reverse ++ .ref b :: rest) (hW : (rest.map fun v => v.category).sum ≤ 8) (hdg : decode cc pc = .ok (.invokevirtual index, 3)) (hf : cells ≤ R.cells ∧ slots ≤ R.slots)
    (kk : ∀ (H1 : Heap) (locs1 : List Loc), va_P D cl W1 H1 → va_P D cl WO H1 → va_S A2 s.heap H1 locs1 → W p l e R s m args below meth c H1 locs1 cells slots Q (F0 m (pc + 3) ls (.float r :: rest))) : W p l e R s m args below meth c H locs cells slots Q (F0 m pc ls stk) := by
  subst hstk
  refine va_callf (va_runV (As := As) (rest := rest) ⟨hx, hb, hml, hown, hts⟩ hM cw ⟨gPre_blind, hrecv, fun U hU hWm => ⟨rfl, by rw [hU]; exact hP, va_K.moved hWm.alike hK⟩⟩ rfl hn hsize rfl (lv_room hW) hdg hf) hS (fun a _ h => hA a h) hA (fun r' u t H1 locs1 ht hvm hw hB hz1 hk1 hS1 => ?_)
  subst hw
  rw [ht] at hB
  exact kk H1 locs1 hB (h_keep hO hdis hk1) hS1
theorem l_cVd {r : UInt64} (hx : p.tables.exec = Jvm.exec) (hb : c.code = cc) (hml : c.maxLocals = nL) (hown : s.vm.findClass own = some m.cls) (hts : ∀ w ∈ Ts, w.before args s = true) (hK : va_K D cl tys s) (hA : ∀ a, A1 a → A2 a) (hP : va_P D cl W0 H) (hO : va_P D cl WO H) (hdis : ∀ (k : Nat) (x : Nat × va_E), WO[k]? = some x → ¬ A1 x.1) (hS : va_S A2 s.heap H locs)
    (hM : Met l y ws rm (va_Pc (.ref b :: As) (gPre D cl tys W0)) (gQd D cl r W1 A1) 0 0 A1) (cw : CallW R s args own C index y bytes maxL ret ws rm 0 0 nn) (hrecv : ∃ cellB : Cell, H[b]? = some cellB ∧ cellB.vm.isStatics = false ∧ s.vm.findClass C = some cellB.cls)
    (hn : As.length = nn) (hsize : ls.size = nL) (hstk : stk = As.reverse ++ .ref b :: rest) (hW : (rest.map fun v => v.category).sum ≤ 8) (hdg : decode cc pc = .ok (.invokevirtual index, 3)) (hf : cells ≤ R.cells ∧ slots ≤ R.slots)
    (kk : ∀ (H1 : Heap) (locs1 : List Loc), va_P D cl W1 H1 → va_P D cl WO H1 → va_S A2 s.heap H1 locs1 → W p l e R s m args below meth c H1 locs1 cells slots Q (F0 m (pc + 3) ls (.double r :: rest))) : W p l e R s m args below meth c H locs cells slots Q (F0 m pc ls stk) := by
  subst hstk
  refine va_calld (va_runV (As := As) (rest := rest) ⟨hx, hb, hml, hown, hts⟩ hM cw ⟨gPre_blind, hrecv, fun U hU hWm => ⟨rfl, by rw [hU]; exact hP, va_K.moved hWm.alike hK⟩⟩ rfl hn hsize rfl (lv_room hW) hdg hf) hS (fun a _ h => hA a h) hA (fun r' u t H1 locs1 ht hvm hw hB hz1 hk1 hS1 => ?_)
  subst hw
  rw [ht] at hB
  exact kk H1 locs1 hB (h_keep hO hdis hk1) hS1
theorem l_cS {r : Int32} (hx : p.tables.exec = Jvm.exec) (hb : c.code = cc) (hml : c.maxLocals = nL) (hown : s.vm.findClass own = some m.cls) (hts : ∀ w ∈ Ts, w.before args s = true) (hK : va_K D cl tys s) (hX : xPre A2 s) (hNt : ∀ k ∈ xNots, va_Nc k.1 k.2 s) (hA : ∀ a, A1 a → A2 a) (hP : va_P D cl W0 H) (hO : va_P D cl O0 H) (hQ : va_P D cl WO H) (hdis : ∀ (k : Nat) (x : Nat × va_E), WO[k]? = some x → ¬ A1 x.1) (hS : va_S A2 s.heap H locs)
    (hM : Met l y ws rm (va_Pc As (hPre D cl tys W0 O0 A1)) (va_Qi (fun r' (_ : Unit) => r' = r) (fun _ t => va_P D cl W1 t.heap ∧ va_P D cl O1 t.heap) A1) mc ms A1) (cw : vx_CSW R s args own index y bytes maxL ret hh ws rm mc ms nn)
    (hn : As.length = nn) (hsize : ls.size = nL) (hstk : stk = As.reverse ++ rest) (hW : (rest.map fun v => v.category).sum ≤ 8) (hdg : decode cc pc = .ok (.invokestatic index, 3)) (hf : cells + mc ≤ R.cells ∧ slots + ms ≤ R.slots)
    (kk : ∀ (H1 : Heap) (locs1 : List Loc), va_P D cl W1 H1 → va_P D cl O1 H1 → va_P D cl WO H1 → va_S A2 s.heap H1 locs1 → W p l e R s m args below meth c H1 locs1 (cells + mc) (slots + ms) Q (F0 m (pc + 3) ls (.int r :: rest))) : W p l e R s m args below meth c H locs cells slots Q (F0 m pc ls stk) := by
  subst hstk
  refine va_calli (vx_runSW (As := As) (rest := rest) ⟨hx, hb, hml, hown, hts⟩ hM cw ⟨hPre_blind, fun U hU hWm => ⟨rfl, ⟨by rw [hU]; exact hP, by rw [hU]; exact hO, va_K.moved hWm.alike hK⟩, xPre_narrow (xPre_to hX hS hU hWm) hA, fun k hk => h_nc hWm.alike (hNt k hk)⟩⟩ rfl hn hsize rfl (lv_room hW) hdg hf) hS (fun a _ h => hA a h) hA (fun r' u t H1 locs1 ht hvm hw hB hz1 hk1 hS1 => ?_)
  subst hw
  rw [ht] at hB
  exact kk H1 locs1 hB.1 hB.2 (h_keep hQ hdis hk1) hS1
end LK
theorem l_cmp0 (x : Int64) : lg_cmp x x = 0 := by simp [lg_cmp]
/-- what stays the same over the law's whole run -/
def lF (p : Program) (l : Launch) (s : State) (m : MethodId) (args : Array Value) (c : Code) (b L : Nat) (xs : Nat → Int32) (D : va_G) (cy : Nat → ClassId) (q q2 : Nat → Nat) (o : Nat) : Prop :=
  p.tables.exec = Jvm.exec ∧ c.code = cL_law ∧ c.maxLocals = 9 ∧ s.vm.findClass RL = some m.cls ∧ (∀ w ∈ wsL_law, w.before args s = true) ∧ va_X b L xs s s.heap ∧ b < s.heap.size ∧ L ≤ 2560 ∧ va_K D vwCl (tyL cy) s ∧ xPre (fun a => s.heap.size ≤ a) s ∧ (∀ k ∈ xNots, va_Nc k.1 k.2 s) ∧ l.stackTraces = false ∧ gJ 78 q ∧ gJ 39 q2 ∧ (∀ a, gA 78 q a → s.heap.size ≤ a) ∧ (∀ a, gA 39 q2 a → s.heap.size ≤ a) ∧ s.heap.size ≤ o ∧ (∀ a, gA 39 q2 a → ¬ gA 78 q a) ∧ ¬ gA 78 q o ∧ ¬ gA 39 q2 o
theorem l_dM {n : Nat} {q : Nat → Nat} {X : gX} {σ : TS} {B : Nat → Prop} (h : ∀ a, gA n q a → ¬ B a) : ∀ (k : Nat) (x : Nat × va_E), (gS n q X σ)[k]? = some x → ¬ B x.1 := by
  intro k x hx
  obtain ⟨hk, rfl⟩ := gW_inv hx
  exact h _ ⟨k, hk, rfl⟩
theorem l_app {W1 W2 : va_W} {B : Nat → Prop} (h1 : ∀ (k : Nat) (x : Nat × va_E), W1[k]? = some x → ¬ B x.1) (h2 : ∀ (k : Nat) (x : Nat × va_E), W2[k]? = some x → ¬ B x.1) : ∀ (k : Nat) (x : Nat × va_E), (W1 ++ W2)[k]? = some x → ¬ B x.1 := by
  intro k x hx
  by_cases hl : k < W1.length
  · rw [List.getElem?_append_left hl] at hx
    exact h1 k x hx
  · rw [List.getElem?_append_right (by omega)] at hx
    exact h2 _ x hx
theorem l_sld {p : Program} {l : Launch} {e : Env} {R : Room} {s : State} {m : MethodId} {args : Array Value} {below : List Frame} {meth : Method} {c : Code} {H : Heap} {locs : List Loc} {cells slots : Nat} {Q : State → Prop} {cc : ByteArray} {pc : Nat} {ls : Array Slot} {rest : List Value} (hexec : p.tables.exec = Jvm.exec) (hb : c.code = cc) {b L j : Nat} {xs : Nat → Int32} (hX : va_X b L xs s s.heap) (hbl : b < s.heap.size) (hS : va_S (fun a => s.heap.size ≤ a) s.heap H locs) (hL0 : L ≤ 2560) {kv : Int32} (k : Nat) (hk : kv = nI k) (hL : 5 * j + k < L) (hdg : decode cc pc = .ok (.iaload, 1))
    (kk : W p l e R s m args below meth c H locs cells slots Q (F0 m (pc + 1) ls (.int (xs (5 * j + k)) :: rest))) : W p l e R s m args below meth c H locs cells slots Q (F0 m pc ls (.int (nI (5 * j) + kv) :: .ref b :: rest)) := by
  subst hk
  rw [nI_add]
  have h := nI_clamp (n := 5 * j + k) (by omega)
  refine va_sld hexec hb hX hbl (Nat.not_le.mpr hbl) hS (vp_in_nI hL (by omega)) hdg ?_
  rw [h]
  exact kk

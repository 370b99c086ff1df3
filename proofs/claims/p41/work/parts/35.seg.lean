/-! ===== the law's bodies: worlds side by side, arrays made for a call and forgotten ===== -/
theorem r_map {n : Nat} {q : Nat → Nat} {X : gX} {σ u : TS} {WO : va_W} {i : Nat} {x : Nat × va_E} (h : (gS n q X u ++ WO)[i]? = some x) : ∃ e, (gS n q X σ ++ WO)[i]? = some (x.1, e) := by
  by_cases hi : i < n
  · rw [List.getElem?_append_left (by rw [h_len]; exact hi)] at h ⊢
    obtain ⟨-, rfl⟩ := gW_inv h
    exact ⟨_, gS_get hi rfl⟩
  · rw [List.getElem?_append_right (by rw [h_len]; omega), h_len] at h ⊢
    exact ⟨x.2, h⟩
theorem r_D {n : Nat} {q : Nat → Nat} {X : gX} {σ u : TS} {WO : va_W} {A : Nat → Prop} (h : va_D A (gS n q X σ ++ WO)) : va_D A (gS n q X u ++ WO) := by
  refine ⟨fun i j x y hi hj e => ?_, fun k x hk => ?_⟩
  · obtain ⟨e1, h1⟩ := r_map (σ := σ) hi
    obtain ⟨e2, h2⟩ := r_map (σ := σ) hj
    exact h.1 i j _ _ h1 h2 e
  · obtain ⟨e1, h1⟩ := r_map (σ := σ) hk
    exact h.2 k (x.1, e1) h1
theorem r_split {n : Nat} {q : Nat → Nat} {X : gX} {σ : TS} {WO : va_W} {A : Nat → Prop} (hD : va_D A (gS n q X σ ++ WO)) : gJ n q ∧ (∀ a, gA n q a → A a) ∧ (∀ (k : Nat) (x : Nat × va_E), WO[k]? = some x → ¬ gA n q x.1) := by
  have g1 : ∀ i, i < n → (gS n q X σ ++ WO)[i]? = some (q i, X i (σ i)) := fun i hi => by
    rw [List.getElem?_append_left (by rw [h_len]; exact hi)]
    exact gS_get hi rfl
  refine ⟨fun i j hi hj h => hD.1 i j _ _ (g1 i hi) (g1 j hj) h, ?_, ?_⟩
  · rintro a ⟨i, hi, rfl⟩
    exact hD.2 _ _ (g1 i hi)
  · rintro k x hk ⟨i, hi, h⟩
    have g2 : (gS n q X σ ++ WO)[n + k]? = some x := by
      rw [List.getElem?_append_right (by rw [h_len]; omega), h_len, Nat.add_sub_cancel_left]
      exact hk
    have h2 := hD.1 _ _ _ _ g2 (g1 i hi) h
    omega
/-- what a body of the law has at hand all along -/
def lG (p : Program) (l : Launch) (s : State) (m : MethodId) (args : Array Value) (c : Code) (cc : ByteArray) (nL : Nat) (ws : List Cond) (D : va_G) (cy : Nat → ClassId) (b L : Nat) (xs : Nat → Int32) : Prop :=
  p.tables.exec = Jvm.exec ∧ c.code = cc ∧ c.maxLocals = nL ∧ s.vm.findClass RL = some m.cls ∧ (∀ w ∈ ws, w.before args s = true) ∧ va_K D vwCl (tyL cy) s ∧ xPre (fun a => s.heap.size ≤ a) s ∧ (∀ k ∈ xNots, va_Nc k.1 k.2 s) ∧ l.stackTraces = false ∧ nN nlX8 s ∧ va_X b L xs s s.heap ∧ b < s.heap.size
/-- before flips, sticks, full -/
def fPre (D : va_G) (cy : Nat → ClassId) (b L : Nat) (xs : Nat → Int32) : State → Prop := fun U => (va_K D vwCl (tyL cy) U ∧ nN nlX8 U) ∧ (xPre (fun a => U.heap.size ≤ a) U ∧ ∀ k ∈ xNots, va_Nc k.1 k.2 U) ∧ va_X b L xs U U.heap ∧ b < U.heap.size
section SG
variable {p : Program} {l : Launch} {e : Env} {R : Room} {s : State} {m : MethodId} {args : Array Value} {below : List Frame} {meth : Method} {c : Code} {H : Heap} {locs : List Loc} {cells slots : Nat} {Q : State → Prop}
variable {cc : ByteArray} {pc : Nat} {ls : Array Slot} {rest : List Value} {D : va_G} {cy : Nat → ClassId} {A A2 : Nat → Prop} {H0 : Heap}
theorem ar_st {ws : va_W} {a n : Nat} {f : Nat → Int32} (hexec : p.tables.exec = Jvm.exec) (hb : c.code = cc) (hK : va_K D vwCl (tyL cy) s) (hP : va_P D vwCl (ws ++ iW a cy n f) H) (hD : va_D A (ws ++ iW a cy n f)) (hS : va_S A H0 H locs) {i x : Int32} {j : Nat} (hin : vin i n = true) (hj : i.toNatClampNeg = j) (hdg : decode cc pc = .ok (.iastore, 1))
    (kk : ∀ (H1 : Heap) (locs1 : List Loc), va_P D vwCl (ws ++ iW a cy n (upd f j x)) H1 → va_D A (ws ++ iW a cy n (upd f j x)) → va_S A H0 H1 locs1 → W p l e R s m args below meth c H1 locs1 cells slots Q (F0 m (pc + 1) ls rest)) : W p l e R s m args below meth c H locs cells slots Q (F0 m pc ls (.int x :: .int i :: .ref a :: rest)) := by
  subst hj
  have hset : ∀ z : Nat × va_E, (ws ++ iW a cy n f).set ws.length z = ws ++ [z] := fun z => by
    rw [List.set_append_right _ _ (Nat.le_refl _), Nat.sub_self]
    rfl
  refine va_iast hexec hb hK hP hD hS ws.length 0 (by rw [List.getElem?_append_right (Nat.le_refl _), Nat.sub_self]; rfl) rfl (vin_of hin) hdg (fun H1 locs1 hP1 hD1 hS1 => ?_)
  rw [hset] at hP1 hD1
  exact kk H1 locs1 hP1 hD1 hS1
theorem ar_new {ws : va_W} (hexec : p.tables.exec = Jvm.exec) (hb : c.code = cc) (harr : (Cond.arrayClass .int).before args s = true) (hK : va_K D vwCl (tyL cy) s) (hP : va_P D vwCl ws H) (hD : va_D A ws) (hS : va_S A H0 H locs) (hA : ∀ q, H0.size ≤ q → A q) {n : Int32} {N' : Nat} (hn : ¬ n < 0) (hN : n.toNatClampNeg = N') (hb2 : N' * 4 ≤ 536870912) (hcells : cells + 1 ≤ R.cells) (hslots : slots + N' ≤ R.slots) (hdg : decode cc pc = .ok (.newarray .int, 2))
    (kk : ∀ (a : Nat) (H1 : Heap), va_P D vwCl (ws ++ iW a cy N' (fun _ => 0)) H1 → va_D A (ws ++ iW a cy N' (fun _ => 0)) → va_S A H0 H1 locs → W p l e R s m args below meth c H1 locs (cells + 1) (slots + N') Q (F0 m (pc + 2) ls (.ref a :: rest))) : W p l e R s m args below meth c H locs cells slots Q (F0 m pc ls (.int n :: rest)) :=
  n_newa (atype := .int) (ty := .int) (N' := N') (a0 := (N', .inl (fun _ => 0))) hexec hb harr rfl hK hP hD hS hA 0 rfl (fun _ => rfl) hn hN hb2 hcells hslots hdg kk
section SGC
variable {own C : String} {y : MethodName} {bytes : ByteArray} {maxL nn index nL mc ms : Nat} {ret : Option FieldType} {hh : List (Nat × Nat × Nat × Nat)} {ws Ts : List Cond} {rm : Room} {WO : va_W} {b : Nat} {As stk : List Value} {q : Nat → Nat} {X : gX} {σ u : TS}
/-- ask, over an array made for it -/
theorem ar_ask {r : Int32} {a n : Nat} {f : Nat → Int32} (hx : p.tables.exec = Jvm.exec) (hb : c.code = cc) (hml : c.maxLocals = nL) (hown : s.vm.findClass own = some m.cls) (hts : ∀ w ∈ Ts, w.before args s = true) (hK : va_K D vwCl (tyL cy) s) (hX : xPre A2 s) (hNt : ∀ k ∈ xNots, va_Nc k.1 k.2 s) (hP : va_P D vwCl ((gS 78 q X σ ++ WO) ++ iW a cy n f) H) (hD : va_D A2 ((gS 78 q X σ ++ WO) ++ iW a cy n f)) (hS : va_S A2 s.heap H locs)
    (hM : gJ 78 q → ¬ gA 78 q a → Met l y ws rm (va_Pc As (hPre D vwCl (tyL cy) (gS 78 q X σ) (iW a cy n f) (gA 78 q))) (gQi D vwCl r (gS 78 q X u) (gA 78 q)) mc ms (gA 78 q)) (cw : vx_CSW R s args own index y bytes maxL ret hh ws rm mc ms nn)
    (hn : As.length = nn) (hsize : ls.size = nL) (hstk : stk = As.reverse ++ rest) (hW : (rest.map fun v => v.category).sum ≤ 8) (hdg : decode cc pc = .ok (.invokestatic index, 3)) (hf : cells + mc ≤ R.cells ∧ slots + ms ≤ R.slots)
    (kk : ∀ (H1 : Heap) (locs1 : List Loc), va_P D vwCl (gS 78 q X u ++ WO) H1 → va_D A2 (gS 78 q X u ++ WO) → va_S A2 s.heap H1 locs1 → W p l e R s m args below meth c H1 locs1 (cells + mc) (slots + ms) Q (F0 m (pc + 3) ls (.int r :: rest))) : W p l e R s m args below meth c H locs cells slots Q (F0 m pc ls stk) := by
  subst hstk
  have hD0 := w_firstD hD
  obtain ⟨hJ, hA, hdis⟩ := r_split hD0
  have ha : ¬ gA 78 q a := by
    rintro ⟨i, hi, h⟩
    have g1 : ((gS 78 q X σ ++ WO) ++ iW a cy n f)[i]? = some (q i, X i (σ i)) := by
      rw [List.getElem?_append_left (by rw [List.length_append, h_len]; omega), List.getElem?_append_left (by rw [h_len]; exact hi)]
      exact gS_get hi rfl
    have g2 : ((gS 78 q X σ ++ WO) ++ iW a cy n f)[(gS 78 q X σ ++ WO).length]? = some (a, .inl (cy 0, n, .inl f)) := by
      rw [List.getElem?_append_right (Nat.le_refl _), Nat.sub_self]
      rfl
    have h2 := hD.1 _ _ _ _ g2 g1 h
    rw [List.length_append, h_len] at h2
    omega
  have hPT := w_first (w_first hP)
  have hPO := w_last (w_first hP)
  have hPa := w_last hP
  refine va_calli (vx_runSW (As := As) (rest := rest) ⟨hx, hb, hml, hown, hts⟩ (hM hJ ha) cw ⟨hPre_blind, fun U hU hWm => ⟨rfl, ⟨by rw [hU]; exact hPT, by rw [hU]; exact hPa, va_K.moved hWm.alike hK⟩, xPre_narrow (xPre_to hX hS hU hWm) hA, fun k hk => h_nc hWm.alike (hNt k hk)⟩⟩ rfl hn hsize rfl (lv_room hW) hdg hf) hS (fun a _ h => hA a h) hA (fun r' u t H1 locs1 ht hvm hw hB hz1 hk1 hS1 => ?_)
  subst hw
  rw [ht] at hB
  exact kk H1 locs1 (hB.app (h_keep hPO hdis hk1)) (r_D hD0) hS1
/-- a method of the class that doesn't throw -/
theorem ar_cVi {r : Int32} (hx : p.tables.exec = Jvm.exec) (hb : c.code = cc) (hml : c.maxLocals = nL) (hown : s.vm.findClass own = some m.cls) (hts : ∀ w ∈ Ts, w.before args s = true) (hK : va_K D vwCl (tyL cy) s) (hP : va_P D vwCl (gS 78 q X σ ++ WO) H) (hD : va_D A2 (gS 78 q X σ ++ WO)) (hS : va_S A2 s.heap H locs)
    (hM : gJ 78 q → Met l y ws rm (va_Pc (.ref b :: As) (gPre D vwCl (tyL cy) (gS 78 q X σ))) (gQi D vwCl r (gS 78 q X u) (gA 78 q)) 0 0 (gA 78 q)) (cw : CallW R s args own C index y bytes maxL ret ws rm 0 0 nn) (hrecv : ∃ cellB : Cell, H[b]? = some cellB ∧ cellB.vm.isStatics = false ∧ s.vm.findClass C = some cellB.cls)
    (hn : As.length = nn) (hsize : ls.size = nL) (hstk : stk = As.reverse ++ .ref b :: rest) (hW : (rest.map fun v => v.category).sum ≤ 8) (hdg : decode cc pc = .ok (.invokevirtual index, 3)) (hf : cells ≤ R.cells ∧ slots ≤ R.slots)
    (kk : ∀ (H1 : Heap) (locs1 : List Loc), va_P D vwCl (gS 78 q X u ++ WO) H1 → va_D A2 (gS 78 q X u ++ WO) → va_S A2 s.heap H1 locs1 → W p l e R s m args below meth c H1 locs1 cells slots Q (F0 m (pc + 3) ls (.int r :: rest))) : W p l e R s m args below meth c H locs cells slots Q (F0 m pc ls stk) := by
  subst hstk
  obtain ⟨hJ, hA, hdis⟩ := r_split hD
  refine va_calli (va_runV (As := As) (rest := rest) ⟨hx, hb, hml, hown, hts⟩ (hM hJ) cw ⟨gPre_blind, hrecv, fun U hU hWm => ⟨rfl, by rw [hU]; exact w_first hP, va_K.moved hWm.alike hK⟩⟩ rfl hn hsize rfl (lv_room hW) hdg hf) hS (fun a _ h => hA a h) hA (fun r' u t H1 locs1 ht hvm hw hB hz1 hk1 hS1 => ?_)
  subst hw
  rw [ht] at hB
  exact kk H1 locs1 (hB.app (h_keep (w_last hP) hdis hk1)) (r_D hD) hS1
theorem ar_cVf {r : UInt32} (hx : p.tables.exec = Jvm.exec) (hb : c.code = cc) (hml : c.maxLocals = nL) (hown : s.vm.findClass own = some m.cls) (hts : ∀ w ∈ Ts, w.before args s = true) (hK : va_K D vwCl (tyL cy) s) (hP : va_P D vwCl (gS 78 q X σ ++ WO) H) (hD : va_D A2 (gS 78 q X σ ++ WO)) (hS : va_S A2 s.heap H locs)
    (hM : gJ 78 q → Met l y ws rm (va_Pc (.ref b :: As) (gPre D vwCl (tyL cy) (gS 78 q X σ))) (gQf D vwCl r (gS 78 q X u) (gA 78 q)) 0 0 (gA 78 q)) (cw : CallW R s args own C index y bytes maxL ret ws rm 0 0 nn) (hrecv : ∃ cellB : Cell, H[b]? = some cellB ∧ cellB.vm.isStatics = false ∧ s.vm.findClass C = some cellB.cls)
    (hn : As.length = nn) (hsize : ls.size = nL) (hstk : stk = As.reverse ++ .ref b :: rest) (hW : (rest.map fun v => v.category).sum ≤ 8) (hdg : decode cc pc = .ok (.invokevirtual index, 3)) (hf : cells ≤ R.cells ∧ slots ≤ R.slots)
    (kk : ∀ (H1 : Heap) (locs1 : List Loc), va_P D vwCl (gS 78 q X u ++ WO) H1 → va_D A2 (gS 78 q X u ++ WO) → va_S A2 s.heap H1 locs1 → W p l e R s m args below meth c H1 locs1 cells slots Q (F0 m (pc + 3) ls (.float r :: rest))) : W p l e R s m args below meth c H locs cells slots Q (F0 m pc ls stk) := by
  subst hstk
  obtain ⟨hJ, hA, hdis⟩ := r_split hD
  refine va_callf (va_runV (As := As) (rest := rest) ⟨hx, hb, hml, hown, hts⟩ (hM hJ) cw ⟨gPre_blind, hrecv, fun U hU hWm => ⟨rfl, by rw [hU]; exact w_first hP, va_K.moved hWm.alike hK⟩⟩ rfl hn hsize rfl (lv_room hW) hdg hf) hS (fun a _ h => hA a h) hA (fun r' u t H1 locs1 ht hvm hw hB hz1 hk1 hS1 => ?_)
  subst hw
  rw [ht] at hB
  exact kk H1 locs1 (hB.app (h_keep (w_last hP) hdis hk1)) (r_D hD) hS1
theorem ar_cVd {r : UInt64} (hx : p.tables.exec = Jvm.exec) (hb : c.code = cc) (hml : c.maxLocals = nL) (hown : s.vm.findClass own = some m.cls) (hts : ∀ w ∈ Ts, w.before args s = true) (hK : va_K D vwCl (tyL cy) s) (hP : va_P D vwCl (gS 78 q X σ ++ WO) H) (hD : va_D A2 (gS 78 q X σ ++ WO)) (hS : va_S A2 s.heap H locs)
    (hM : gJ 78 q → Met l y ws rm (va_Pc (.ref b :: As) (gPre D vwCl (tyL cy) (gS 78 q X σ))) (gQd D vwCl r (gS 78 q X u) (gA 78 q)) 0 0 (gA 78 q)) (cw : CallW R s args own C index y bytes maxL ret ws rm 0 0 nn) (hrecv : ∃ cellB : Cell, H[b]? = some cellB ∧ cellB.vm.isStatics = false ∧ s.vm.findClass C = some cellB.cls)
    (hn : As.length = nn) (hsize : ls.size = nL) (hstk : stk = As.reverse ++ .ref b :: rest) (hW : (rest.map fun v => v.category).sum ≤ 8) (hdg : decode cc pc = .ok (.invokevirtual index, 3)) (hf : cells ≤ R.cells ∧ slots ≤ R.slots)
    (kk : ∀ (H1 : Heap) (locs1 : List Loc), va_P D vwCl (gS 78 q X u ++ WO) H1 → va_D A2 (gS 78 q X u ++ WO) → va_S A2 s.heap H1 locs1 → W p l e R s m args below meth c H1 locs1 cells slots Q (F0 m (pc + 3) ls (.double r :: rest))) : W p l e R s m args below meth c H locs cells slots Q (F0 m pc ls stk) := by
  subst hstk
  obtain ⟨hJ, hA, hdis⟩ := r_split hD
  refine va_calld (va_runV (As := As) (rest := rest) ⟨hx, hb, hml, hown, hts⟩ (hM hJ) cw ⟨gPre_blind, hrecv, fun U hU hWm => ⟨rfl, by rw [hU]; exact w_first hP, va_K.moved hWm.alike hK⟩⟩ rfl hn hsize rfl (lv_room hW) hdg hf) hS (fun a _ h => hA a h) hA (fun r' u t H1 locs1 ht hvm hw hB hz1 hk1 hS1 => ?_)
  subst hw
  rw [ht] at hB
  exact kk H1 locs1 (hB.app (h_keep (w_last hP) hdis hk1)) (r_D hD) hS1
/-- a method of the class that might throw and doesn't -/
theorem ar_cXi {r : Int32} (hx : p.tables.exec = Jvm.exec) (hb : c.code = cc) (hml : c.maxLocals = nL) (hown : s.vm.findClass own = some m.cls) (hts : ∀ w ∈ Ts, w.before args s = true) (hK : va_K D vwCl (tyL cy) s) (hX : xPre A2 s) (hP : va_P D vwCl (gS 78 q X σ ++ WO) H) (hD : va_D A2 (gS 78 q X σ ++ WO)) (hS : va_S A2 s.heap H locs)
    (hM : gJ 78 q → vx_Met l y ws rm (va_Pc (.ref b :: As) (gPreX D vwCl (tyL cy) (gS 78 q X σ) (gA 78 q))) (gQx D vwCl (.inl r) (gS 78 q X u) (gA 78 q)) (gXx D vwCl (.inl r) (gS 78 q X u) (gA 78 q)) mc ms (gA 78 q)) (cw : CallW R s args own C index y bytes maxL ret ws rm mc ms nn) (hrecv : ∃ cellB : Cell, H[b]? = some cellB ∧ cellB.vm.isStatics = false ∧ s.vm.findClass C = some cellB.cls)
    (hn : As.length = nn) (hsize : ls.size = nL) (hstk : stk = As.reverse ++ .ref b :: rest) (hW : (rest.map fun v => v.category).sum ≤ 8) (hdg : decode cc pc = .ok (.invokevirtual index, 3)) (hf : cells + mc ≤ R.cells ∧ slots + ms ≤ R.slots)
    (kk : ∀ (H1 : Heap) (locs1 : List Loc), va_P D vwCl (gS 78 q X u ++ WO) H1 → va_D A2 (gS 78 q X u ++ WO) → va_S A2 s.heap H1 locs1 → W p l e R s m args below meth c H1 locs1 (cells + mc) (slots + ms) Q (F0 m (pc + 3) ls (.int r :: rest))) : W p l e R s m args below meth c H locs cells slots Q (F0 m pc ls stk) := by
  obtain ⟨hJ, hA, hdis⟩ := r_split hD
  exact h_cVi hx hb hml hown hts hK hX hA (w_first hP) (w_last hP) hdis hS (hM hJ) cw hrecv hn hsize hstk hW hdg hf (fun H1 locs1 h1 h2 h3 => kk H1 locs1 (h1.app h2) (r_D hD) h3)
/-- a static method that changes nothing old -/
theorem ar_pure {r : Int32} {W0 : va_W} {Pre : State → Prop} (hx : p.tables.exec = Jvm.exec) (hb : c.code = cc) (hml : c.maxLocals = nL) (hown : s.vm.findClass own = some m.cls) (hts : ∀ w ∈ Ts, w.before args s = true) (hP : va_P D vwCl W0 H) (hS : va_S A2 s.heap H locs)
    (hM : Met l y ws rm (va_Pc As Pre) (pQ r) mc ms yN) (cw : CallB R s args own index y bytes maxL ret ws rm mc ms nn ∧ (Cond.static y).before args s = true) (hp : PreS s H (va_Pc As Pre) As)
    (hn : As.length = nn) (hsize : ls.size = nL) (hstk : stk = As.reverse ++ rest) (hW : (rest.map fun v => v.category).sum ≤ 8) (hdg : decode cc pc = .ok (.invokestatic index, 3)) (hf : cells + mc ≤ R.cells ∧ slots + ms ≤ R.slots)
    (kk : ∀ (H1 : Heap) (locs1 : List Loc), va_P D vwCl W0 H1 → va_S A2 s.heap H1 locs1 → W p l e R s m args below meth c H1 locs1 (cells + mc) (slots + ms) Q (F0 m (pc + 3) ls (.int r :: rest))) : W p l e R s m args below meth c H locs cells slots Q (F0 m pc ls stk) := by
  subst hstk
  refine va_calli (va_runS (As := As) (rest := rest) ⟨hx, hb, hml, hown, hts⟩ hM cw hp rfl hn hsize rfl (lv_room hW) hdg hf) hS (fun a _ h => False.elim h) (fun a h => False.elim h) (fun r' u t H1 locs1 ht hvm hw hB hz1 hk1 hS1 => ?_)
  subst hw
  exact kk H1 locs1 (hP.kept fun k x hx => hk1 _ (hP k x hx).lt (fun h => h)) hS1
end SGC
/-- at(s, k) and some(v, n) -/
theorem ar_at {own : String} {index nL b L k : Nat} {xs : Nat → Int32} {Ts : List Cond} {W0 : va_W} (hx : p.tables.exec = Jvm.exec) (hb : c.code = cc) (hml : c.maxLocals = nL) (hown : s.vm.findClass own = some m.cls) (hts : ∀ w ∈ Ts, w.before args s = true) (hXs : va_X b L xs s s.heap) (hbl : b < s.heap.size) (hL : L < 2 ^ 31) (hk : k < 2 ^ 31) (hP : va_P D vwCl W0 H) (hS : va_S (fun a => s.heap.size ≤ a) s.heap H locs) (cw : CallB R s args own index yL_at cL_at 2 (some .int) wsL_at rmL_at 0 0 2 ∧ (Cond.static yL_at).before args s = true) (hsize : ls.size = nL) (hW : (rest.map fun v => v.category).sum ≤ 8) (hdg : decode cc pc = .ok (.invokestatic index, 3)) (hf : cells ≤ R.cells ∧ slots ≤ R.slots)
    (kk : ∀ (H1 : Heap) (locs1 : List Loc), va_P D vwCl W0 H1 → va_S (fun a => s.heap.size ≤ a) s.heap H1 locs1 → W p l e R s m args below meth c H1 locs1 cells slots Q (F0 m (pc + 3) ls (.int (if k < L then xs k else 0) :: rest))) : W p l e R s m args below meth c H locs cells slots Q (F0 m pc ls (.int (nI k) :: .ref b :: rest)) := by
  refine ar_pure (As := [.ref b, .int (nI k)]) (rest := rest) hx hb hml hown hts hP hS (mL_at l (b := b) (xs := xs) hL hk) cw ⟨fun a U g mk h => ⟨h.1, va_X.moved (u := U) (U := U.calling g mk a) (Vm.Alike.refl U.vm) h.2⟩, fun U hU hWm => ⟨rfl, ?_⟩⟩ rfl hsize rfl hW hdg hf kk
  show va_X b L xs U U.heap
  rw [hU]
  exact va_X.moved hWm.alike (hXs.kept (hS.2.1 b hbl (fun h => absurd hbl (Nat.not_lt.mpr h))))
theorem ar_some {own : String} {index nL : Nat} {x y : Int32} {Ts : List Cond} {W0 : va_W} (hx : p.tables.exec = Jvm.exec) (hb : c.code = cc) (hml : c.maxLocals = nL) (hown : s.vm.findClass own = some m.cls) (hts : ∀ w ∈ Ts, w.before args s = true) (hy : ¬ y = 0) (hP : va_P D vwCl W0 H) (hS : va_S A2 s.heap H locs) (cw : CallB R s args own index yL_some cL_some 3 (some .int) wsL_some rmL_some 0 0 2 ∧ (Cond.static yL_some).before args s = true) (hsize : ls.size = nL) (hW : (rest.map fun v => v.category).sum ≤ 8) (hdg : decode cc pc = .ok (.invokestatic index, 3)) (hf : cells ≤ R.cells ∧ slots ≤ R.slots)
    (kk : ∀ (H1 : Heap) (locs1 : List Loc), va_P D vwCl W0 H1 → va_S A2 s.heap H1 locs1 → W p l e R s m args below meth c H1 locs1 cells slots Q (F0 m (pc + 3) ls (.int (someR x y) :: rest))) : W p l e R s m args below meth c H locs cells slots Q (F0 m pc ls (.int y :: .int x :: rest)) :=
  ar_pure (As := [.int x, .int y]) (rest := rest) hx hb hml hown hts hP hS (mL_some l hy) cw ⟨fun a U g mk h => ⟨h.1, trivial⟩, fun U hU hWm => ⟨rfl, trivial⟩⟩ rfl hsize rfl hW hdg hf kk
/-- a new Triplane behind the worlds that there are -/
theorem ar_tri {own : String} {ic ii nL : Nat} {WO : va_W} {Ts : List Cond} (hx : p.tables.exec = Jvm.exec) (hb : c.code = cc) (hml : c.maxLocals = nL) (hown : s.vm.findClass own = some m.cls) (hts : ∀ w ∈ Ts, w.before args s = true) (hK : va_K D vwCl (tyL cy) s) (hN8 : nN nlX8 s) (hA2 : ∀ q, s.heap.size ≤ q → A2 q) (hP : va_P D vwCl WO H) (hD : va_D A2 WO) (hS : va_S A2 s.heap H locs)
    (in8 : ∀ w ∈ u_ws RX8 TX8 16, w ∈ Ts) (w1 : Cond.classLink own ic RX8 ∈ Ts) (w2 : Cond.instantiable RX8 16 ∈ Ts) (w3 : Cond.initialized RX8 ∈ Ts) (w4 : Cond.methodLink own ii yX8_init ∈ Ts) (w5 : Cond.instanceMethod yX8_init ∈ Ts) (hG : GoodIn Ts wsX8_init) (hRm : rmX8_init.frames + 1 ≤ R.frames ∧ 8 + (3 + 11) + rmX8_init.locals ≤ R.locals) (hsize : ls.size = nL) (hcells : cells + 78 ≤ R.cells) (hslots : slots + 585 ≤ R.slots) (d0 : decode cc pc = .ok (.new ic, 3)) (d3 : decode cc (pc + 3) = .ok (.dup, 1)) (d4 : decode cc (pc + 4) = .ok (.invokespecial ii, 3))
    (kk : ∀ (q : Nat → Nat) (H1 : Heap) (locs1 : List Loc), va_P D vwCl (WO ++ gS 78 q (TX cy q) T0) H1 → va_D A2 (WO ++ gS 78 q (TX cy q) T0) → va_S A2 s.heap H1 locs1 → W p l e R s m args below meth c H1 locs1 (cells + 78) (slots + 585) Q (F0 m (pc + 7) ls [.ref (q 0)])) : W p l e R s m args below meth c H locs cells slots Q (F0 m pc ls []) := by
  refine va_new (ws := WO) (ci := 7) (fs := [.null, .null, .null, .null, .null, .null, .null, .null, .null, .null, .int 0, .int 0, .int 0, .int 0, .int 0, .int 0]) (C := RX8) (T := TX8) (N := 16) hx hb hts in8 tyX8 tyX8_ok hown (hts _ w1) (hts _ w2) (hts _ w3) hK hP hD hS hA2 rfl (by decide) (by omega) (by omega) d0 (fun h0 H hP hD hS => ?_)
  refine lv_dup hx hb d3 rfl ?_
  refine n_after (ws := WO) (Wc := fun u => gS 78 u (TX cy u) T0) (va_runI (As := []) (rest := [.ref h0]) ⟨hx, hb, hml, hown, hts⟩ (nX8_init l D cy h0 H.size) (cwI 0 hts hG rfl rfl rfl (hts _ w3) (hts _ w4) (hts _ w5) rfl (by decide +kernel) hRm) (c_pre okX8 hK (w_last (ws := WO) hP) hN8) rfl rfl hsize rfl (lv_room (Nat.le_of_ble_eq_true rfl)) d4 ⟨by omega, by omega⟩) hP hD hS hA2 (fun u8 H locs hu8 hP hD hS => ?_)
  rw [← hu8]
  exact kk u8 H locs hP hD hS
end SG

/-! ===== the law's helpers: a call of the class, its answer laid into a long[1], what it throws told by a number ===== -/
abbrev oW (o : Nat) (cy : Nat → ClassId) (fo : Nat → Int64) : va_W := [(o, .inl (cy 9, 1, .inr (.inl fo)))]
def hA (q : Nat → Nat) (o : Nat) : Nat → Prop := fun a => gA 78 q a ∨ a = o
def xNots : List (String × String) := [(xn 2, xn 1), (xn 3, xn 1), (xn 3, xn 2), (xn 4, xn 1), (xn 4, xn 2), (xn 5, xn 1), (xn 5, xn 2)]
theorem h_nc {C T : String} {u U : State} (hvm : u.vm.Alike U.vm) (h : va_Nc C T u) : va_Nc C T U := by
  obtain ⟨c, t, h1, h2, h3⟩ := h
  exact ⟨c, t, by rw [hvm.findClass]; exact h1, by rw [hvm.findClass]; exact h2, by rw [hvm.assignable]; exact h3⟩
theorem xPre_narrow {A B : Nat → Prop} {U : State} (h : xPre A U) (hAB : ∀ q, B q → A q) : xPre B U := ⟨h.1.narrow hAB, h.2.1.narrow hAB, h.2.2⟩
def hPre (D : va_G) (cl : List vw_C) (tys : List (ClassId × FieldType)) (WT WO : va_W) (A : Nat → Prop) : State → Prop := fun U => (va_P D cl WT U.heap ∧ va_P D cl WO U.heap ∧ va_K D cl tys U) ∧ xPre A U ∧ ∀ k ∈ xNots, va_Nc k.1 k.2 U
theorem hPre_blind {D : va_G} {cl : List vw_C} {tys : List (ClassId × FieldType)} {WT WO : va_W} {A : Nat → Prop} {av : List Value} : FrameBlind (va_Pc av (hPre D cl tys WT WO A)) :=
  fun a U g mk h => ⟨h.1, ⟨h.2.1.1, h.2.1.2.1, va_K.moved (u := U) (U := U.calling g mk a) (Vm.Alike.refl U.vm) h.2.1.2.2⟩, (gPreX_blind (D := D) (cl := cl) (tys := tys) (ws := WT) a U g mk ⟨h.1, ⟨h.2.1.1, h.2.1.2.2⟩, h.2.2.1⟩).2.2, fun k hk => h_nc (u := U) (U := U.calling g mk a) (Vm.Alike.refl U.vm) (h.2.2.2 k hk)⟩
def lo (z : Int32 ⊕ Nat) (fo : Nat → Int64) : Nat → Int64 := match z with
  | .inl r => vp_updL fo 0 r.toInt64
  | .inr _ => fo
def lob (z : Int32 ⊕ Nat) (fo : Nat → Int64) : Nat → Int64 := match z with
  | .inl r => vp_updL fo 0 (if r = 0 then 0 else 1)
  | .inr _ => fo
theorem h_len {n : Nat} {q : Nat → Nat} {X : gX} {σ : TS} : (gS n q X σ).length = n := by simp [gS, gW]
theorem h_D {n : Nat} {q : Nat → Nat} {X : gX} {σ : TS} {o : Nat} {e : va_E} {A : Nat → Prop} (hJ : gJ n q) (hA1 : ∀ a, gA n q a → A a) (ho : ¬ gA n q o) (hoA : A o) : va_D A (gS n q X σ ++ [(o, e)]) := by
  refine va_D.app ((gDS hJ).weaken (fun k x hk _ => hA1 _ ((gDS hJ).2 k x hk))) ⟨fun i j x y hi hj _ => ?_, fun k x hk => ?_⟩ (fun i j x y hi hj h => ?_)
  · have h1 := (List.getElem?_eq_some_iff.mp hi).1
    have h2 := (List.getElem?_eq_some_iff.mp hj).1
    simp only [List.length_cons, List.length_nil] at h1 h2
    omega
  · have h1 := (List.getElem?_eq_some_iff.mp hk).1
    simp only [List.length_cons, List.length_nil] at h1
    rw [show k = 0 by omega] at hk
    cases hk
    exact hoA
  · have h1 := (List.getElem?_eq_some_iff.mp hj).1
    simp only [List.length_cons, List.length_nil] at h1
    rw [show j = 0 by omega] at hj
    cases hj
    exact ho (by rw [← show x.1 = o from h]; exact (gDS hJ).2 i x hi)
/-- as Met.ofW, for a method with handlers -/
theorem g_ofWH {l : Launch} {y : MethodName} {ws ws' : List Cond} {rm : Room} {Pc : Array Value → State → Prop} {Qc : Array Value → State → Outcome → State → Prop} {mc ms : Nat} {free : Addr → Prop} {cc : ByteArray} {maxL : Nat} {ret : Option FieldType} {hh : List (Nat × Nat × Nat × Nat)}
    (hy : plainName y.cls = true) (hw : ws = Cond.codeWith y cc maxL ret hh :: ws')
    (body : ∀ p e s m args below meth c s₁, BodyLoose p l y (headSpec ws rm) cc maxL ret e s m args below meth c s₁ → c.maxLocals = maxL → c.exceptionTable.toList = tableOf hh → Pc args s →
      W p l e (headSpec ws rm).room s m args below meth c s.heap [] 0 0 (MQ below Qc args s mc ms free) (entryFrame m args maxL)) : Met l y ws rm Pc Qc mc ms free := by
  refine MetFree.of_bodyS (code := cc) (maxLocals := maxL) (ret := ret) hy (fun args s m h hn => ?_) (fun p e s m args below meth c s₁ B hml hP _ => ?_)
  · obtain ⟨m9, meth, c, hn9, h1, h2, h3, h4, -, h5, h6, -⟩ := Cond.codeWith_spec (atoms_spec (ws := ws) h _ (by rw [hw]; exact List.mem_cons_self))
    cases hn.symm.trans hn9
    exact ⟨meth, c, h1, h2, h3, h4, h5, h6⟩
  · obtain ⟨t, a1, o, b1, b2, b3⟩ := body p e s m args below meth c s₁ B hml (vx_table (x := y) B (atoms_spec (ws := ws) B.pre _ (by rw [hw]; exact List.mem_cons_self))) hP s₁ (by rw [B.state]; rfl) (Stand.of_body B)
    exact ⟨t, o, a1, b1, b2, ⟨b3.1, b3.2⟩⟩
section HK
variable {p : Program} {l : Launch} {e : Env} {R : Room} {s : State} {m : MethodId} {args : Array Value} {below : List Frame} {meth : Method} {c : Code} {H : Heap} {locs : List Loc} {cells slots : Nat} {Q : State → Prop}
variable {cc : ByteArray} {pc : Nat} {ls : Array Slot} {rest : List Value} {D : va_G} {cl : List vw_C} {tys : List (ClassId × FieldType)} {n : Nat} {q : Nat → Nat} {X : gX} {σ : TS} {A1 A2 : Nat → Prop}
theorem h_last {cy : Nat → ClassId} {o : Nat} {fo : Nat → Int64} (hexec : p.tables.exec = Jvm.exec) (hb : c.code = cc) (hK : va_K D cl (tyL cy) s) (hJ : gJ 78 q) (ho : ¬ gA 78 q o) (hP : va_P D cl (gS 78 q X σ) H) (hO : va_P D cl (oW o cy fo) H) (hS : va_S (hA q o) s.heap H locs) {x : Int64} (hdg : decode cc pc = .ok (.lastore, 1))
    (kk : ∀ (H1 : Heap) (locs1 : List Loc), va_P D cl (gS 78 q X σ) H1 → va_P D cl (oW o cy (vp_updL fo 0 x)) H1 → va_S (hA q o) s.heap H1 locs1 → W p l e R s m args below meth c H1 locs1 cells slots Q (F0 m (pc + 1) ls rest)) : W p l e R s m args below meth c H locs cells slots Q (F0 m pc ls (.long x :: .int 0 :: .ref o :: rest)) := by
  refine va_last (q0 := 78) (t0 := 9) hexec hb hK (hP.app hO) (h_D (A := hA q o) hJ (fun a h => Or.inl h) ho (Or.inr rfl)) hS (by rw [List.getElem?_append_right (by rw [h_len]; exact Nat.le_refl _), h_len]; rfl) rfl (vin_of (by decide)) hdg (fun H1 locs1 hP1 _ hS1 => ?_)
  rw [List.set_append_right _ _ (by rw [h_len]; exact Nat.le_refl _), h_len] at hP1
  refine kk H1 locs1 (fun k x hx => hP1 k x ?_) (fun k x hx => hP1 (78 + k) x ?_) hS1
  · rw [List.getElem?_append_left (List.getElem?_eq_some_iff.mp hx).1]
    exact hx
  · rw [List.getElem?_append_right (by rw [h_len]; omega), h_len, show 78 + k - 78 = k by omega]
    exact hx
theorem h_keep {WO : va_W} {H1 : Heap} (hO : va_P D cl WO H) (hdis : ∀ (k : Nat) (x : Nat × va_E), WO[k]? = some x → ¬ A1 x.1) (hk1 : ∀ a : Nat, a < H.size → ¬ A1 a → H1[a]? = H[a]?) : va_P D cl WO H1 := hO.kept (fun k x hx => hk1 _ (hO k x hx).lt (hdis k x hx))
theorem h_odis {cy : Nat → ClassId} {o : Nat} {fo : Nat → Int64} (ho : ¬ A1 o) : ∀ (k : Nat) (x : Nat × va_E), (oW o cy fo)[k]? = some x → ¬ A1 x.1 := by
  intro k x hk
  have h1 := (List.getElem?_eq_some_iff.mp hk).1
  simp only [List.length_cons, List.length_nil] at h1
  rw [show k = 0 by omega] at hk
  cases hk
  exact ho
section HKC
variable {own C : String} {y : MethodName} {bytes : ByteArray} {maxL nn index nL mc ms : Nat} {ret : Option FieldType} {ws Ts : List Cond} {rm : Room} {W0 W1 WO : va_W} {b : Nat} {As stk : List Value}
theorem h_cVi {r : Int32} (hx : p.tables.exec = Jvm.exec) (hb : c.code = cc) (hml : c.maxLocals = nL) (hown : s.vm.findClass own = some m.cls) (hts : ∀ w ∈ Ts, w.before args s = true) (hK : va_K D cl tys s) (hX : xPre A2 s) (hA : ∀ a, A1 a → A2 a) (hP : va_P D cl W0 H) (hO : va_P D cl WO H) (hdis : ∀ (k : Nat) (x : Nat × va_E), WO[k]? = some x → ¬ A1 x.1) (hS : va_S A2 s.heap H locs)
    (hM : vx_Met l y ws rm (va_Pc (.ref b :: As) (gPreX D cl tys W0 A1)) (gQx D cl (.inl r) W1 A1) (gXx D cl (.inl r) W1 A1) mc ms A1) (cw : CallW R s args own C index y bytes maxL ret ws rm mc ms nn) (hrecv : ∃ cellB : Cell, H[b]? = some cellB ∧ cellB.vm.isStatics = false ∧ s.vm.findClass C = some cellB.cls)
    (hn : As.length = nn) (hsize : ls.size = nL) (hstk : stk = As.reverse ++ .ref b :: rest) (hW : (rest.map fun v => v.category).sum ≤ 8) (hdg : decode cc pc = .ok (.invokevirtual index, 3)) (hf : cells + mc ≤ R.cells ∧ slots + ms ≤ R.slots)
    (kk : ∀ (H1 : Heap) (locs1 : List Loc), va_P D cl W1 H1 → va_P D cl WO H1 → va_S A2 s.heap H1 locs1 → W p l e R s m args below meth c H1 locs1 (cells + mc) (slots + ms) Q (F0 m (pc + 3) ls (.int r :: rest))) : W p l e R s m args below meth c H locs cells slots Q (F0 m pc ls stk) := by
  subst hstk
  refine vx_calli (vx_runV (As := As) (rest := rest) ⟨hx, hb, hml, hown, hts⟩ hM cw ⟨gPreX_blind, hrecv, fun U hU hWm => ⟨rfl, ⟨by rw [hU]; exact hP, va_K.moved hWm.alike hK⟩, xPre_narrow (xPre_to hX hS hU hWm) hA⟩⟩ rfl hn hsize rfl (lv_room hW) hdg hf) hS (fun a _ h => hA a h) hA (fun a _ h => hA a h)
    (fun E ce q9 u t H1 locs1 ht hvm hw hB hz1 hk1 hS1 h1 h2 h3 => ?_) (fun r' u t H1 locs1 ht hvm hw hB hz1 hk1 hS1 => ?_)
  · obtain ⟨⟨k, hk, -⟩, -⟩ := hB
    cases hk
  · rw [ht] at hB
    cases hw
    exact kk H1 locs1 hB (h_keep hO hdis hk1) hS1
theorem h_cVx {k : Nat} (hx : p.tables.exec = Jvm.exec) (hb : c.code = cc) (hml : c.maxLocals = nL) (hown : s.vm.findClass own = some m.cls) (hts : ∀ w ∈ Ts, w.before args s = true) (hK : va_K D cl tys s) (hX : xPre A2 s) (hA : ∀ a, A1 a → A2 a) (hP : va_P D cl W0 H) (hO : va_P D cl WO H) (hdis : ∀ (k : Nat) (x : Nat × va_E), WO[k]? = some x → ¬ A1 x.1) (hS : va_S A2 s.heap H locs)
    (hM : vx_Met l y ws rm (va_Pc (.ref b :: As) (gPreX D cl tys W0 A1)) (gQx D cl (.inr k) W1 A1) (gXx D cl (.inr k) W1 A1) mc ms A1) (cw : CallW R s args own C index y bytes maxL ret ws rm mc ms nn) (hrecv : ∃ cellB : Cell, H[b]? = some cellB ∧ cellB.vm.isStatics = false ∧ s.vm.findClass C = some cellB.cls)
    (hn : As.length = nn) (hsize : ls.size = nL) (hstk : stk = As.reverse ++ .ref b :: rest) (hW : (rest.map fun v => v.category).sum ≤ 8) (hdg : decode cc pc = .ok (.invokevirtual index, 3)) (hf : cells + mc ≤ R.cells ∧ slots + ms ≤ R.slots)
    (kk : ∀ (ce : Cell) (q9 : Addr) (H1 : Heap) (locs1 : List Loc), va_P D cl W1 H1 → va_P D cl WO H1 → va_S A2 s.heap H1 locs1 → H1[q9]? = some ce → ce.vm = .none → s.vm.findClass (xn k) = some ce.cls → vx_W p l e R s m args below meth c H1 locs1 (cells + mc) (slots + ms) Q (F0 m pc ls rest) q9) : W p l e R s m args below meth c H locs cells slots Q (F0 m pc ls stk) := by
  subst hstk
  refine vx_calli (vx_runV (As := As) (rest := rest) ⟨hx, hb, hml, hown, hts⟩ hM cw ⟨gPreX_blind, hrecv, fun U hU hWm => ⟨rfl, ⟨by rw [hU]; exact hP, va_K.moved hWm.alike hK⟩, xPre_narrow (xPre_to hX hS hU hWm) hA⟩⟩ rfl hn hsize rfl (lv_room hW) hdg hf) hS (fun a _ h => hA a h) hA (fun a _ h => hA a h)
    (fun E ce q9 u t H1 locs1 ht hvm hw hB hz1 hk1 hS1 h1 h2 h3 => ?_) (fun r' u t H1 locs1 ht hvm hw hB hz1 hk1 hS1 => ?_)
  · obtain ⟨⟨k2, hk2, rfl⟩, hB2⟩ := hB
    cases hk2
    rw [ht] at hB2
    exact kk ce q9 H1 locs1 hB2 (h_keep hO hdis hk1) hS1 h1 h2 h3
  · cases hw
end HKC
end HK

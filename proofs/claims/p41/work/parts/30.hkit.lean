/-! ===== the law's own methods: what a call of the class answers, what it throws told by a number ===== -/
def lchr (x : Int32) : Int32 := (x.toUInt32 % 65536).toInt32
abbrev iW (a : Nat) (cy : Nat → ClassId) (n : Nat) (f : Nat → Int32) : va_W := [(a, .inl (cy 0, n, .inl f))]
/-- what ask answers -/
def askR (z : Int32 ⊕ Nat) : Int32 := match z with
  | .inl r => r
  | .inr k => if k = 1 then -2000000001 else if k = 2 then -2000000002 else if k = 3 then -2000000003 else if k = 4 then -2000000004 else -2000000005
/-- a boolean answer as 0 or 1 -/
def zB (z : Int32 ⊕ Nat) : Int32 ⊕ Nat := match z with
  | .inl r => .inl (if r = 0 then 0 else 1)
  | .inr k => .inr k
def okZ (z : Int32 ⊕ Nat) : Prop := ∀ k, z = .inr k → k = 1 ∨ k = 2 ∨ k = 3 ∨ k = 4 ∨ k = 5
theorem okZ_l (r : Int32) : okZ (.inl r) := fun k h => by cases h
theorem okZ_r {k : Nat} (h : k = 1 ∨ k = 2 ∨ k = 3 ∨ k = 4 ∨ k = 5) : okZ (.inr k) := fun j hj => by cases hj; exact h
theorem okZ_zB {z : Int32 ⊕ Nat} (h : okZ z) : okZ (zB z) := by
  cases z with
  | inl r => exact okZ_l _
  | inr k => exact okZ_r (h k rfl)
def xNots : List (String × String) := [(xn 2, xn 1), (xn 3, xn 1), (xn 3, xn 2), (xn 4, xn 1), (xn 4, xn 2), (xn 4, xn 3), (xn 5, xn 1), (xn 5, xn 2), (xn 5, xn 3), (xn 5, xn 4)]
theorem h_nc {C T : String} {u U : State} (hvm : u.vm.Alike U.vm) (h : va_Nc C T u) : va_Nc C T U := by
  obtain ⟨c, t, h1, h2, h3⟩ := h
  exact ⟨c, t, by rw [hvm.findClass]; exact h1, by rw [hvm.findClass]; exact h2, by rw [hvm.assignable]; exact h3⟩
theorem xPre_narrow {A B : Nat → Prop} {U : State} (h : xPre A U) (hAB : ∀ q, B q → A q) : xPre B U := ⟨h.1.narrow hAB, h.2.1.narrow hAB, h.2.2⟩
def hPre (D : va_G) (cl : List vw_C) (tys : List (ClassId × FieldType)) (WT WO : va_W) (A : Nat → Prop) : State → Prop := fun U => (va_P D cl WT U.heap ∧ va_P D cl WO U.heap ∧ va_K D cl tys U) ∧ xPre A U ∧ ∀ k ∈ xNots, va_Nc k.1 k.2 U
theorem hPre_blind {D : va_G} {cl : List vw_C} {tys : List (ClassId × FieldType)} {WT WO : va_W} {A : Nat → Prop} {av : List Value} : FrameBlind (va_Pc av (hPre D cl tys WT WO A)) :=
  fun a U g mk h => ⟨h.1, ⟨h.2.1.1, h.2.1.2.1, va_K.moved (u := U) (U := U.calling g mk a) (Vm.Alike.refl U.vm) h.2.1.2.2⟩, (gPreX_blind (D := D) (cl := cl) (tys := tys) (ws := WT) a U g mk ⟨h.1, ⟨h.2.1.1, h.2.1.2.2⟩, h.2.2.1⟩).2.2, fun k hk => h_nc (u := U) (U := U.calling g mk a) (Vm.Alike.refl U.vm) (h.2.2.2 k hk)⟩
theorem h_len {n : Nat} {q : Nat → Nat} {X : gX} {σ : TS} : (gS n q X σ).length = n := by simp [gS, gW]
/-- as Met.ofW, for a method with handlers -/
theorem g_ofWH {l : Launch} {y : MethodName} {ws ws' : List Cond} {rm : Room} {Pc : Array Value → State → Prop} {Qc : Array Value → State → Outcome → State → Prop} {mc ms : Nat} {free : Addr → Prop} {cc : ByteArray} {maxL : Nat} {ret : Option FieldType} {hh : List (Nat × Nat × Nat × Nat)}
    (hy : plainName y.cls = true) (hw : ws = Cond.codeWith y cc maxL ret hh :: ws')
    (body : ∀ p e s m args below meth c s₁, BodyLoose p l y (headSpec ws rm) cc maxL ret e s m args below meth c s₁ → c.maxLocals = maxL → c.exceptionTable.toList = tableOf hh → Pc args s →
      W p l e (headSpec ws rm).room s m args below meth c s.heap [] 0 0 (MQ below Qc args s mc ms free) (entryFrame m args maxL)) : Met l y ws rm Pc Qc mc ms free := by
  refine MetFree.of_bodyS (code := cc) (maxLocals := maxL) (ret := ret) hy (fun args s m h hn => ?_) (fun p e s m args below meth c s₁ B hml hP _ => ?_)
  · obtain ⟨m9, meth, c, hn9, h1, h2, h3, h4, -, h5, h6, -⟩ := Cond.codeWith_spec (atoms_spec (ws := ws) h _ (by rw [hw]; exact List.mem_cons_self))
    cases hn.symm.trans hn9
    exact ⟨meth, c, h1, h2, h3, h4, h5, h6⟩
  · obtain ⟨t, a1, o, b1, b2, b3⟩ := body p e s m args below meth c s₁ B hml (vx_table (x := y) B (atoms_spec (ws := ws) B.pre _ (by rw [hw]; exact List.mem_cons_self))) hP s₁ (by rw [B.state]; rfl) (Stand.of_body B)
    exact ⟨t, o, a1, b1, b2, ⟨b3.1, b3.2⟩⟩
/-! a table of handlers, read through once -/
def chkT (pc t h : Nat) (ts : List Nat) : List ExceptionTableEntry → Bool
  | [] => false
  | x :: L => if (covers x pc && (x.catchType == t)) = true then x.handlerPc == h else ((!covers x pc) || ts.contains x.catchType) && chkT pc t h ts L
theorem chkT_s {pc t h : Nat} {ts : List Nat} : ∀ L, chkT pc t h ts L = true → ∃ pre x suf, L = pre ++ x :: suf ∧ x.catchType = t ∧ x.handlerPc = h ∧ covers x pc = true ∧ ∀ z ∈ pre, covers z pc = false ∨ z.catchType ∈ ts
  | [], hc => by cases hc
  | x :: L, hc => by
    unfold chkT at hc
    by_cases h1 : (covers x pc && (x.catchType == t)) = true
    · rw [if_pos h1] at hc
      rw [Bool.and_eq_true] at h1
      exact ⟨[], x, L, rfl, eq_of_beq h1.2, eq_of_beq hc, h1.1, fun z hz => nomatch hz⟩
    · rw [if_neg h1, Bool.and_eq_true, Bool.or_eq_true] at hc
      obtain ⟨pre, y, suf, e1, e2, e3, e4, e5⟩ := chkT_s L hc.2
      refine ⟨x :: pre, y, suf, by rw [e1]; rfl, e2, e3, e4, fun z hz => ?_⟩
      rcases List.mem_cons.mp hz with rfl | hz
      · rcases hc.1 with h | h
        · exact Or.inl (by
            cases hcv : covers z pc with
            | false => rfl
            | true =>
              rw [hcv] at h
              cases h)
        · exact Or.inr (by simpa using h)
      · exact e5 z hz
section HK
variable {p : Program} {l : Launch} {e : Env} {R : Room} {s : State} {m : MethodId} {args : Array Value} {below : List Frame} {meth : Method} {c : Code} {H : Heap} {locs : List Loc} {cells slots : Nat} {Q : State → Prop}
variable {cc : ByteArray} {pc : Nat} {ls : Array Slot} {rest : List Value} {D : va_G} {cl : List vw_C} {tys : List (ClassId × FieldType)} {A1 A2 : Nat → Prop}
theorem h_keep {WO : va_W} {H1 : Heap} (hO : va_P D cl WO H) (hdis : ∀ (k : Nat) (x : Nat × va_E), WO[k]? = some x → ¬ A1 x.1) (hk1 : ∀ a : Nat, a < H.size → ¬ A1 a → H1[a]? = H[a]?) : va_P D cl WO H1 := hO.kept (fun k x hx => hk1 _ (hO k x hx).lt (hdis k x hx))
theorem i_dis {cy : Nat → ClassId} {a n : Nat} {f : Nat → Int32} (ho : ¬ A1 a) : ∀ (k : Nat) (x : Nat × va_E), (iW a cy n f)[k]? = some x → ¬ A1 x.1 := by
  intro k x hk
  have h1 := (List.getElem?_eq_some_iff.mp hk).1
  simp only [List.length_cons, List.length_nil] at h1
  rw [show k = 0 by omega] at hk
  cases hk
  exact ho
theorem h_ild {cy : Nat → ClassId} {a n : Nat} {f : Nat → Int32} (hexec : p.tables.exec = Jvm.exec) (hb : c.code = cc) (hK : va_K D cl (tyL cy) s) (hO : va_P D cl (iW a cy n f) H) {i : Int32} {j : Nat} (hin : vin i n = true) (hj : i.toNatClampNeg = j) (hdg : decode cc pc = .ok (.iaload, 1))
    (kk : W p l e R s m args below meth c H locs cells slots Q (F0 m (pc + 1) ls (.int (f j) :: rest))) : W p l e R s m args below meth c H locs cells slots Q (F0 m pc ls (.int i :: .ref a :: rest)) :=
  va_iald hexec hb hK hO 0 0 rfl rfl (vin_of hin) hdg (by rw [hj]; exact kk)
theorem h_catch {k t h q9 : Nat} {ts : List Nat} {hh : List (Nat × Nat × Nat × Nat)} {ce : Cell} (hown : s.vm.findClass RL = some m.cls) (htab : c.exceptionTable.toList = tableOf hh) (hc : chkT pc t h ts (tableOf hh) = true) (ht0 : t ≠ 0) (hlink : (Cond.classLink RL t (xn k)).before args s = true) (hts : ∀ j ∈ ts, j ≠ 0 ∧ ∃ nm : String, (Cond.classLink RL j nm).before args s = true ∧ va_Nc (xn k) nm s) (hcast : (Cond.castable (xn k) (xn k)).before args s = true) (hcell : H[q9]? = some ce) (hv : ce.vm = .none) (hcl : s.vm.findClass (xn k) = some ce.cls)
    (kk : W p l e R s m args below meth c H locs cells slots Q (F0 m h ls [.ref q9])) : vx_W p l e R s m args below meth c H locs cells slots Q (F0 m pc ls rest) q9 := by
  obtain ⟨pre, x, suf, e1, e2, e3, e4, e5⟩ := chkT_s _ hc
  subst e2
  subst e3
  exact vx_catch (own := RL) (name := xn k) hown pre x suf (htab.trans e1) (fun z hz => (e5 z hz).elim Or.inl (fun h => Or.inr (hts _ h))) e4 ht0 hlink hcast hcell hv hcl kk
section HKC
variable {own C : String} {y : MethodName} {bytes : ByteArray} {maxL nn index nL mc ms : Nat} {ret : Option FieldType} {ws Ts : List Cond} {rm : Room} {W0 W1 WO : va_W} {b : Nat} {As stk : List Value}
theorem h_cVi {r : Int32} (hx : p.tables.exec = Jvm.exec) (hb : c.code = cc) (hml : c.maxLocals = nL) (hown : s.vm.findClass own = some m.cls) (hts : ∀ w ∈ Ts, w.before args s = true) (hK : va_K D cl tys s) (hX : xPre A2 s) (hA : ∀ a, A1 a → A2 a) (hP : va_P D cl W0 H) (hO : va_P D cl WO H) (hdis : ∀ (k : Nat) (x : Nat × va_E), WO[k]? = some x → ¬ A1 x.1) (hS : va_S A2 s.heap H locs)
    (hM : vx_Met l y ws rm (va_Pc (.ref b :: As) (gPreX D cl tys W0 A1)) (gQx D cl (.inl r) W1 A1) (gXx D cl (.inl r) W1 A1) mc ms A1) (cw : CallW R s args own C index y bytes maxL ret ws rm mc ms nn) (hrecv : ∃ cellB : Cell, H[b]? = some cellB ∧ cellB.vm.isStatics = false ∧ s.vm.findClass C = some cellB.cls)
    (hn : As.length = nn) (hsize : ls.size = nL) (hstk : stk = As.reverse ++ .ref b :: rest) (hW : (rest.map fun v => v.category).sum ≤ 8) (hdg : decode cc pc = .ok (.invokevirtual index, 3)) (hf : cells + mc ≤ R.cells ∧ slots + ms ≤ R.slots)
    (kk : ∀ (H1 : Heap) (locs1 : List Loc), va_P D cl W1 H1 → va_P D cl WO H1 → va_S A2 s.heap H1 locs1 → W p l e R s m args below meth c H1 locs1 (cells + mc) (slots + ms) Q (F0 m (pc + 3) ls (.int r :: rest))) : W p l e R s m args below meth c H locs cells slots Q (F0 m pc ls stk) := by
  subst hstk
  refine vx_calli (vx_runV (As := As) (rest := rest) ⟨hx, hb, hml, hown, hts⟩ hM cw ⟨gPreX_blind, hrecv, fun U hU hWm => ⟨rfl, ⟨by rw [hU]; exact hP, va_K.moved hWm.alike hK⟩, xPre_narrow (xPre_to hX hS hU hWm) hA⟩⟩ rfl hn hsize rfl (lv_room hW) hdg hf) hS (fun a _ h => hA a h) hA (fun a _ h => hA a h)
    (fun E ce q9 u t H1 locs1 ht hvm hw hB hz1 hk1 hS1 h1 h2 h3 => ?_) (fun r' u t H1 locs1 ht hvm hw hB hz1 hk1 hS1 => ?_)
  · obtain ⟨⟨k, hk, -⟩, -⟩ := hB
    cases hk
  · rw [ht] at hB
    cases hw
    exact kk H1 locs1 hB (h_keep hO hdis hk1) hS1
theorem h_cVx {k : Nat} (hx : p.tables.exec = Jvm.exec) (hb : c.code = cc) (hml : c.maxLocals = nL) (hown : s.vm.findClass own = some m.cls) (hts : ∀ w ∈ Ts, w.before args s = true) (hK : va_K D cl tys s) (hX : xPre A2 s) (hA : ∀ a, A1 a → A2 a) (hP : va_P D cl W0 H) (hO : va_P D cl WO H) (hdis : ∀ (k : Nat) (x : Nat × va_E), WO[k]? = some x → ¬ A1 x.1) (hS : va_S A2 s.heap H locs)
    (hM : vx_Met l y ws rm (va_Pc (.ref b :: As) (gPreX D cl tys W0 A1)) (gQx D cl (.inr k) W1 A1) (gXx D cl (.inr k) W1 A1) mc ms A1) (cw : CallW R s args own C index y bytes maxL ret ws rm mc ms nn) (hrecv : ∃ cellB : Cell, H[b]? = some cellB ∧ cellB.vm.isStatics = false ∧ s.vm.findClass C = some cellB.cls)
    (hn : As.length = nn) (hsize : ls.size = nL) (hstk : stk = As.reverse ++ .ref b :: rest) (hW : (rest.map fun v => v.category).sum ≤ 8) (hdg : decode cc pc = .ok (.invokevirtual index, 3)) (hf : cells + mc ≤ R.cells ∧ slots + ms ≤ R.slots)
    (kk : ∀ (ce : Cell) (q9 : Addr) (H1 : Heap) (locs1 : List Loc), va_P D cl W1 H1 → va_P D cl WO H1 → va_S A2 s.heap H1 locs1 → H1[q9]? = some ce → ce.vm = .none → s.vm.findClass (xn k) = some ce.cls → vx_W p l e R s m args below meth c H1 locs1 (cells + mc) (slots + ms) Q (F0 m pc ls rest) q9) : W p l e R s m args below meth c H locs cells slots Q (F0 m pc ls stk) := by
  subst hstk
  refine vx_calli (vx_runV (As := As) (rest := rest) ⟨hx, hb, hml, hown, hts⟩ hM cw ⟨gPreX_blind, hrecv, fun U hU hWm => ⟨rfl, ⟨by rw [hU]; exact hP, va_K.moved hWm.alike hK⟩, xPre_narrow (xPre_to hX hS hU hWm) hA⟩⟩ rfl hn hsize rfl (lv_room hW) hdg hf) hS (fun a _ h => hA a h) hA (fun a _ h => hA a h)
    (fun E ce q9 u t H1 locs1 ht hvm hw hB hz1 hk1 hS1 h1 h2 h3 => ?_) (fun r' u t H1 locs1 ht hvm hw hB hz1 hk1 hS1 => ?_)
  · obtain ⟨⟨k2, hk2, rfl⟩, hB2⟩ := hB
    cases hk2
    rw [ht] at hB2
    exact kk ce q9 H1 locs1 hB2 (h_keep hO hdis hk1) hS1 h1 h2 h3
  · cases hw
/-- a static call, over two worlds, of a method that may throw and doesn't -/
theorem h_cSi {r : Int32} (hx : p.tables.exec = Jvm.exec) (hb : c.code = cc) (hml : c.maxLocals = nL) (hown : s.vm.findClass own = some m.cls) (hts : ∀ w ∈ Ts, w.before args s = true) (hK : va_K D cl tys s) (hX : xPre A2 s) (hNt : ∀ k ∈ xNots, va_Nc k.1 k.2 s) (hA : ∀ a, A1 a → A2 a) (hP : va_P D cl W0 H) (hO : va_P D cl WO H) (hS : va_S A2 s.heap H locs)
    (hM : vx_Met l y ws rm (va_Pc As (hPre D cl tys W0 WO A1)) (gQx D cl (.inl r) W1 A1) (gXx D cl (.inl r) W1 A1) mc ms A1) (cw : CallB R s args own index y bytes maxL ret ws rm mc ms nn ∧ (Cond.static y).before args s = true)
    (hn : As.length = nn) (hsize : ls.size = nL) (hstk : stk = As.reverse ++ rest) (hW : (rest.map fun v => v.category).sum ≤ 8) (hdg : decode cc pc = .ok (.invokestatic index, 3)) (hf : cells + mc ≤ R.cells ∧ slots + ms ≤ R.slots)
    (kk : ∀ (H1 : Heap) (locs1 : List Loc), va_P D cl W1 H1 → va_S A2 s.heap H1 locs1 → W p l e R s m args below meth c H1 locs1 (cells + mc) (slots + ms) Q (F0 m (pc + 3) ls (.int r :: rest))) : W p l e R s m args below meth c H locs cells slots Q (F0 m pc ls stk) := by
  subst hstk
  refine vx_calli (vx_runS (As := As) (rest := rest) ⟨hx, hb, hml, hown, hts⟩ hM cw ⟨hPre_blind, fun U hU hWm => ⟨rfl, ⟨by rw [hU]; exact hP, by rw [hU]; exact hO, va_K.moved hWm.alike hK⟩, xPre_narrow (xPre_to hX hS hU hWm) hA, fun k hk => h_nc hWm.alike (hNt k hk)⟩⟩ rfl hn hsize rfl (lv_room hW) hdg hf) hS (fun a _ h => hA a h) hA (fun a _ h => hA a h)
    (fun E ce q9 u t H1 locs1 ht hvm hw hB hz1 hk1 hS1 h1 h2 h3 => ?_) (fun r' u t H1 locs1 ht hvm hw hB hz1 hk1 hS1 => ?_)
  · obtain ⟨⟨k, hk, -⟩, -⟩ := hB
    cases hk
  · rw [ht] at hB
    cases hw
    exact kk H1 locs1 hB hS1
theorem h_cSx {k : Nat} (hx : p.tables.exec = Jvm.exec) (hb : c.code = cc) (hml : c.maxLocals = nL) (hown : s.vm.findClass own = some m.cls) (hts : ∀ w ∈ Ts, w.before args s = true) (hK : va_K D cl tys s) (hX : xPre A2 s) (hNt : ∀ k ∈ xNots, va_Nc k.1 k.2 s) (hA : ∀ a, A1 a → A2 a) (hP : va_P D cl W0 H) (hO : va_P D cl WO H) (hS : va_S A2 s.heap H locs)
    (hM : vx_Met l y ws rm (va_Pc As (hPre D cl tys W0 WO A1)) (gQx D cl (.inr k) W1 A1) (gXx D cl (.inr k) W1 A1) mc ms A1) (cw : CallB R s args own index y bytes maxL ret ws rm mc ms nn ∧ (Cond.static y).before args s = true)
    (hn : As.length = nn) (hsize : ls.size = nL) (hstk : stk = As.reverse ++ rest) (hW : (rest.map fun v => v.category).sum ≤ 8) (hdg : decode cc pc = .ok (.invokestatic index, 3)) (hf : cells + mc ≤ R.cells ∧ slots + ms ≤ R.slots)
    (kk : ∀ (ce : Cell) (q9 : Addr) (H1 : Heap) (locs1 : List Loc), va_P D cl W1 H1 → va_S A2 s.heap H1 locs1 → H1[q9]? = some ce → ce.vm = .none → s.vm.findClass (xn k) = some ce.cls → vx_W p l e R s m args below meth c H1 locs1 (cells + mc) (slots + ms) Q (F0 m pc ls rest) q9) : W p l e R s m args below meth c H locs cells slots Q (F0 m pc ls stk) := by
  subst hstk
  refine vx_calli (vx_runS (As := As) (rest := rest) ⟨hx, hb, hml, hown, hts⟩ hM cw ⟨hPre_blind, fun U hU hWm => ⟨rfl, ⟨by rw [hU]; exact hP, by rw [hU]; exact hO, va_K.moved hWm.alike hK⟩, xPre_narrow (xPre_to hX hS hU hWm) hA, fun k hk => h_nc hWm.alike (hNt k hk)⟩⟩ rfl hn hsize rfl (lv_room hW) hdg hf) hS (fun a _ h => hA a h) hA (fun a _ h => hA a h)
    (fun E ce q9 u t H1 locs1 ht hvm hw hB hz1 hk1 hS1 h1 h2 h3 => ?_) (fun r' u t H1 locs1 ht hvm hw hB hz1 hk1 hS1 => ?_)
  · obtain ⟨⟨k2, hk2, rfl⟩, hB2⟩ := hB
    cases hk2
    rw [ht] at hB2
    exact kk ce q9 H1 locs1 hB2 hS1 h1 h2 h3
  · cases hw
end HKC
end HK

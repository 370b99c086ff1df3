/-! ===== worlds of numbered things: a thing's address by q, what it holds by X and a row of numbers ===== -/
abbrev TS : Type := Nat → Nat → Int32
def st2 (σ : TS) (k j : Nat) (v : Int32) : TS := fun k' => if k' = k then upd (σ k) j v else σ k'
abbrev gX : Type := Nat → (Nat → Int32) → va_E
def gW (n : Nat) (q : Nat → Nat) (C : Nat → va_E) : va_W := (List.range n).map (fun k => (q k, C k))
def gA (n : Nat) (q : Nat → Nat) : Nat → Prop := fun a => ∃ k, k < n ∧ a = q k
def gJ (n : Nat) (q : Nat → Nat) : Prop := ∀ i j, i < n → j < n → q i = q j → i = j
def gS (n : Nat) (q : Nat → Nat) (X : gX) (σ : TS) : va_W := gW n q (fun k => X k (σ k))
theorem gW_get {n : Nat} {q : Nat → Nat} {C : Nat → va_E} {k : Nat} (h : k < n) : (gW n q C)[k]? = some (q k, C k) := by
  unfold gW
  rw [List.getElem?_map, List.getElem?_range h]
  rfl
theorem gW_inv {n : Nat} {q : Nat → Nat} {C : Nat → va_E} {k : Nat} {x : Nat × va_E} (h : (gW n q C)[k]? = some x) : k < n ∧ x = (q k, C k) := by
  have hk : k < n := by
    have h1 := (List.getElem?_eq_some_iff.mp h).1
    simpa [gW] using h1
  rw [gW_get hk] at h
  exact ⟨hk, (Option.some.inj h).symm⟩
theorem gS_get {n : Nat} {q : Nat → Nat} {X : gX} {σ : TS} {k : Nat} (h : k < n) {e : va_E} (he : X k (σ k) = e) : (gS n q X σ)[k]? = some (q k, e) := by
  unfold gS
  rw [gW_get h, he]
theorem st2_at (σ : TS) (k j : Nat) (v : Int32) : st2 σ k j v k = upd (σ k) j v := if_pos rfl
theorem st2_ne (σ : TS) {k k' : Nat} (j : Nat) (v : Int32) (h : k' ≠ k) : st2 σ k j v k' = σ k' := if_neg h
theorem gS_set {n : Nat} {q : Nat → Nat} {X : gX} {σ : TS} {k j : Nat} {v : Int32} {e : va_E} (h : k < n) (he : X k (upd (σ k) j v) = e) : (gS n q X σ).set k (q k, e) = gS n q X (st2 σ k j v) := by
  have hlen : (gS n q X σ).length = n := by simp [gS, gW]
  apply List.ext_getElem?
  intro i
  by_cases hi : i = k
  · subst hi
    rw [List.getElem?_set_self (by rw [hlen]; exact h), gS_get h (e := e) (by rw [st2_at]; exact he)]
  · rw [List.getElem?_set_ne (Ne.symm hi)]
    by_cases hn : i < n
    · rw [gS_get hn rfl, gS_get hn (by rw [st2_ne σ j v hi])]
    · rw [List.getElem?_eq_none (by rw [hlen]; omega), List.getElem?_eq_none (by simp [gS, gW]; omega)]
theorem gD {n : Nat} {q : Nat → Nat} {C : Nat → va_E} (hJ : gJ n q) : va_D (gA n q) (gW n q C) := by
  refine ⟨fun i j x y hi hj hxy => ?_, fun k x hk => ?_⟩
  · obtain ⟨h1, rfl⟩ := gW_inv hi
    obtain ⟨h2, rfl⟩ := gW_inv hj
    exact hJ i j h1 h2 hxy
  · obtain ⟨h1, rfl⟩ := gW_inv hk
    exact ⟨k, h1, rfl⟩
theorem gDS {n : Nat} {q : Nat → Nat} {X : gX} {σ : TS} (hJ : gJ n q) : va_D (gA n q) (gS n q X σ) := gD hJ
/-- which array classes there are -/
def tyL (cy : Nat → ClassId) : List (ClassId × FieldType) := [(cy 0, .int), (cy 1, .boolean), (cy 2, .char), (cy 3, .object RX1), (cy 4, .object RX6), (cy 5, .object RX2), (cy 6, .array .int), (cy 7, .object RX7), (cy 8, .object RX0)]
/-- an index, and its check -/
def vin (i : Int32) (n : Nat) : Bool := decide (¬ i < 0) && decide (i.toNatClampNeg < n)
theorem vin_of {i : Int32} {n : Nat} (h : vin i n = true) : vp_in i n := by
  simp only [vin, Bool.and_eq_true, decide_eq_true_eq] at h
  intro q
  rcases q with q | q
  · exact h.1 q
  · omega
theorem vin_lt {i : Int32} {n : Nat} (h : vin i n = true) : i.toNatClampNeg < n := by
  simp only [vin, Bool.and_eq_true, decide_eq_true_eq] at h
  exact h.2
/-- a run of a written-out method: none where it would leave the words -/
theorem o_chk {α : Type} {b : Bool} {a : Option α} {z : α} (h : (if b = true then a else none) = some z) : b = true ∧ a = some z := by
  cases b with
  | false => cases h
  | true => exact ⟨rfl, h⟩
theorem o_t {α : Type} {c : Prop} {d : Decidable c} {a b : α} {z : α} (h : (@ite α c d a b) = z) (hc : c) : a = z := by
  rw [if_pos hc] at h
  exact h
theorem o_f {α : Type} {c : Prop} {d : Decidable c} {a b : α} {z : α} (h : (@ite α c d a b) = z) (hc : ¬ c) : b = z := by
  rw [if_neg hc] at h
  exact h
theorem o_b {α β : Type} {a : Option α} {f : α → Option β} {z : β} (h : a.bind f = some z) : ∃ y, a = some y ∧ f y = some z := by
  cases a with
  | none => cases h
  | some y => exact ⟨y, rfl, h⟩
def zok (v : Int32) : Bool := decide (v = 0) || decide (v = 1)
theorem zok_n {v : Int32} (h : zok v = true) : narrow .boolean (.int v) = .int v ∧ fits .boolean (.int v) = true := by
  simp only [zok, Bool.or_eq_true, decide_eq_true_eq] at h
  rcases h with rfl | rfl
  · exact ⟨by decide, by decide⟩
  · exact ⟨by decide, by decide⟩
def cok (v : Int32) : Bool := decide (¬ v < 0) && decide (v ≤ 65535)
theorem cok_n {v : Int32} (h : cok v = true) : narrow .char (.int v) = .int v ∧ fits .char (.int v) = true := by
  simp only [cok, Bool.and_eq_true, decide_eq_true_eq] at h
  obtain ⟨j, hj, rfl⟩ := nI_of2 (n := 65535) (by decide) h.1 h.2
  exact pk_charN (by omega)
def nzk (v : Int32) : Bool := decide (¬ v = 0)
theorem nzk_n {v : Int32} (h : nzk v = true) : ¬ v = 0 := by
  unfold nzk at h
  exact (decide_eq_true_iff).mp h
def fok (v : UInt32) : Bool := decide (v &&& 0x7fffffff ≤ 0x7f800000)
theorem fok_n {v : UInt32} (h : fok v = true) : vf_n32 v := by
  unfold vf_n32
  unfold fok at h
  exact (decide_eq_true_iff).mp h
def dok (v : UInt64) : Bool := decide (v &&& 0x7fffffffffffffff ≤ 0x7ff0000000000000)
theorem dok_n {v : UInt64} (h : dok v = true) : vf_n64 v := by
  unfold vf_n64
  unfold dok at h
  exact (decide_eq_true_iff).mp h
def swo (dflt lo hi : Int) (offs : Array Int) (i : Int) : Int := if i < lo then dflt else if hi < i then dflt else (offs[(i - lo).toNat]?).getD dflt
theorem g_swd {dflt lo hi : Int} {offs : Array Int} {vs : List Int32} {x : Int32} (h : (List.range offs.size).all (fun k => decide ((offs[k]?).getD dflt = dflt) || vs.any (fun v => decide (v.toInt = lo + k))) = true) (hn : x ∉ vs) : swo dflt lo hi offs x.toInt = dflt := by
  unfold swo
  split
  · rfl
  · split
    · rfl
    · rename_i h1 h2
      by_cases hk : (x.toInt - lo).toNat < offs.size
      · have h3 := List.all_eq_true.mp h _ (List.mem_range.mpr hk)
        rw [Bool.or_eq_true] at h3
        rcases h3 with h3 | h3
        · exact of_decide_eq_true h3
        · obtain ⟨v, hv, h4⟩ := List.any_eq_true.mp h3
          have h5 := of_decide_eq_true h4
          exact absurd (by rw [show x = v from Int32.toInt_inj.mp (by omega)]; exact hv) hn
      · rw [Array.getElem?_eq_none (by omega)]
        rfl
theorem o_r {α β : Type} {a x : α} {b y : β} (h : some (a, b) = some (x, y)) : a = x ∧ b = y := by
  cases h
  exact ⟨rfl, rfl⟩
def gC (own : String) (cc : ByteArray) (nL : Nat) (ret : Option FieldType) (ws : List Cond) (p : Program) (s : State) (m : MethodId) (args : Array Value) (meth : Method) (c : Code) : Prop :=
  p.tables.exec = Jvm.exec ∧ c.code = cc ∧ meth.sig.returnType = ret ∧ c.maxLocals = nL ∧ s.vm.findClass own = some m.cls ∧ (∀ w ∈ ws, w.before args s = true) ∧ meth.locks = false
def gPre (D : va_G) (cl : List vw_C) (tys : List (ClassId × FieldType)) (ws : va_W) : State → Prop := fun U => va_P D cl ws U.heap ∧ va_K D cl tys U
theorem gPre_blind {D : va_G} {cl : List vw_C} {tys : List (ClassId × FieldType)} {ws : va_W} {av : List Value} : FrameBlind (va_Pc av (gPre D cl tys ws)) :=
  fun a U g mk h => ⟨h.1, h.2.1, va_K.moved (u := U) (U := U.calling g mk a) (Vm.Alike.refl U.vm) h.2.2⟩
abbrev gQi (D : va_G) (cl : List vw_C) (r : Int32) (ws : va_W) (A : Nat → Prop) : Array Value → State → Outcome → State → Prop := va_Qi (fun r' (_ : Unit) => r' = r) (fun _ t => va_P D cl ws t.heap) A
abbrev gQv (D : va_G) (cl : List vw_C) (ws : va_W) (A : Nat → Prop) : Array Value → State → Outcome → State → Prop := va_Qv (fun (_ : Unit) => True) (fun _ t => va_P D cl ws t.heap) A
abbrev gQl (D : va_G) (cl : List vw_C) (r : Int64) (ws : va_W) (A : Nat → Prop) : Array Value → State → Outcome → State → Prop := va_Ql (fun r' (_ : Unit) => r' = r) (fun _ t => va_P D cl ws t.heap) A
abbrev gQf (D : va_G) (cl : List vw_C) (r : UInt32) (ws : va_W) (A : Nat → Prop) : Array Value → State → Outcome → State → Prop := va_Qf (fun r' (_ : Unit) => r' = r) (fun _ t => va_P D cl ws t.heap) A
abbrev gQd (D : va_G) (cl : List vw_C) (r : UInt64) (ws : va_W) (A : Nat → Prop) : Array Value → State → Outcome → State → Prop := va_Qd (fun r' (_ : Unit) => r' = r) (fun _ t => va_P D cl ws t.heap) A
/-- as Met.ofW, for a method of a class of which other methods are the machine's own -/
theorem g_ofW {l : Launch} {y : MethodName} {ws ws' : List Cond} {rm : Room} {Pc : Array Value → State → Prop} {Qc : Array Value → State → Outcome → State → Prop} {mc ms : Nat} {free : Addr → Prop} {cc : ByteArray} {maxL : Nat} {ret : Option FieldType}
    (hy : plainFor y = true) (hw : ws = Cond.code y cc maxL ret :: ws')
    (body : ∀ p e s m args below meth c s₁, BodyLoose p l y (headSpec ws rm) cc maxL ret e s m args below meth c s₁ → c.maxLocals = maxL → Pc args s →
      W p l e (headSpec ws rm).room s m args below meth c s.heap [] 0 0 (MQ below Qc args s mc ms free) (entryFrame m args maxL)) : Met l y ws rm Pc Qc mc ms free := by
  refine MetFree.of_bodySF (code := cc) (maxLocals := maxL) (ret := ret) hy (fun args s m h hn => ?_) (fun p e s m args below meth c s₁ B hml hP _ => ?_)
  · obtain ⟨meth, c, h1, h2, h3, h4, h5, h6, -, -⟩ := Cond.code_spec hn (atoms_spec (ws := ws) h _ (by rw [hw]; exact List.mem_cons_self))
    exact ⟨meth, c, h1, h2, h3, h4, h5, h6⟩
  · obtain ⟨t, a1, o, b1, b2, b3⟩ := body p e s m args below meth c s₁ B hml hP s₁ (by rw [B.state]; rfl) (Stand.of_body B)
    exact ⟨t, o, a1, b1, b2, ⟨b3.1, b3.2⟩⟩
section GK
variable {p : Program} {l : Launch} {e : Env} {R : Room} {s : State} {m : MethodId} {args : Array Value} {below : List Frame} {meth : Method} {c : Code} {H : Heap} {locs : List Loc} {cells slots : Nat} {Q : State → Prop}
variable {cc : ByteArray} {pc : Nat} {ls : Array Slot} {rest : List Value} {D : va_G} {cl : List vw_C} {tys : List (ClassId × FieldType)} {n : Nat} {q : Nat → Nat} {X : gX} {σ : TS} {A : Nat → Prop}
theorem g_get (hexec : p.tables.exec = Jvm.exec) (hb : c.code = cc) {own C : String} {T : u_T} {N ci index : Nat} {Ts : List Cond} (hts : ∀ w ∈ Ts, w.before args s = true) (hin : ∀ w ∈ u_ws C T N, w ∈ Ts) (hown : s.vm.findClass own = some m.cls) (hK : va_K D cl tys s) (hP : va_P D cl (gS n q X σ) H) {k : Nat} (hk : k < n) {fs : (Nat → Int32) → List Value} (hX : ∀ r, X k r = .inr (ci, fs r)) (hc : cl[ci]? = some (C, T, N)) (j : Nat) (hj : j < N) (hlink : Cond.fieldLink own index (T j).1 (T j).2.1 (T j).2.2.1 ∈ Ts) {v : Value} (hv : (fs (σ k))[j]? = some v) (hdg : decode cc pc = .ok (.getfield index, 3))
    (kk : W p l e R s m args below meth c H locs cells slots Q (F0 m (pc + 3) ls (v :: rest))) : W p l e R s m args below meth c H locs cells slots Q (F0 m pc ls (.ref (q k) :: rest)) :=
  va_get hexec hb hts hin hown hK hP k (gS_get hk (hX _)) hc j hj (hts _ hlink) (fun _ h => h) hv hdg kk
theorem g_put (hexec : p.tables.exec = Jvm.exec) (hb : c.code = cc) {own C : String} {T : u_T} {N ci index : Nat} {Ts : List Cond} (hts : ∀ w ∈ Ts, w.before args s = true) (hin : ∀ w ∈ u_ws C T N, w ∈ Ts) (ty0 : Nat → FieldType) (hty : ∀ k, k < N → parseFieldDescriptor (T k).2.2.1 = some (ty0 k)) (hnm : ∀ a, a < N → ∀ b, b < N → a ≠ b → (T a).2.1 ≠ (T b).2.1) (hown : s.vm.findClass own = some m.cls) (hK : va_K D cl tys s) (hJ : gJ n q) (hP : va_P D cl (gS n q X σ) H) (hS : va_S (gA n q) s.heap H locs) {k : Nat} (hk : k < n) {fs : (Nat → Int32) → List Value} (hX : ∀ r, X k r = .inr (ci, fs r)) (hc : cl[ci]? = some (C, T, N)) (j : Nat) (hj : j < N) (hlink : Cond.fieldLink own index (T j).1 (T j).2.1 (T j).2.2.1 ∈ Ts) (hfin : (T j).2.2.2 = false) {v : Int32} (hn : narrow (ty0 j) (.int v) = .int v) (hfit : fits (ty0 j) (.int v) = true) (hlen : j < (fs (σ k)).length) (hput : fs (upd (σ k) j v) = (fs (σ k)).set j (.int v)) (hdg : decode cc pc = .ok (.putfield index, 3))
    (kk : ∀ (H1 : Heap) (locs1 : List Loc), va_P D cl (gS n q X (st2 σ k j v)) H1 → va_S (gA n q) s.heap H1 locs1 → W p l e R s m args below meth c H1 locs1 cells slots Q (F0 m (pc + 3) ls rest)) : W p l e R s m args below meth c H locs cells slots Q (F0 m pc ls (.int v :: .ref (q k) :: rest)) := by
  refine va_put hexec hb hts hin ty0 hty hnm hown hK hP (gDS hJ) hS k (gS_get hk (hX _)) hc j hj (hts _ hlink) (fun _ h => h) hfin (hty j hj) hn hfit hlen hdg (fun H1 locs1 hP1 _ hS1 => kk H1 locs1 ?_ hS1)
  rw [gS_set (j := j) (v := v) hk (by rw [hX, hput])] at hP1
  exact hP1
theorem g_iald (hexec : p.tables.exec = Jvm.exec) (hb : c.code = cc) (hK : va_K D cl tys s) (hP : va_P D cl (gS n q X σ) H) {k : Nat} (hk : k < n) {cA : ClassId} {len : Nat} (hX : ∀ r, X k r = .inl (cA, len, .inl r)) (t0 : Nat) (ht : tys[t0]? = some (cA, .int)) {i : Int32} (hin : vp_in i len) {j : Nat} (hj : i.toNatClampNeg = j) (hdg : decode cc pc = .ok (.iaload, 1))
    (kk : W p l e R s m args below meth c H locs cells slots Q (F0 m (pc + 1) ls (.int (σ k j) :: rest))) : W p l e R s m args below meth c H locs cells slots Q (F0 m pc ls (.int i :: .ref (q k) :: rest)) :=
  va_iald hexec hb hK hP k t0 (gS_get hk (hX _)) ht hin hdg (by rw [hj]; exact kk)
theorem g_zald (hexec : p.tables.exec = Jvm.exec) (hb : c.code = cc) (hK : va_K D cl tys s) (hP : va_P D cl (gS n q X σ) H) {k : Nat} (hk : k < n) {cA : ClassId} {len : Nat} (hX : ∀ r, X k r = .inl (cA, len, .inl r)) (t0 : Nat) (ht : tys[t0]? = some (cA, .boolean)) {i : Int32} (hin : vp_in i len) {j : Nat} (hj : i.toNatClampNeg = j) (hdg : decode cc pc = .ok (.baload, 1))
    (kk : W p l e R s m args below meth c H locs cells slots Q (F0 m (pc + 1) ls (.int (σ k j) :: rest))) : W p l e R s m args below meth c H locs cells slots Q (F0 m pc ls (.int i :: .ref (q k) :: rest)) :=
  va_zald hexec hb hK hP k t0 (gS_get hk (hX _)) ht hin hdg (by rw [hj]; exact kk)
theorem g_cald (hexec : p.tables.exec = Jvm.exec) (hb : c.code = cc) (hK : va_K D cl tys s) (hP : va_P D cl (gS n q X σ) H) {k : Nat} (hk : k < n) {cA : ClassId} {len : Nat} (hX : ∀ r, X k r = .inl (cA, len, .inl r)) (t0 : Nat) (ht : tys[t0]? = some (cA, .char)) {i : Int32} (hin : vp_in i len) {j : Nat} (hj : i.toNatClampNeg = j) (hdg : decode cc pc = .ok (.caload, 1))
    (kk : W p l e R s m args below meth c H locs cells slots Q (F0 m (pc + 1) ls (.int (σ k j) :: rest))) : W p l e R s m args below meth c H locs cells slots Q (F0 m pc ls (.int i :: .ref (q k) :: rest)) :=
  va_cald hexec hb hK hP k t0 (gS_get hk (hX _)) ht hin hdg (by rw [hj]; exact kk)
theorem g_aald (hexec : p.tables.exec = Jvm.exec) (hb : c.code = cc) (hK : va_K D cl tys s) (hP : va_P D cl (gS n q X σ) H) {k : Nat} (hk : k < n) {cA : ClassId} {len : Nat} {g : Nat → Nat} (hX : ∀ r, X k r = .inl (cA, len, .inr (.inr (.inr (.inr (fun i => some (g i))))))) (t0 : Nat) {ty : FieldType} (ht : tys[t0]? = some (cA, ty)) (hty : ty.isReference = true) {i : Int32} (hin : vp_in i len) {j : Nat} (hj : i.toNatClampNeg = j) (hdg : decode cc pc = .ok (.aaload, 1))
    (kk : W p l e R s m args below meth c H locs cells slots Q (F0 m (pc + 1) ls (.ref (g j) :: rest))) : W p l e R s m args below meth c H locs cells slots Q (F0 m pc ls (.int i :: .ref (q k) :: rest)) := by
  subst hj
  have hlt : i.toNatClampNeg < len := Nat.not_le.mp fun q => hin (Or.inr q)
  exact W.aald (v := va_rf (some (g i.toNatClampNeg))) (ty := ty) hexec hb (hP k _ (gS_get hk (hX _))) ((hK.2 t0 _ ht).1 len (fun j => va_rf (some (g j)))) hty (fun q => by cases q) (by show ¬ (i < 0 ∨ (arrV _ _ _).slots.size ≤ _); rw [arrV_size]; exact hin) (by show (arrV _ _ _).slots[_]? = _; rw [arrV_read _ _ hlt]) rfl rfl hdg kk
theorem g_iast (hexec : p.tables.exec = Jvm.exec) (hb : c.code = cc) (hK : va_K D cl tys s) (hJ : gJ n q) (hP : va_P D cl (gS n q X σ) H) (hS : va_S (gA n q) s.heap H locs) {k : Nat} (hk : k < n) {cA : ClassId} {len : Nat} (hX : ∀ r, X k r = .inl (cA, len, .inl r)) (t0 : Nat) (ht : tys[t0]? = some (cA, .int)) {i x : Int32} (hin : vp_in i len) {j : Nat} (hj : i.toNatClampNeg = j) (hdg : decode cc pc = .ok (.iastore, 1))
    (kk : ∀ (H1 : Heap) (locs1 : List Loc), va_P D cl (gS n q X (st2 σ k j x)) H1 → va_S (gA n q) s.heap H1 locs1 → W p l e R s m args below meth c H1 locs1 cells slots Q (F0 m (pc + 1) ls rest)) : W p l e R s m args below meth c H locs cells slots Q (F0 m pc ls (.int x :: .int i :: .ref (q k) :: rest)) := by
  subst hj
  refine va_iast hexec hb hK hP (gDS hJ) hS k t0 (gS_get hk (hX _)) ht hin hdg (fun H1 locs1 hP1 _ hS1 => kk H1 locs1 ?_ hS1)
  rw [gS_set (j := i.toNatClampNeg) (v := x) hk (hX _)] at hP1
  exact hP1
theorem g_zast (hexec : p.tables.exec = Jvm.exec) (hb : c.code = cc) (hK : va_K D cl tys s) (hJ : gJ n q) (hP : va_P D cl (gS n q X σ) H) (hS : va_S (gA n q) s.heap H locs) {k : Nat} (hk : k < n) {cA : ClassId} {len : Nat} (hX : ∀ r, X k r = .inl (cA, len, .inl r)) (t0 : Nat) (ht : tys[t0]? = some (cA, .boolean)) {i x : Int32} (hin : vp_in i len) {j : Nat} (hj : i.toNatClampNeg = j) (hdg : decode cc pc = .ok (.bastore, 1))
    (kk : ∀ (H1 : Heap) (locs1 : List Loc), va_P D cl (gS n q X (st2 σ k j (vp_nar .boolean x))) H1 → va_S (gA n q) s.heap H1 locs1 → W p l e R s m args below meth c H1 locs1 cells slots Q (F0 m (pc + 1) ls rest)) : W p l e R s m args below meth c H locs cells slots Q (F0 m pc ls (.int x :: .int i :: .ref (q k) :: rest)) := by
  subst hj
  refine va_zast hexec hb hK hP (gDS hJ) hS k t0 (gS_get hk (hX _)) ht hin hdg (fun H1 locs1 hP1 _ hS1 => kk H1 locs1 ?_ hS1)
  rw [gS_set (j := i.toNatClampNeg) (v := vp_nar .boolean x) hk (hX _)] at hP1
  exact hP1
theorem g_cast (hexec : p.tables.exec = Jvm.exec) (hb : c.code = cc) (hK : va_K D cl tys s) (hJ : gJ n q) (hP : va_P D cl (gS n q X σ) H) (hS : va_S (gA n q) s.heap H locs) {k : Nat} (hk : k < n) {cA : ClassId} {len : Nat} (hX : ∀ r, X k r = .inl (cA, len, .inl r)) (t0 : Nat) (ht : tys[t0]? = some (cA, .char)) {i x : Int32} (hin : vp_in i len) {j : Nat} (hj : i.toNatClampNeg = j) (hdg : decode cc pc = .ok (.castore, 1))
    (kk : ∀ (H1 : Heap) (locs1 : List Loc), va_P D cl (gS n q X (st2 σ k j (vp_nar .char x))) H1 → va_S (gA n q) s.heap H1 locs1 → W p l e R s m args below meth c H1 locs1 cells slots Q (F0 m (pc + 1) ls rest)) : W p l e R s m args below meth c H locs cells slots Q (F0 m pc ls (.int x :: .int i :: .ref (q k) :: rest)) := by
  subst hj
  refine va_cast hexec hb hK hP (gDS hJ) hS k t0 (gS_get hk (hX _)) ht hin hdg (fun H1 locs1 hP1 _ hS1 => kk H1 locs1 ?_ hS1)
  rw [gS_set (j := i.toNatClampNeg) (v := vp_nar .char x) hk (hX _)] at hP1
  exact hP1
theorem g_ldcfw (hexec : p.tables.exec = Jvm.exec) (hb : c.code = cc) {own : String} {index : Nat} {v : UInt32} (hown : s.vm.findClass own = some m.cls) (hconst : (Jvm.Cond.constantFloat own index v).before args s = true) (hdg : decode cc pc = .ok (.ldc_w index, 3)) (k : W p l e R s m args below meth c H locs cells slots Q (F0 m (pc + 3) ls (.float v :: rest))) : W p l e R s m args below meth c H locs cells slots Q (F0 m pc ls rest) := by
  intro T hT X
  obtain ⟨t, a, b⟩ := k T hT X
  refine ⟨t, ?_, b⟩
  obtain ⟨k0, cf, hk, hcf, hcp⟩ := Cond.constantFloat_spec hown hconst
  obtain ⟨k', hk', he⟩ := X.warmed.alike.2.2 _ _ hk
  subst hb
  jvm_step X.here [hexec, hdg, ldc_w.wp_float (s := T) (f := F0 m pc ls rest) X.here.top hk' (by rw [he]; exact hcf) hcp]
  exact a
theorem g_sw (hexec : p.tables.exec = Jvm.exec) (hb : c.code = cc) {dflt lo hi : Int} {offs : Array Int} {len : Nat} {x : Int32} {off : Int} {tgt : Nat} (hdg : decode cc pc = .ok (.tableswitch dflt lo hi offs, len)) (hsz : (hi - lo).toNat < offs.size) (ho : swo dflt lo hi offs x.toInt = off) (ht : (pc : Int) + off = (tgt : Int))
    (k : W p l e R s m args below meth c H locs cells slots Q (F0 m tgt ls rest)) : W p l e R s m args below meth c H locs cells slots Q (F0 m pc ls (.int x :: rest)) := by
  unfold swo at ho
  by_cases h1 : x.toInt < lo
  · rw [if_pos h1] at ho
    exact lv_tableOut hexec hb hdg (Or.inl h1) (by rw [ho]; exact ht) k
  · rw [if_neg h1] at ho
    by_cases h2 : hi < x.toInt
    · rw [if_pos h2] at ho
      exact lv_tableOut hexec hb hdg (Or.inr h2) (by rw [ho]; exact ht) k
    · rw [if_neg h2] at ho
      have h3 : (x.toInt - lo).toNat < offs.size := by omega
      rw [Array.getElem?_eq_getElem h3] at ho
      exact lv_tableIn hexec hb hdg h1 h2 (by rw [Array.getElem?_eq_getElem h3]; exact congrArg some ho) ht k
theorem g_recv {k : Nat} (hK : va_K D cl tys s) (hP : va_P D cl (gS n q X σ) H) (hk : k < n) {ci : Nat} {fs : (Nat → Int32) → List Value} (hX : ∀ r, X k r = .inr (ci, fs r)) {C : String} {T : u_T} {N : Nat} (hc : cl[ci]? = some (C, T, N)) : ∃ cellB : Cell, H[q k]? = some cellB ∧ cellB.vm.isStatics = false ∧ s.vm.findClass C = some cellB.cls :=
  va_recv hK hP hc (gS_get hk (hX _))
section GKC
variable {own C : String} {y : MethodName} {bytes : ByteArray} {maxL nn index nL : Nat} {ret : Option FieldType} {ws Ts : List Cond} {rm : Room} {W0 W1 : va_W} {b : Nat} {As stk : List Value}
theorem g_cVi {r : Int32} (hx : p.tables.exec = Jvm.exec) (hb : c.code = cc) (hml : c.maxLocals = nL) (hown : s.vm.findClass own = some m.cls) (hts : ∀ w ∈ Ts, w.before args s = true) (hK : va_K D cl tys s) (hP : va_P D cl W0 H) (hS : va_S A s.heap H locs)
    (hM : Met l y ws rm (va_Pc (.ref b :: As) (gPre D cl tys W0)) (gQi D cl r W1 A) 0 0 A) (cw : CallW R s args own C index y bytes maxL ret ws rm 0 0 nn) (hrecv : ∃ cellB : Cell, H[b]? = some cellB ∧ cellB.vm.isStatics = false ∧ s.vm.findClass C = some cellB.cls)
    (hn : As.length = nn) (hsize : ls.size = nL) (hstk : stk = As.reverse ++ .ref b :: rest) (hW : (rest.map fun v => v.category).sum ≤ 8) (hdg : decode cc pc = .ok (.invokevirtual index, 3)) (hf : cells ≤ R.cells ∧ slots ≤ R.slots)
    (kk : ∀ (H1 : Heap) (locs1 : List Loc), va_P D cl W1 H1 → va_S A s.heap H1 locs1 → W p l e R s m args below meth c H1 locs1 cells slots Q (F0 m (pc + 3) ls (.int r :: rest))) : W p l e R s m args below meth c H locs cells slots Q (F0 m pc ls stk) := by
  subst hstk
  refine va_calli (va_runV (As := As) (rest := rest) ⟨hx, hb, hml, hown, hts⟩ hM cw ⟨gPre_blind, hrecv, fun U hU hWm => ⟨rfl, by rw [hU]; exact hP, va_K.moved hWm.alike hK⟩⟩ rfl hn hsize rfl (lv_room hW) hdg hf) hS (fun _ _ h => h) (fun _ h => h) (fun r' u t H1 locs1 ht hvm hw hB hz1 hk1 hS1 => ?_)
  subst hw
  rw [ht] at hB
  exact kk H1 locs1 hB hS1
theorem g_cVv (hx : p.tables.exec = Jvm.exec) (hb : c.code = cc) (hml : c.maxLocals = nL) (hown : s.vm.findClass own = some m.cls) (hts : ∀ w ∈ Ts, w.before args s = true) (hK : va_K D cl tys s) (hP : va_P D cl W0 H) (hS : va_S A s.heap H locs)
    (hM : Met l y ws rm (va_Pc (.ref b :: As) (gPre D cl tys W0)) (gQv D cl W1 A) 0 0 A) (cw : CallW R s args own C index y bytes maxL ret ws rm 0 0 nn) (hrecv : ∃ cellB : Cell, H[b]? = some cellB ∧ cellB.vm.isStatics = false ∧ s.vm.findClass C = some cellB.cls)
    (hn : As.length = nn) (hsize : ls.size = nL) (hstk : stk = As.reverse ++ .ref b :: rest) (hW : (rest.map fun v => v.category).sum ≤ 8) (hdg : decode cc pc = .ok (.invokevirtual index, 3)) (hf : cells ≤ R.cells ∧ slots ≤ R.slots)
    (kk : ∀ (H1 : Heap) (locs1 : List Loc), va_P D cl W1 H1 → va_S A s.heap H1 locs1 → W p l e R s m args below meth c H1 locs1 cells slots Q (F0 m (pc + 3) ls rest)) : W p l e R s m args below meth c H locs cells slots Q (F0 m pc ls stk) := by
  subst hstk
  refine va_callv (va_runV (As := As) (rest := rest) ⟨hx, hb, hml, hown, hts⟩ hM cw ⟨gPre_blind, hrecv, fun U hU hWm => ⟨rfl, by rw [hU]; exact hP, va_K.moved hWm.alike hK⟩⟩ rfl hn hsize rfl (lv_room hW) hdg hf) hS (fun _ _ h => h) (fun _ h => h) (fun u t H1 locs1 ht hvm hw hB hz1 hk1 hS1 => ?_)
  rw [ht] at hB
  exact kk H1 locs1 hB hS1
theorem g_cSi {r : Int32} (hx : p.tables.exec = Jvm.exec) (hb : c.code = cc) (hml : c.maxLocals = nL) (hown : s.vm.findClass own = some m.cls) (hts : ∀ w ∈ Ts, w.before args s = true) (hK : va_K D cl tys s) (hP : va_P D cl W0 H) (hS : va_S A s.heap H locs)
    (hM : Met l y ws rm (va_Pc As (gPre D cl tys W0)) (gQi D cl r W1 A) 0 0 A) (cw : CallB R s args own index y bytes maxL ret ws rm 0 0 nn ∧ (Cond.static y).before args s = true)
    (hn : As.length = nn) (hsize : ls.size = nL) (hstk : stk = As.reverse ++ rest) (hW : (rest.map fun v => v.category).sum ≤ 8) (hdg : decode cc pc = .ok (.invokestatic index, 3)) (hf : cells ≤ R.cells ∧ slots ≤ R.slots)
    (kk : ∀ (H1 : Heap) (locs1 : List Loc), va_P D cl W1 H1 → va_S A s.heap H1 locs1 → W p l e R s m args below meth c H1 locs1 cells slots Q (F0 m (pc + 3) ls (.int r :: rest))) : W p l e R s m args below meth c H locs cells slots Q (F0 m pc ls stk) := by
  subst hstk
  refine va_calli (va_runS (As := As) (rest := rest) ⟨hx, hb, hml, hown, hts⟩ hM cw ⟨gPre_blind, fun U hU hWm => ⟨rfl, by rw [hU]; exact hP, va_K.moved hWm.alike hK⟩⟩ rfl hn hsize rfl (lv_room hW) hdg hf) hS (fun _ _ h => h) (fun _ h => h) (fun r' u t H1 locs1 ht hvm hw hB hz1 hk1 hS1 => ?_)
  subst hw
  rw [ht] at hB
  exact kk H1 locs1 hB hS1
end GKC
end GK

section CONS
theorem w_atq {D : va_G} {cl : List vw_C} {a n : Nat} {c : ClassId} {f g : Nat → Option Nat} {H : Heap} (h : va_at D cl (a, .inl (c, n, .inr (.inr (.inr (.inr f))))) H) (hfg : ∀ i, i < n → f i = g i) : va_at D cl (a, .inl (c, n, .inr (.inr (.inr (.inr g))))) H := by
  show H[a]? = some (vp_cell c (n, .inr (.inr (.inr (.inr g)))))
  rw [← cell_q c hfg]
  exact h
theorem w_num {n : Nat} {q : Nat → Nat} {X : gX} {σ : TS} {A : Nat → Prop} {D : va_G} {W : va_W} {H : Heap} (hP : va_P D vwCl W H) (hD : va_D A W) (ps : List Nat) (hnd : va_nd ps = true) (hk : ∀ k, k < n → ∃ i e, ps[k]? = some i ∧ W[i]? = some (q k, e) ∧ ∀ H : Heap, va_at D vwCl (q k, e) H → va_at D vwCl (q k, X k (σ k)) H) : gJ n q ∧ va_P D vwCl (gS n q X σ) H ∧ va_D A (gS n q X σ) := by
  have hJ : gJ n q := by
    intro i j hi hj h
    obtain ⟨a, e, h1, h2, -⟩ := hk i hi
    obtain ⟨b, f, h3, h4, -⟩ := hk j hj
    have h5 := hD.1 a b _ _ h2 h4 h
    subst h5
    exact va_nd_inj ps hnd i j a h1 h3
  refine ⟨hJ, fun k x hx => ?_, (gDS hJ).weaken fun k x hx _ => ?_⟩
  · obtain ⟨hk1, rfl⟩ := gW_inv hx
    obtain ⟨i, e, h1, h2, h3⟩ := hk k hk1
    exact h3 H (hP i _ h2)
  · obtain ⟨hk1, rfl⟩ := gW_inv hx
    obtain ⟨i, e, h1, h2, h3⟩ := hk k hk1
    exact hD.2 i (q k, e) h2
theorem n_iast {p : Program} {l : Launch} {e : Env} {R : Room} {s : State} {m : MethodId} {args : Array Value} {below : List Frame} {meth : Method} {c : Code} {H H0 : Heap} {locs : List Loc} {cells slots : Nat} {Q : State → Prop} {cc : ByteArray} {pc : Nat} {ls : Array Slot} {rest : List Value} {D : va_G} {cl : List vw_C} {tys : List (ClassId × FieldType)} {n : Nat} {q : Nat → Nat} {X : gX} {σ : TS} {A : Nat → Prop} (hexec : p.tables.exec = Jvm.exec) (hb : c.code = cc) (hK : va_K D cl tys s) (hP : va_P D cl (gS n q X σ) H) (hD : va_D A (gS n q X σ)) (hS : va_S A H0 H locs) {k : Nat} (hk : k < n) {cA : ClassId} {len : Nat} (hX : ∀ r, X k r = .inl (cA, len, .inl r)) (t0 : Nat) (ht : tys[t0]? = some (cA, .int)) {i x : Int32} (hin : vp_in i len) {j : Nat} (hj : i.toNatClampNeg = j) (hdg : decode cc pc = .ok (.iastore, 1))
    (kk : ∀ (H1 : Heap) (locs1 : List Loc), va_P D cl (gS n q X (st2 σ k j x)) H1 → va_D A (gS n q X (st2 σ k j x)) → va_S A H0 H1 locs1 → W p l e R s m args below meth c H1 locs1 cells slots Q (F0 m (pc + 1) ls rest)) : W p l e R s m args below meth c H locs cells slots Q (F0 m pc ls (.int x :: .int i :: .ref (q k) :: rest)) := by
  subst hj
  refine va_iast hexec hb hK hP hD hS k t0 (gS_get hk (hX _)) ht hin hdg (fun H1 locs1 hP1 hD1 hS1 => kk H1 locs1 ?_ ?_ hS1)
  · rw [gS_set (j := i.toNatClampNeg) (v := x) hk (hX _)] at hP1
    exact hP1
  · rw [gS_set (j := i.toNatClampNeg) (v := x) hk (hX _)] at hD1
    exact hD1
abbrev WCX4 (cy : Nat → ClassId) (u : Nat → Nat) : va_W := [((u 0), .inr (4, [.ref (u 1), .ref (u 2), .int (0 : Int32)])), ((u 1), .inl (cy 0, 18, .inl (fun _ => 0))), ((u 2), .inl (cy 0, 18, .inl (fun _ => 0)))]
abbrev rmX4_init : Room := { frames := 1, cells := 2, slots := 36, locals := 12 }
def nlX4 : List Cond := []
theorem okX4 : ∀ w ∈ nlX4, okN w := by
  intro w hw
  cases hw
theorem cwX4_0 : Cond.methodLink RX4 3 objectInit ∈ wsX4_init := by decide +kernel
theorem cwX4_1 : Cond.instanceMethod objectInit ∈ wsX4_init := by decide +kernel
theorem cwX4_2 : Cond.arrayClass .int ∈ wsX4_init := by decide +kernel
theorem cwX4_3 : Cond.fieldLink RX4 9 "Triplane$Memory" "written" "[I" ∈ wsX4_init := by decide +kernel
theorem ciX4_X4 : ∀ w ∈ u_ws RX4 TX4 3, w ∈ wsX4_init := by decide +kernel
theorem cwX4_4 : Cond.fieldLink RX4 15 "Triplane$Memory" "flips" "[I" ∈ wsX4_init := by decide +kernel
theorem cwX4_5 : Cond.fieldLink RX4 18 "Triplane$Memory" "mendedBits" "I" ∈ wsX4_init := by decide +kernel
set_option maxHeartbeats 8000000 in
set_option maxRecDepth 100000 in
theorem nX4_init (l : Launch) (D : va_G) (cy : Nat → ClassId) (h0 sz : Nat) : Met l yX4_init wsX4_init rmX4_init (va_Pc [.ref h0] (cPre D cy sz [(h0, .inr (4, [.null, .null, .int 0]))] nlX4)) (cQ D h0 (fun u => WCX4 cy u) (va_A [(h0, .inr (4, [.null, .null, .int 0]))] sz)) 2 36 (va_A [(h0, .inr (4, [.null, .null, .int 0]))] sz) := by
  refine Met.ofW (cc := cX4_init) (maxL := 1) (ret := none) (by decide) rfl ?_
  intro p e s m args below meth c s₁ B hml hv
  obtain ⟨rfl, hsz, hP, hK, hD0, hN⟩ := hv
  have hx := B.exec
  have hb := B.bytes
  have hr := B.returns
  have hts := atoms_spec (ws := wsX4_init) B.pre
  have hown : s.vm.findClass RX4 = some m.cls := findClass_of_methodNamed B.named
  have hlocks := B.notSynchronized
  have hin : meth.name = "<init>" := (name_of_methodNamed B.named B.method).1
  subst hsz
  have hD := hD0.self (sz := s.heap.size)
  generalize hAe : va_A [(h0, .inr (4, [.null, .null, .int 0]))] s.heap.size = A at hD ⊢
  have hA : ∀ q : Nat, s.heap.size ≤ q → A q := fun q h => by rw [← hAe]; exact Or.inr h
  have hS : va_S A s.heap s.heap [] := va_S.rf
  have hP : va_P D vwCl [(h0, .inr (4, [.null, .null, .int 0]))] s.heap := hP
  have hl := lv_entry ([.ref h0]) (n := 1) (Nat.le_of_ble_eq_true rfl)
  rw [lg_entry_eq]
  generalize (lg_sl ([.ref h0]) ++ List.replicate (1 - (lg_sl ([.ref h0])).length) Slot.unset).toArray = ls at hl ⊢
  have hl : lv_has ls 1 [(0, .ref h0)] := hl
  refine lv_aload_n hx hb dX4_init_0 rfl (lv_at hl 0 rfl) ?_
  refine W.objInit hx hb hown (hts _ cwX4_0) (hts _ cwX4_1) (hts _ (List.mem_of_getElem? (l := wsX4_init) (i := 3) rfl)) rfl (by rw [hml]; exact hl.1) rfl dX4_init_1 (Nat.le_of_ble_eq_true rfl) (Nat.le_of_ble_eq_true rfl) ?_
  refine W.eq (g2 := F0 m 4 ls []) rfl ?_
  refine lv_aload_n hx hb dX4_init_4 rfl (lv_at hl 0 rfl) ?_
  refine lv_bipush (v := (18 : Int32)) hx hb dX4_init_5 (by decide) ?_
  refine n_newa (atype := .int) (ty := .int) (N' := 18) (a0 := (18, .inl (fun _ => 0))) hx hb (hts _ cwX4_2) rfl hK hP hD hS hA 0 rfl (fun _ => rfl) (by decide) rfl (by decide) (Nat.le_of_ble_eq_true rfl) (Nat.le_of_ble_eq_true rfl) dX4_init_7 (fun q0 H hP hD hS => ?_)
  refine W.widen (k := 1) (n := 18) (Nat.le_of_ble_eq_true rfl) (Nat.le_of_ble_eq_true rfl) ?_
  have hP : va_P D vwCl ([(h0, .inr (4, [.null, .null, .int 0])), (q0, .inl (cy 0, 18, .inl (fun _ => 0)))]) H := hP
  have hD : va_D A ([(h0, .inr (4, [.null, .null, .int 0])), (q0, .inl (cy 0, 18, .inl (fun _ => 0)))]) := hD
  refine va_putF (D := D) (ci := 4) (v := .ref q0) (ty := tyX4 0) (C := RX4) (T := TX4) (N := 3) hx hb hts ciX4_X4 tyX4 tyX4_ok nmX4 hown hK hP hD hS 0 rfl rfl 0 (by decide) (hts _ cwX4_3) (fun _ h9 => h9) rfl hin rfl (tyX4_ok 0 (by decide)) rfl rfl (Nat.le_of_ble_eq_true rfl) dX4_init_9 (fun H locs hP hD hS => ?_)
  have hP : va_P D vwCl ([(h0, .inr (4, [.ref q0, .null, .int 0])), (q0, .inl (cy 0, 18, .inl (fun _ => 0)))]) H := hP
  have hD : va_D A ([(h0, .inr (4, [.ref q0, .null, .int 0])), (q0, .inl (cy 0, 18, .inl (fun _ => 0)))]) := hD
  refine lv_aload_n hx hb dX4_init_12 rfl (lv_at hl 0 rfl) ?_
  refine lv_bipush (v := (18 : Int32)) hx hb dX4_init_13 (by decide) ?_
  refine n_newa (atype := .int) (ty := .int) (N' := 18) (a0 := (18, .inl (fun _ => 0))) hx hb (hts _ cwX4_2) rfl hK hP hD hS hA 0 rfl (fun _ => rfl) (by decide) rfl (by decide) (Nat.le_of_ble_eq_true rfl) (Nat.le_of_ble_eq_true rfl) dX4_init_15 (fun q1 H hP hD hS => ?_)
  refine W.widen (k := 2) (n := 36) (Nat.le_of_ble_eq_true rfl) (Nat.le_of_ble_eq_true rfl) ?_
  have hP : va_P D vwCl ([(h0, .inr (4, [.ref q0, .null, .int 0])), (q0, .inl (cy 0, 18, .inl (fun _ => 0))), (q1, .inl (cy 0, 18, .inl (fun _ => 0)))]) H := hP
  have hD : va_D A ([(h0, .inr (4, [.ref q0, .null, .int 0])), (q0, .inl (cy 0, 18, .inl (fun _ => 0))), (q1, .inl (cy 0, 18, .inl (fun _ => 0)))]) := hD
  refine va_putF (D := D) (ci := 4) (v := .ref q1) (ty := tyX4 1) (C := RX4) (T := TX4) (N := 3) hx hb hts ciX4_X4 tyX4 tyX4_ok nmX4 hown hK hP hD hS 0 rfl rfl 1 (by decide) (hts _ cwX4_4) (fun _ h9 => h9) rfl hin rfl (tyX4_ok 1 (by decide)) rfl rfl (Nat.le_of_ble_eq_true rfl) dX4_init_17 (fun H locs hP hD hS => ?_)
  have hP : va_P D vwCl ([(h0, .inr (4, [.ref q0, .ref q1, .int 0])), (q0, .inl (cy 0, 18, .inl (fun _ => 0))), (q1, .inl (cy 0, 18, .inl (fun _ => 0)))]) H := hP
  have hD : va_D A ([(h0, .inr (4, [.ref q0, .ref q1, .int 0])), (q0, .inl (cy 0, 18, .inl (fun _ => 0))), (q1, .inl (cy 0, 18, .inl (fun _ => 0)))]) := hD
  refine lv_aload_n hx hb dX4_init_20 rfl (lv_at hl 0 rfl) ?_
  refine lv_iconst (v := (0 : Int32)) hx hb dX4_init_21 (by decide) ?_
  refine va_put (D := D) (ci := 4) (v := .int (0 : Int32)) (ty := tyX4 2) (C := RX4) (T := TX4) (N := 3) hx hb hts ciX4_X4 tyX4 tyX4_ok nmX4 hown hK hP hD hS 0 rfl rfl 2 (by decide) (hts _ cwX4_5) (fun _ h9 => h9) rfl (tyX4_ok 2 (by decide)) (by decide) (by decide) (Nat.le_of_ble_eq_true rfl) dX4_init_22 (fun H locs hP hD hS => ?_)
  have hP : va_P D vwCl ([(h0, .inr (4, [.ref q0, .ref q1, .int (0 : Int32)])), (q0, .inl (cy 0, 18, .inl (fun _ => 0))), (q1, .inl (cy 0, 18, .inl (fun _ => 0)))]) H := hP
  have hD : va_D A ([(h0, .inr (4, [.ref q0, .ref q1, .int (0 : Int32)])), (q0, .inl (cy 0, 18, .inl (fun _ => 0))), (q1, .inl (cy 0, 18, .inl (fun _ => 0)))]) := hD
  have hP9 := hP.sub (ws' := WCX4 cy (fun i => ([h0, q0, q1] : List Nat).getD i 0)) [0, 1, 2] rfl
  have hD9 := hD.sub (ws' := WCX4 cy (fun i => ([h0, q0, q1] : List Nat).getD i 0)) [0, 1, 2] (by decide) rfl
  exact W.vret hx hb hr (fun t ht hW => ⟨⟨fun i => ([h0, q0, q1] : List Nat).getD i 0, rfl, rfl, by rw [ht]; exact hP9, hD9⟩, hS.F ht⟩) hS.2.2 dX4_init_25
abbrev WCX6 (cy : Nat → ClassId) (u : Nat → Nat) : va_W := [((u 0), .inr (5, [.ref (u 1), .ref (u 2), .ref (u 3), .int (0 : Int32), .int (0 : Int32)])), ((u 1), .inl (cy 2, 10, .inl (fun _ => 0))), ((u 2), .inl (cy 0, 10, .inl (fun _ => 0))), ((u 3), .inl (cy 0, 10, .inl (fun _ => 0)))]
abbrev rmX6_init : Room := { frames := 1, cells := 3, slots := 30, locals := 12 }
def nlX6 : List Cond := []
theorem okX6 : ∀ w ∈ nlX6, okN w := by
  intro w hw
  cases hw
theorem cwX6_0 : Cond.methodLink RX6 3 objectInit ∈ wsX6_init := by decide +kernel
theorem cwX6_1 : Cond.instanceMethod objectInit ∈ wsX6_init := by decide +kernel
theorem cwX6_2 : Cond.arrayClass .char ∈ wsX6_init := by decide +kernel
theorem cwX6_3 : Cond.fieldLink RX6 9 "Triplane$Program" "kinds" "[C" ∈ wsX6_init := by decide +kernel
theorem ciX6_X6 : ∀ w ∈ u_ws RX6 TX6 5, w ∈ wsX6_init := by decide +kernel
theorem cwX6_4 : Cond.arrayClass .int ∈ wsX6_init := by decide +kernel
theorem cwX6_5 : Cond.fieldLink RX6 15 "Triplane$Program" "registers" "[I" ∈ wsX6_init := by decide +kernel
theorem cwX6_6 : Cond.fieldLink RX6 19 "Triplane$Program" "ns" "[I" ∈ wsX6_init := by decide +kernel
theorem cwX6_7 : Cond.fieldLink RX6 22 "Triplane$Program" "size" "I" ∈ wsX6_init := by decide +kernel
theorem cwX6_8 : Cond.fieldLink RX6 26 "Triplane$Program" "overrunCount" "I" ∈ wsX6_init := by decide +kernel
set_option maxHeartbeats 8000000 in
set_option maxRecDepth 100000 in
theorem nX6_init (l : Launch) (D : va_G) (cy : Nat → ClassId) (h0 sz : Nat) : Met l yX6_init wsX6_init rmX6_init (va_Pc [.ref h0] (cPre D cy sz [(h0, .inr (5, [.null, .null, .null, .int 0, .int 0]))] nlX6)) (cQ D h0 (fun u => WCX6 cy u) (va_A [(h0, .inr (5, [.null, .null, .null, .int 0, .int 0]))] sz)) 3 30 (va_A [(h0, .inr (5, [.null, .null, .null, .int 0, .int 0]))] sz) := by
  refine Met.ofW (cc := cX6_init) (maxL := 1) (ret := none) (by decide) rfl ?_
  intro p e s m args below meth c s₁ B hml hv
  obtain ⟨rfl, hsz, hP, hK, hD0, hN⟩ := hv
  have hx := B.exec
  have hb := B.bytes
  have hr := B.returns
  have hts := atoms_spec (ws := wsX6_init) B.pre
  have hown : s.vm.findClass RX6 = some m.cls := findClass_of_methodNamed B.named
  have hlocks := B.notSynchronized
  have hin : meth.name = "<init>" := (name_of_methodNamed B.named B.method).1
  subst hsz
  have hD := hD0.self (sz := s.heap.size)
  generalize hAe : va_A [(h0, .inr (5, [.null, .null, .null, .int 0, .int 0]))] s.heap.size = A at hD ⊢
  have hA : ∀ q : Nat, s.heap.size ≤ q → A q := fun q h => by rw [← hAe]; exact Or.inr h
  have hS : va_S A s.heap s.heap [] := va_S.rf
  have hP : va_P D vwCl [(h0, .inr (5, [.null, .null, .null, .int 0, .int 0]))] s.heap := hP
  have hl := lv_entry ([.ref h0]) (n := 1) (Nat.le_of_ble_eq_true rfl)
  rw [lg_entry_eq]
  generalize (lg_sl ([.ref h0]) ++ List.replicate (1 - (lg_sl ([.ref h0])).length) Slot.unset).toArray = ls at hl ⊢
  have hl : lv_has ls 1 [(0, .ref h0)] := hl
  refine lv_aload_n hx hb dX6_init_0 rfl (lv_at hl 0 rfl) ?_
  refine W.objInit hx hb hown (hts _ cwX6_0) (hts _ cwX6_1) (hts _ (List.mem_of_getElem? (l := wsX6_init) (i := 3) rfl)) rfl (by rw [hml]; exact hl.1) rfl dX6_init_1 (Nat.le_of_ble_eq_true rfl) (Nat.le_of_ble_eq_true rfl) ?_
  refine W.eq (g2 := F0 m 4 ls []) rfl ?_
  refine lv_aload_n hx hb dX6_init_4 rfl (lv_at hl 0 rfl) ?_
  refine lv_bipush (v := (10 : Int32)) hx hb dX6_init_5 (by decide) ?_
  refine n_newa (atype := .char) (ty := .char) (N' := 10) (a0 := (10, .inl (fun _ => 0))) hx hb (hts _ cwX6_2) rfl hK hP hD hS hA 2 rfl (fun _ => rfl) (by decide) rfl (by decide) (Nat.le_of_ble_eq_true rfl) (Nat.le_of_ble_eq_true rfl) dX6_init_7 (fun q0 H hP hD hS => ?_)
  refine W.widen (k := 1) (n := 10) (Nat.le_of_ble_eq_true rfl) (Nat.le_of_ble_eq_true rfl) ?_
  have hP : va_P D vwCl ([(h0, .inr (5, [.null, .null, .null, .int 0, .int 0])), (q0, .inl (cy 2, 10, .inl (fun _ => 0)))]) H := hP
  have hD : va_D A ([(h0, .inr (5, [.null, .null, .null, .int 0, .int 0])), (q0, .inl (cy 2, 10, .inl (fun _ => 0)))]) := hD
  refine va_putF (D := D) (ci := 5) (v := .ref q0) (ty := tyX6 0) (C := RX6) (T := TX6) (N := 5) hx hb hts ciX6_X6 tyX6 tyX6_ok nmX6 hown hK hP hD hS 0 rfl rfl 0 (by decide) (hts _ cwX6_3) (fun _ h9 => h9) rfl hin rfl (tyX6_ok 0 (by decide)) rfl rfl (Nat.le_of_ble_eq_true rfl) dX6_init_9 (fun H locs hP hD hS => ?_)
  have hP : va_P D vwCl ([(h0, .inr (5, [.ref q0, .null, .null, .int 0, .int 0])), (q0, .inl (cy 2, 10, .inl (fun _ => 0)))]) H := hP
  have hD : va_D A ([(h0, .inr (5, [.ref q0, .null, .null, .int 0, .int 0])), (q0, .inl (cy 2, 10, .inl (fun _ => 0)))]) := hD
  refine lv_aload_n hx hb dX6_init_12 rfl (lv_at hl 0 rfl) ?_
  refine lv_bipush (v := (10 : Int32)) hx hb dX6_init_13 (by decide) ?_
  refine n_newa (atype := .int) (ty := .int) (N' := 10) (a0 := (10, .inl (fun _ => 0))) hx hb (hts _ cwX6_4) rfl hK hP hD hS hA 0 rfl (fun _ => rfl) (by decide) rfl (by decide) (Nat.le_of_ble_eq_true rfl) (Nat.le_of_ble_eq_true rfl) dX6_init_15 (fun q1 H hP hD hS => ?_)
  refine W.widen (k := 2) (n := 20) (Nat.le_of_ble_eq_true rfl) (Nat.le_of_ble_eq_true rfl) ?_
  have hP : va_P D vwCl ([(h0, .inr (5, [.ref q0, .null, .null, .int 0, .int 0])), (q0, .inl (cy 2, 10, .inl (fun _ => 0))), (q1, .inl (cy 0, 10, .inl (fun _ => 0)))]) H := hP
  have hD : va_D A ([(h0, .inr (5, [.ref q0, .null, .null, .int 0, .int 0])), (q0, .inl (cy 2, 10, .inl (fun _ => 0))), (q1, .inl (cy 0, 10, .inl (fun _ => 0)))]) := hD
  refine va_putF (D := D) (ci := 5) (v := .ref q1) (ty := tyX6 1) (C := RX6) (T := TX6) (N := 5) hx hb hts ciX6_X6 tyX6 tyX6_ok nmX6 hown hK hP hD hS 0 rfl rfl 1 (by decide) (hts _ cwX6_5) (fun _ h9 => h9) rfl hin rfl (tyX6_ok 1 (by decide)) rfl rfl (Nat.le_of_ble_eq_true rfl) dX6_init_17 (fun H locs hP hD hS => ?_)
  have hP : va_P D vwCl ([(h0, .inr (5, [.ref q0, .ref q1, .null, .int 0, .int 0])), (q0, .inl (cy 2, 10, .inl (fun _ => 0))), (q1, .inl (cy 0, 10, .inl (fun _ => 0)))]) H := hP
  have hD : va_D A ([(h0, .inr (5, [.ref q0, .ref q1, .null, .int 0, .int 0])), (q0, .inl (cy 2, 10, .inl (fun _ => 0))), (q1, .inl (cy 0, 10, .inl (fun _ => 0)))]) := hD
  refine lv_aload_n hx hb dX6_init_20 rfl (lv_at hl 0 rfl) ?_
  refine lv_bipush (v := (10 : Int32)) hx hb dX6_init_21 (by decide) ?_
  refine n_newa (atype := .int) (ty := .int) (N' := 10) (a0 := (10, .inl (fun _ => 0))) hx hb (hts _ cwX6_4) rfl hK hP hD hS hA 0 rfl (fun _ => rfl) (by decide) rfl (by decide) (Nat.le_of_ble_eq_true rfl) (Nat.le_of_ble_eq_true rfl) dX6_init_23 (fun q2 H hP hD hS => ?_)
  refine W.widen (k := 3) (n := 30) (Nat.le_of_ble_eq_true rfl) (Nat.le_of_ble_eq_true rfl) ?_
  have hP : va_P D vwCl ([(h0, .inr (5, [.ref q0, .ref q1, .null, .int 0, .int 0])), (q0, .inl (cy 2, 10, .inl (fun _ => 0))), (q1, .inl (cy 0, 10, .inl (fun _ => 0))), (q2, .inl (cy 0, 10, .inl (fun _ => 0)))]) H := hP
  have hD : va_D A ([(h0, .inr (5, [.ref q0, .ref q1, .null, .int 0, .int 0])), (q0, .inl (cy 2, 10, .inl (fun _ => 0))), (q1, .inl (cy 0, 10, .inl (fun _ => 0))), (q2, .inl (cy 0, 10, .inl (fun _ => 0)))]) := hD
  refine va_putF (D := D) (ci := 5) (v := .ref q2) (ty := tyX6 2) (C := RX6) (T := TX6) (N := 5) hx hb hts ciX6_X6 tyX6 tyX6_ok nmX6 hown hK hP hD hS 0 rfl rfl 2 (by decide) (hts _ cwX6_6) (fun _ h9 => h9) rfl hin rfl (tyX6_ok 2 (by decide)) rfl rfl (Nat.le_of_ble_eq_true rfl) dX6_init_25 (fun H locs hP hD hS => ?_)
  have hP : va_P D vwCl ([(h0, .inr (5, [.ref q0, .ref q1, .ref q2, .int 0, .int 0])), (q0, .inl (cy 2, 10, .inl (fun _ => 0))), (q1, .inl (cy 0, 10, .inl (fun _ => 0))), (q2, .inl (cy 0, 10, .inl (fun _ => 0)))]) H := hP
  have hD : va_D A ([(h0, .inr (5, [.ref q0, .ref q1, .ref q2, .int 0, .int 0])), (q0, .inl (cy 2, 10, .inl (fun _ => 0))), (q1, .inl (cy 0, 10, .inl (fun _ => 0))), (q2, .inl (cy 0, 10, .inl (fun _ => 0)))]) := hD
  refine lv_aload_n hx hb dX6_init_28 rfl (lv_at hl 0 rfl) ?_
  refine lv_iconst (v := (0 : Int32)) hx hb dX6_init_29 (by decide) ?_
  refine va_put (D := D) (ci := 5) (v := .int (0 : Int32)) (ty := tyX6 3) (C := RX6) (T := TX6) (N := 5) hx hb hts ciX6_X6 tyX6 tyX6_ok nmX6 hown hK hP hD hS 0 rfl rfl 3 (by decide) (hts _ cwX6_7) (fun _ h9 => h9) rfl (tyX6_ok 3 (by decide)) (by decide) (by decide) (Nat.le_of_ble_eq_true rfl) dX6_init_30 (fun H locs hP hD hS => ?_)
  have hP : va_P D vwCl ([(h0, .inr (5, [.ref q0, .ref q1, .ref q2, .int (0 : Int32), .int 0])), (q0, .inl (cy 2, 10, .inl (fun _ => 0))), (q1, .inl (cy 0, 10, .inl (fun _ => 0))), (q2, .inl (cy 0, 10, .inl (fun _ => 0)))]) H := hP
  have hD : va_D A ([(h0, .inr (5, [.ref q0, .ref q1, .ref q2, .int (0 : Int32), .int 0])), (q0, .inl (cy 2, 10, .inl (fun _ => 0))), (q1, .inl (cy 0, 10, .inl (fun _ => 0))), (q2, .inl (cy 0, 10, .inl (fun _ => 0)))]) := hD
  refine lv_aload_n hx hb dX6_init_33 rfl (lv_at hl 0 rfl) ?_
  refine lv_iconst (v := (0 : Int32)) hx hb dX6_init_34 (by decide) ?_
  refine va_put (D := D) (ci := 5) (v := .int (0 : Int32)) (ty := tyX6 4) (C := RX6) (T := TX6) (N := 5) hx hb hts ciX6_X6 tyX6 tyX6_ok nmX6 hown hK hP hD hS 0 rfl rfl 4 (by decide) (hts _ cwX6_8) (fun _ h9 => h9) rfl (tyX6_ok 4 (by decide)) (by decide) (by decide) (Nat.le_of_ble_eq_true rfl) dX6_init_35 (fun H locs hP hD hS => ?_)
  have hP : va_P D vwCl ([(h0, .inr (5, [.ref q0, .ref q1, .ref q2, .int (0 : Int32), .int (0 : Int32)])), (q0, .inl (cy 2, 10, .inl (fun _ => 0))), (q1, .inl (cy 0, 10, .inl (fun _ => 0))), (q2, .inl (cy 0, 10, .inl (fun _ => 0)))]) H := hP
  have hD : va_D A ([(h0, .inr (5, [.ref q0, .ref q1, .ref q2, .int (0 : Int32), .int (0 : Int32)])), (q0, .inl (cy 2, 10, .inl (fun _ => 0))), (q1, .inl (cy 0, 10, .inl (fun _ => 0))), (q2, .inl (cy 0, 10, .inl (fun _ => 0)))]) := hD
  have hP9 := hP.sub (ws' := WCX6 cy (fun i => ([h0, q0, q1, q2] : List Nat).getD i 0)) [0, 1, 2, 3] rfl
  have hD9 := hD.sub (ws' := WCX6 cy (fun i => ([h0, q0, q1, q2] : List Nat).getD i 0)) [0, 1, 2, 3] (by decide) rfl
  exact W.vret hx hb hr (fun t ht hW => ⟨⟨fun i => ([h0, q0, q1, q2] : List Nat).getD i 0, rfl, rfl, by rw [ht]; exact hP9, hD9⟩, hS.F ht⟩) hS.2.2 dX6_init_38
abbrev WCX2 (cy : Nat → ClassId) (u : Nat → Nat) : va_W := [((u 0), .inr (2, [.ref (u 1), .ref (u 4), .int (-1 : Int32)])), ((u 1), .inl (cy 6, 2, .inr (.inr (.inr (.inr (fun i => if i = 0 then some (u 2) else some (u 3))))))), ((u 2), .inl (cy 0, 6, .inl (fun _ => 0))), ((u 3), .inl (cy 0, 6, .inl (fun _ => 0))), ((u 4), .inl (cy 1, 2, .inl (fun _ => 0)))]
abbrev rmX2_init : Room := { frames := 1, cells := 4, slots := 16, locals := 12 }
def nlX2 : List Cond := [.arrayOver (.array .int)]
theorem okX2 : ∀ w ∈ nlX2, okN w := by
  intro w hw
  simp only [nlX2, List.mem_cons, List.not_mem_nil, or_false] at hw
  rcases hw with rfl
  · exact Or.inr ⟨_, rfl⟩
theorem cwX2_0 : Cond.methodLink RX2 3 objectInit ∈ wsX2_init := by decide +kernel
theorem cwX2_1 : Cond.instanceMethod objectInit ∈ wsX2_init := by decide +kernel
theorem cwX2_2 : Cond.classLink RX2 9 "[[I" ∈ wsX2_init := by decide +kernel
theorem cwX2_3 : Cond.arrayClass .int ∈ wsX2_init := by decide +kernel
theorem cwX2_4 : Cond.fieldLink RX2 11 "Triplane$Copies" "words" "[[I" ∈ wsX2_init := by decide +kernel
theorem ciX2_X2 : ∀ w ∈ u_ws RX2 TX2 3, w ∈ wsX2_init := by decide +kernel
theorem cwX2_5 : Cond.arrayClass .boolean ∈ wsX2_init := by decide +kernel
theorem cwX2_6 : Cond.fieldLink RX2 16 "Triplane$Copies" "isGood" "[Z" ∈ wsX2_init := by decide +kernel
theorem cwX2_7 : Cond.fieldLink RX2 20 "Triplane$Copies" "newest" "I" ∈ wsX2_init := by decide +kernel
set_option maxHeartbeats 8000000 in
set_option maxRecDepth 100000 in
theorem nX2_init (l : Launch) (D : va_G) (cy : Nat → ClassId) (h0 sz : Nat) : Met l yX2_init wsX2_init rmX2_init (va_Pc [.ref h0] (cPre D cy sz [(h0, .inr (2, [.null, .null, .int 0]))] nlX2)) (cQ D h0 (fun u => WCX2 cy u) (va_A [(h0, .inr (2, [.null, .null, .int 0]))] sz)) 4 16 (va_A [(h0, .inr (2, [.null, .null, .int 0]))] sz) := by
  refine Met.ofW (cc := cX2_init) (maxL := 1) (ret := none) (by decide) rfl ?_
  intro p e s m args below meth c s₁ B hml hv
  obtain ⟨rfl, hsz, hP, hK, hD0, hN⟩ := hv
  have hx := B.exec
  have hb := B.bytes
  have hr := B.returns
  have hts := atoms_spec (ws := wsX2_init) B.pre
  have hown : s.vm.findClass RX2 = some m.cls := findClass_of_methodNamed B.named
  have hlocks := B.notSynchronized
  have hin : meth.name = "<init>" := (name_of_methodNamed B.named B.method).1
  subst hsz
  have hD := hD0.self (sz := s.heap.size)
  generalize hAe : va_A [(h0, .inr (2, [.null, .null, .int 0]))] s.heap.size = A at hD ⊢
  have hA : ∀ q : Nat, s.heap.size ≤ q → A q := fun q h => by rw [← hAe]; exact Or.inr h
  have hS : va_S A s.heap s.heap [] := va_S.rf
  have hP : va_P D vwCl [(h0, .inr (2, [.null, .null, .int 0]))] s.heap := hP
  have hl := lv_entry ([.ref h0]) (n := 1) (Nat.le_of_ble_eq_true rfl)
  rw [lg_entry_eq]
  generalize (lg_sl ([.ref h0]) ++ List.replicate (1 - (lg_sl ([.ref h0])).length) Slot.unset).toArray = ls at hl ⊢
  have hl : lv_has ls 1 [(0, .ref h0)] := hl
  refine lv_aload_n hx hb dX2_init_0 rfl (lv_at hl 0 rfl) ?_
  refine W.objInit hx hb hown (hts _ cwX2_0) (hts _ cwX2_1) (hts _ (List.mem_of_getElem? (l := wsX2_init) (i := 3) rfl)) rfl (by rw [hml]; exact hl.1) rfl dX2_init_1 (Nat.le_of_ble_eq_true rfl) (Nat.le_of_ble_eq_true rfl) ?_
  refine W.eq (g2 := F0 m 4 ls []) rfl ?_
  refine lv_aload_n hx hb dX2_init_4 rfl (lv_at hl 0 rfl) ?_
  refine lv_iconst (v := (2 : Int32)) hx hb dX2_init_5 (by decide) ?_
  refine lv_bipush (v := (6 : Int32)) hx hb dX2_init_6 (by decide) ?_
  refine n_mna2 (K' := 6) hx hb hown (hts _ cwX2_2) (hN _ (List.mem_of_getElem? (i := 0) rfl)) (hts _ cwX2_3) hK hP hD hS hA 0 6 rfl rfl (by decide) rfl (by decide) (Nat.le_of_ble_eq_true rfl) (Nat.le_of_ble_eq_true rfl) dX2_init_8 (fun q0 r0a r0b H hP hD hS => ?_)
  refine W.widen (k := 3) (n := 14) (Nat.le_of_ble_eq_true rfl) (Nat.le_of_ble_eq_true rfl) ?_
  have hP : va_P D vwCl ([(h0, .inr (2, [.null, .null, .int 0])), (q0, .inl (cy 6, 2, .inr (.inr (.inr (.inr (fun i => if i = 0 then some r0a else some r0b)))))), (r0a, .inl (cy 0, 6, .inl (fun _ => 0))), (r0b, .inl (cy 0, 6, .inl (fun _ => 0)))]) H := hP
  have hD : va_D A ([(h0, .inr (2, [.null, .null, .int 0])), (q0, .inl (cy 6, 2, .inr (.inr (.inr (.inr (fun i => if i = 0 then some r0a else some r0b)))))), (r0a, .inl (cy 0, 6, .inl (fun _ => 0))), (r0b, .inl (cy 0, 6, .inl (fun _ => 0)))]) := hD
  refine va_putF (D := D) (ci := 2) (v := .ref q0) (ty := tyX2 0) (C := RX2) (T := TX2) (N := 3) hx hb hts ciX2_X2 tyX2 tyX2_ok nmX2 hown hK hP hD hS 0 rfl rfl 0 (by decide) (hts _ cwX2_4) (fun _ h9 => h9) rfl hin rfl (tyX2_ok 0 (by decide)) rfl rfl (Nat.le_of_ble_eq_true rfl) dX2_init_12 (fun H locs hP hD hS => ?_)
  have hP : va_P D vwCl ([(h0, .inr (2, [.ref q0, .null, .int 0])), (q0, .inl (cy 6, 2, .inr (.inr (.inr (.inr (fun i => if i = 0 then some r0a else some r0b)))))), (r0a, .inl (cy 0, 6, .inl (fun _ => 0))), (r0b, .inl (cy 0, 6, .inl (fun _ => 0)))]) H := hP
  have hD : va_D A ([(h0, .inr (2, [.ref q0, .null, .int 0])), (q0, .inl (cy 6, 2, .inr (.inr (.inr (.inr (fun i => if i = 0 then some r0a else some r0b)))))), (r0a, .inl (cy 0, 6, .inl (fun _ => 0))), (r0b, .inl (cy 0, 6, .inl (fun _ => 0)))]) := hD
  refine lv_aload_n hx hb dX2_init_15 rfl (lv_at hl 0 rfl) ?_
  refine lv_iconst (v := (2 : Int32)) hx hb dX2_init_16 (by decide) ?_
  refine n_newa (atype := .boolean) (ty := .boolean) (N' := 2) (a0 := (2, .inl (fun _ => 0))) hx hb (hts _ cwX2_5) rfl hK hP hD hS hA 1 rfl (fun _ => rfl) (by decide) rfl (by decide) (Nat.le_of_ble_eq_true rfl) (Nat.le_of_ble_eq_true rfl) dX2_init_17 (fun q1 H hP hD hS => ?_)
  refine W.widen (k := 4) (n := 16) (Nat.le_of_ble_eq_true rfl) (Nat.le_of_ble_eq_true rfl) ?_
  have hP : va_P D vwCl ([(h0, .inr (2, [.ref q0, .null, .int 0])), (q0, .inl (cy 6, 2, .inr (.inr (.inr (.inr (fun i => if i = 0 then some r0a else some r0b)))))), (r0a, .inl (cy 0, 6, .inl (fun _ => 0))), (r0b, .inl (cy 0, 6, .inl (fun _ => 0))), (q1, .inl (cy 1, 2, .inl (fun _ => 0)))]) H := hP
  have hD : va_D A ([(h0, .inr (2, [.ref q0, .null, .int 0])), (q0, .inl (cy 6, 2, .inr (.inr (.inr (.inr (fun i => if i = 0 then some r0a else some r0b)))))), (r0a, .inl (cy 0, 6, .inl (fun _ => 0))), (r0b, .inl (cy 0, 6, .inl (fun _ => 0))), (q1, .inl (cy 1, 2, .inl (fun _ => 0)))]) := hD
  refine va_putF (D := D) (ci := 2) (v := .ref q1) (ty := tyX2 1) (C := RX2) (T := TX2) (N := 3) hx hb hts ciX2_X2 tyX2 tyX2_ok nmX2 hown hK hP hD hS 0 rfl rfl 1 (by decide) (hts _ cwX2_6) (fun _ h9 => h9) rfl hin rfl (tyX2_ok 1 (by decide)) rfl rfl (Nat.le_of_ble_eq_true rfl) dX2_init_19 (fun H locs hP hD hS => ?_)
  have hP : va_P D vwCl ([(h0, .inr (2, [.ref q0, .ref q1, .int 0])), (q0, .inl (cy 6, 2, .inr (.inr (.inr (.inr (fun i => if i = 0 then some r0a else some r0b)))))), (r0a, .inl (cy 0, 6, .inl (fun _ => 0))), (r0b, .inl (cy 0, 6, .inl (fun _ => 0))), (q1, .inl (cy 1, 2, .inl (fun _ => 0)))]) H := hP
  have hD : va_D A ([(h0, .inr (2, [.ref q0, .ref q1, .int 0])), (q0, .inl (cy 6, 2, .inr (.inr (.inr (.inr (fun i => if i = 0 then some r0a else some r0b)))))), (r0a, .inl (cy 0, 6, .inl (fun _ => 0))), (r0b, .inl (cy 0, 6, .inl (fun _ => 0))), (q1, .inl (cy 1, 2, .inl (fun _ => 0)))]) := hD
  refine lv_aload_n hx hb dX2_init_22 rfl (lv_at hl 0 rfl) ?_
  refine lv_iconst (v := (-1 : Int32)) hx hb dX2_init_23 (by decide) ?_
  refine va_put (D := D) (ci := 2) (v := .int (-1 : Int32)) (ty := tyX2 2) (C := RX2) (T := TX2) (N := 3) hx hb hts ciX2_X2 tyX2 tyX2_ok nmX2 hown hK hP hD hS 0 rfl rfl 2 (by decide) (hts _ cwX2_7) (fun _ h9 => h9) rfl (tyX2_ok 2 (by decide)) (by decide) (by decide) (Nat.le_of_ble_eq_true rfl) dX2_init_24 (fun H locs hP hD hS => ?_)
  have hP : va_P D vwCl ([(h0, .inr (2, [.ref q0, .ref q1, .int (-1 : Int32)])), (q0, .inl (cy 6, 2, .inr (.inr (.inr (.inr (fun i => if i = 0 then some r0a else some r0b)))))), (r0a, .inl (cy 0, 6, .inl (fun _ => 0))), (r0b, .inl (cy 0, 6, .inl (fun _ => 0))), (q1, .inl (cy 1, 2, .inl (fun _ => 0)))]) H := hP
  have hD : va_D A ([(h0, .inr (2, [.ref q0, .ref q1, .int (-1 : Int32)])), (q0, .inl (cy 6, 2, .inr (.inr (.inr (.inr (fun i => if i = 0 then some r0a else some r0b)))))), (r0a, .inl (cy 0, 6, .inl (fun _ => 0))), (r0b, .inl (cy 0, 6, .inl (fun _ => 0))), (q1, .inl (cy 1, 2, .inl (fun _ => 0)))]) := hD
  have hP9 := hP.sub (ws' := WCX2 cy (fun i => ([h0, q0, r0a, r0b, q1] : List Nat).getD i 0)) [0, 1, 2, 3, 4] rfl
  have hD9 := hD.sub (ws' := WCX2 cy (fun i => ([h0, q0, r0a, r0b, q1] : List Nat).getD i 0)) [0, 1, 2, 3, 4] (by decide) rfl
  exact W.vret hx hb hr (fun t ht hW => ⟨⟨fun i => ([h0, q0, r0a, r0b, q1] : List Nat).getD i 0, rfl, rfl, by rw [ht]; exact hP9, hD9⟩, hS.F ht⟩) hS.2.2 dX2_init_27
abbrev WCX7 (cy : Nat → ClassId) (u : Nat → Nat) : va_W := [((u 0), .inr (6, [.int (0 : Int32), .int (32767 : Int32), .int (0 : Int32), .int (0 : Int32)]))]
abbrev rmX7_init : Room := { frames := 1, cells := 0, slots := 0, locals := 12 }
def nlX7 : List Cond := []
theorem okX7 : ∀ w ∈ nlX7, okN w := by
  intro w hw
  cases hw
theorem cwX7_0 : Cond.methodLink RX7 3 objectInit ∈ wsX7_init := by decide +kernel
theorem cwX7_1 : Cond.instanceMethod objectInit ∈ wsX7_init := by decide +kernel
theorem cwX7_2 : Cond.fieldLink RX7 9 "Triplane$Sensor" "middle" "I" ∈ wsX7_init := by decide +kernel
theorem ciX7_X7 : ∀ w ∈ u_ws RX7 TX7 4, w ∈ wsX7_init := by decide +kernel
theorem cwX7_3 : Cond.fieldLink RX7 15 "Triplane$Sensor" "farthest" "I" ∈ wsX7_init := by decide +kernel
theorem cwX7_4 : Cond.fieldLink RX7 18 "Triplane$Sensor" "agreedNumber" "I" ∈ wsX7_init := by decide +kernel
theorem cwX7_5 : Cond.fieldLink RX7 21 "Triplane$Sensor" "framesFar" "I" ∈ wsX7_init := by decide +kernel
set_option maxHeartbeats 8000000 in
set_option maxRecDepth 100000 in
theorem nX7_init (l : Launch) (D : va_G) (cy : Nat → ClassId) (h0 sz : Nat) : Met l yX7_init wsX7_init rmX7_init (va_Pc [.ref h0] (cPre D cy sz [(h0, .inr (6, [.int 0, .int 0, .int 0, .int 0]))] nlX7)) (cQ D h0 (fun u => WCX7 cy u) (va_A [(h0, .inr (6, [.int 0, .int 0, .int 0, .int 0]))] sz)) 0 0 (va_A [(h0, .inr (6, [.int 0, .int 0, .int 0, .int 0]))] sz) := by
  refine Met.ofW (cc := cX7_init) (maxL := 1) (ret := none) (by decide) rfl ?_
  intro p e s m args below meth c s₁ B hml hv
  obtain ⟨rfl, hsz, hP, hK, hD0, hN⟩ := hv
  have hx := B.exec
  have hb := B.bytes
  have hr := B.returns
  have hts := atoms_spec (ws := wsX7_init) B.pre
  have hown : s.vm.findClass RX7 = some m.cls := findClass_of_methodNamed B.named
  have hlocks := B.notSynchronized
  have hin : meth.name = "<init>" := (name_of_methodNamed B.named B.method).1
  subst hsz
  have hD := hD0.self (sz := s.heap.size)
  generalize hAe : va_A [(h0, .inr (6, [.int 0, .int 0, .int 0, .int 0]))] s.heap.size = A at hD ⊢
  have hA : ∀ q : Nat, s.heap.size ≤ q → A q := fun q h => by rw [← hAe]; exact Or.inr h
  have hS : va_S A s.heap s.heap [] := va_S.rf
  have hP : va_P D vwCl [(h0, .inr (6, [.int 0, .int 0, .int 0, .int 0]))] s.heap := hP
  have hl := lv_entry ([.ref h0]) (n := 1) (Nat.le_of_ble_eq_true rfl)
  rw [lg_entry_eq]
  generalize (lg_sl ([.ref h0]) ++ List.replicate (1 - (lg_sl ([.ref h0])).length) Slot.unset).toArray = ls at hl ⊢
  have hl : lv_has ls 1 [(0, .ref h0)] := hl
  refine lv_aload_n hx hb dX7_init_0 rfl (lv_at hl 0 rfl) ?_
  refine W.objInit hx hb hown (hts _ cwX7_0) (hts _ cwX7_1) (hts _ (List.mem_of_getElem? (l := wsX7_init) (i := 3) rfl)) rfl (by rw [hml]; exact hl.1) rfl dX7_init_1 (Nat.le_of_ble_eq_true rfl) (Nat.le_of_ble_eq_true rfl) ?_
  refine W.eq (g2 := F0 m 4 ls []) rfl ?_
  refine lv_aload_n hx hb dX7_init_4 rfl (lv_at hl 0 rfl) ?_
  refine lv_iconst (v := (0 : Int32)) hx hb dX7_init_5 (by decide) ?_
  refine va_put (D := D) (ci := 6) (v := .int (0 : Int32)) (ty := tyX7 0) (C := RX7) (T := TX7) (N := 4) hx hb hts ciX7_X7 tyX7 tyX7_ok nmX7 hown hK hP hD hS 0 rfl rfl 0 (by decide) (hts _ cwX7_2) (fun _ h9 => h9) rfl (tyX7_ok 0 (by decide)) (by decide) (by decide) (Nat.le_of_ble_eq_true rfl) dX7_init_6 (fun H locs hP hD hS => ?_)
  have hP : va_P D vwCl ([(h0, .inr (6, [.int (0 : Int32), .int 0, .int 0, .int 0]))]) H := hP
  have hD : va_D A ([(h0, .inr (6, [.int (0 : Int32), .int 0, .int 0, .int 0]))]) := hD
  refine lv_aload_n hx hb dX7_init_9 rfl (lv_at hl 0 rfl) ?_
  refine lv_sipush (v := (32767 : Int32)) hx hb dX7_init_10 (by decide) ?_
  refine va_put (D := D) (ci := 6) (v := .int (32767 : Int32)) (ty := tyX7 1) (C := RX7) (T := TX7) (N := 4) hx hb hts ciX7_X7 tyX7 tyX7_ok nmX7 hown hK hP hD hS 0 rfl rfl 1 (by decide) (hts _ cwX7_3) (fun _ h9 => h9) rfl (tyX7_ok 1 (by decide)) (by decide) (by decide) (Nat.le_of_ble_eq_true rfl) dX7_init_13 (fun H locs hP hD hS => ?_)
  have hP : va_P D vwCl ([(h0, .inr (6, [.int (0 : Int32), .int (32767 : Int32), .int 0, .int 0]))]) H := hP
  have hD : va_D A ([(h0, .inr (6, [.int (0 : Int32), .int (32767 : Int32), .int 0, .int 0]))]) := hD
  refine lv_aload_n hx hb dX7_init_16 rfl (lv_at hl 0 rfl) ?_
  refine lv_iconst (v := (0 : Int32)) hx hb dX7_init_17 (by decide) ?_
  refine va_put (D := D) (ci := 6) (v := .int (0 : Int32)) (ty := tyX7 2) (C := RX7) (T := TX7) (N := 4) hx hb hts ciX7_X7 tyX7 tyX7_ok nmX7 hown hK hP hD hS 0 rfl rfl 2 (by decide) (hts _ cwX7_4) (fun _ h9 => h9) rfl (tyX7_ok 2 (by decide)) (by decide) (by decide) (Nat.le_of_ble_eq_true rfl) dX7_init_18 (fun H locs hP hD hS => ?_)
  have hP : va_P D vwCl ([(h0, .inr (6, [.int (0 : Int32), .int (32767 : Int32), .int (0 : Int32), .int 0]))]) H := hP
  have hD : va_D A ([(h0, .inr (6, [.int (0 : Int32), .int (32767 : Int32), .int (0 : Int32), .int 0]))]) := hD
  refine lv_aload_n hx hb dX7_init_21 rfl (lv_at hl 0 rfl) ?_
  refine lv_iconst (v := (0 : Int32)) hx hb dX7_init_22 (by decide) ?_
  refine va_put (D := D) (ci := 6) (v := .int (0 : Int32)) (ty := tyX7 3) (C := RX7) (T := TX7) (N := 4) hx hb hts ciX7_X7 tyX7 tyX7_ok nmX7 hown hK hP hD hS 0 rfl rfl 3 (by decide) (hts _ cwX7_5) (fun _ h9 => h9) rfl (tyX7_ok 3 (by decide)) (by decide) (by decide) (Nat.le_of_ble_eq_true rfl) dX7_init_23 (fun H locs hP hD hS => ?_)
  have hP : va_P D vwCl ([(h0, .inr (6, [.int (0 : Int32), .int (32767 : Int32), .int (0 : Int32), .int (0 : Int32)]))]) H := hP
  have hD : va_D A ([(h0, .inr (6, [.int (0 : Int32), .int (32767 : Int32), .int (0 : Int32), .int (0 : Int32)]))]) := hD
  have hP9 := hP.sub (ws' := WCX7 cy (fun i => ([h0] : List Nat).getD i 0)) [0] rfl
  have hD9 := hD.sub (ws' := WCX7 cy (fun i => ([h0] : List Nat).getD i 0)) [0] (by decide) rfl
  exact W.vret hx hb hr (fun t ht hW => ⟨⟨fun i => ([h0] : List Nat).getD i 0, rfl, rfl, by rw [ht]; exact hP9, hD9⟩, hS.F ht⟩) hS.2.2 dX7_init_26
abbrev WCX0 (cy : Nat → ClassId) (u : Nat → Nat) : va_W := [((u 0), .inr (0, [.ref (u 1), .int (0 : Int32), .int (0 : Int32)])), ((u 1), .inl (cy 0, 3, .inl (fun _ => 0)))]
abbrev rmX0_init : Room := { frames := 1, cells := 1, slots := 3, locals := 12 }
def nlX0 : List Cond := []
theorem okX0 : ∀ w ∈ nlX0, okN w := by
  intro w hw
  cases hw
theorem cwX0_0 : Cond.methodLink RX0 3 objectInit ∈ wsX0_init := by decide +kernel
theorem cwX0_1 : Cond.instanceMethod objectInit ∈ wsX0_init := by decide +kernel
theorem cwX0_2 : Cond.arrayClass .int ∈ wsX0_init := by decide +kernel
theorem cwX0_3 : Cond.fieldLink RX0 9 "Triplane$Actuator" "faults" "[I" ∈ wsX0_init := by decide +kernel
theorem ciX0_X0 : ∀ w ∈ u_ws RX0 TX0 3, w ∈ wsX0_init := by decide +kernel
theorem cwX0_4 : Cond.fieldLink RX0 15 "Triplane$Actuator" "place" "I" ∈ wsX0_init := by decide +kernel
theorem cwX0_5 : Cond.fieldLink RX0 19 "Triplane$Actuator" "isLoose" "Z" ∈ wsX0_init := by decide +kernel
set_option maxHeartbeats 8000000 in
set_option maxRecDepth 100000 in
theorem nX0_init (l : Launch) (D : va_G) (cy : Nat → ClassId) (h0 sz : Nat) : Met l yX0_init wsX0_init rmX0_init (va_Pc [.ref h0] (cPre D cy sz [(h0, .inr (0, [.null, .int 0, .int 0]))] nlX0)) (cQ D h0 (fun u => WCX0 cy u) (va_A [(h0, .inr (0, [.null, .int 0, .int 0]))] sz)) 1 3 (va_A [(h0, .inr (0, [.null, .int 0, .int 0]))] sz) := by
  refine Met.ofW (cc := cX0_init) (maxL := 1) (ret := none) (by decide) rfl ?_
  intro p e s m args below meth c s₁ B hml hv
  obtain ⟨rfl, hsz, hP, hK, hD0, hN⟩ := hv
  have hx := B.exec
  have hb := B.bytes
  have hr := B.returns
  have hts := atoms_spec (ws := wsX0_init) B.pre
  have hown : s.vm.findClass RX0 = some m.cls := findClass_of_methodNamed B.named
  have hlocks := B.notSynchronized
  have hin : meth.name = "<init>" := (name_of_methodNamed B.named B.method).1
  subst hsz
  have hD := hD0.self (sz := s.heap.size)
  generalize hAe : va_A [(h0, .inr (0, [.null, .int 0, .int 0]))] s.heap.size = A at hD ⊢
  have hA : ∀ q : Nat, s.heap.size ≤ q → A q := fun q h => by rw [← hAe]; exact Or.inr h
  have hS : va_S A s.heap s.heap [] := va_S.rf
  have hP : va_P D vwCl [(h0, .inr (0, [.null, .int 0, .int 0]))] s.heap := hP
  have hl := lv_entry ([.ref h0]) (n := 1) (Nat.le_of_ble_eq_true rfl)
  rw [lg_entry_eq]
  generalize (lg_sl ([.ref h0]) ++ List.replicate (1 - (lg_sl ([.ref h0])).length) Slot.unset).toArray = ls at hl ⊢
  have hl : lv_has ls 1 [(0, .ref h0)] := hl
  refine lv_aload_n hx hb dX0_init_0 rfl (lv_at hl 0 rfl) ?_
  refine W.objInit hx hb hown (hts _ cwX0_0) (hts _ cwX0_1) (hts _ (List.mem_of_getElem? (l := wsX0_init) (i := 3) rfl)) rfl (by rw [hml]; exact hl.1) rfl dX0_init_1 (Nat.le_of_ble_eq_true rfl) (Nat.le_of_ble_eq_true rfl) ?_
  refine W.eq (g2 := F0 m 4 ls []) rfl ?_
  refine lv_aload_n hx hb dX0_init_4 rfl (lv_at hl 0 rfl) ?_
  refine lv_iconst (v := (3 : Int32)) hx hb dX0_init_5 (by decide) ?_
  refine n_newa (atype := .int) (ty := .int) (N' := 3) (a0 := (3, .inl (fun _ => 0))) hx hb (hts _ cwX0_2) rfl hK hP hD hS hA 0 rfl (fun _ => rfl) (by decide) rfl (by decide) (Nat.le_of_ble_eq_true rfl) (Nat.le_of_ble_eq_true rfl) dX0_init_6 (fun q0 H hP hD hS => ?_)
  refine W.widen (k := 1) (n := 3) (Nat.le_of_ble_eq_true rfl) (Nat.le_of_ble_eq_true rfl) ?_
  have hP : va_P D vwCl ([(h0, .inr (0, [.null, .int 0, .int 0])), (q0, .inl (cy 0, 3, .inl (fun _ => 0)))]) H := hP
  have hD : va_D A ([(h0, .inr (0, [.null, .int 0, .int 0])), (q0, .inl (cy 0, 3, .inl (fun _ => 0)))]) := hD
  refine va_putF (D := D) (ci := 0) (v := .ref q0) (ty := tyX0 0) (C := RX0) (T := TX0) (N := 3) hx hb hts ciX0_X0 tyX0 tyX0_ok nmX0 hown hK hP hD hS 0 rfl rfl 0 (by decide) (hts _ cwX0_3) (fun _ h9 => h9) rfl hin rfl (tyX0_ok 0 (by decide)) rfl rfl (Nat.le_of_ble_eq_true rfl) dX0_init_8 (fun H locs hP hD hS => ?_)
  have hP : va_P D vwCl ([(h0, .inr (0, [.ref q0, .int 0, .int 0])), (q0, .inl (cy 0, 3, .inl (fun _ => 0)))]) H := hP
  have hD : va_D A ([(h0, .inr (0, [.ref q0, .int 0, .int 0])), (q0, .inl (cy 0, 3, .inl (fun _ => 0)))]) := hD
  refine lv_aload_n hx hb dX0_init_11 rfl (lv_at hl 0 rfl) ?_
  refine lv_iconst (v := (0 : Int32)) hx hb dX0_init_12 (by decide) ?_
  refine va_put (D := D) (ci := 0) (v := .int (0 : Int32)) (ty := tyX0 1) (C := RX0) (T := TX0) (N := 3) hx hb hts ciX0_X0 tyX0 tyX0_ok nmX0 hown hK hP hD hS 0 rfl rfl 1 (by decide) (hts _ cwX0_4) (fun _ h9 => h9) rfl (tyX0_ok 1 (by decide)) (by decide) (by decide) (Nat.le_of_ble_eq_true rfl) dX0_init_13 (fun H locs hP hD hS => ?_)
  have hP : va_P D vwCl ([(h0, .inr (0, [.ref q0, .int (0 : Int32), .int 0])), (q0, .inl (cy 0, 3, .inl (fun _ => 0)))]) H := hP
  have hD : va_D A ([(h0, .inr (0, [.ref q0, .int (0 : Int32), .int 0])), (q0, .inl (cy 0, 3, .inl (fun _ => 0)))]) := hD
  refine lv_aload_n hx hb dX0_init_16 rfl (lv_at hl 0 rfl) ?_
  refine lv_iconst (v := (0 : Int32)) hx hb dX0_init_17 (by decide) ?_
  refine va_put (D := D) (ci := 0) (v := .int (0 : Int32)) (ty := tyX0 2) (C := RX0) (T := TX0) (N := 3) hx hb hts ciX0_X0 tyX0 tyX0_ok nmX0 hown hK hP hD hS 0 rfl rfl 2 (by decide) (hts _ cwX0_5) (fun _ h9 => h9) rfl (tyX0_ok 2 (by decide)) (by decide) (by decide) (Nat.le_of_ble_eq_true rfl) dX0_init_18 (fun H locs hP hD hS => ?_)
  have hP : va_P D vwCl ([(h0, .inr (0, [.ref q0, .int (0 : Int32), .int (0 : Int32)])), (q0, .inl (cy 0, 3, .inl (fun _ => 0)))]) H := hP
  have hD : va_D A ([(h0, .inr (0, [.ref q0, .int (0 : Int32), .int (0 : Int32)])), (q0, .inl (cy 0, 3, .inl (fun _ => 0)))]) := hD
  have hP9 := hP.sub (ws' := WCX0 cy (fun i => ([h0, q0] : List Nat).getD i 0)) [0, 1] rfl
  have hD9 := hD.sub (ws' := WCX0 cy (fun i => ([h0, q0] : List Nat).getD i 0)) [0, 1] (by decide) rfl
  exact W.vret hx hb hr (fun t ht hW => ⟨⟨fun i => ([h0, q0] : List Nat).getD i 0, rfl, rfl, by rw [ht]; exact hP9, hD9⟩, hS.F ht⟩) hS.2.2 dX0_init_21
abbrev WCX3 (cy : Nat → ClassId) (u : Nat → Nat) : va_W := [((u 0), .inr (3, [.ref (u 1), .ref (u 2), .ref (u 3), .int (0 : Int32)])), ((u 1), .inl (cy 0, 30, .inl (fun _ => 0))), ((u 2), .inl (cy 0, 30, .inl (fun _ => 0))), ((u 3), .inl (cy 2, 30, .inl (fun _ => 0)))]
abbrev rmX3_init : Room := { frames := 1, cells := 3, slots := 90, locals := 12 }
def nlX3 : List Cond := []
theorem okX3 : ∀ w ∈ nlX3, okN w := by
  intro w hw
  cases hw
theorem cwX3_0 : Cond.methodLink RX3 3 objectInit ∈ wsX3_init := by decide +kernel
theorem cwX3_1 : Cond.instanceMethod objectInit ∈ wsX3_init := by decide +kernel
theorem cwX3_2 : Cond.arrayClass .int ∈ wsX3_init := by decide +kernel
theorem cwX3_3 : Cond.fieldLink RX3 9 "Triplane$Log" "times" "[I" ∈ wsX3_init := by decide +kernel
theorem ciX3_X3 : ∀ w ∈ u_ws RX3 TX3 4, w ∈ wsX3_init := by decide +kernel
theorem cwX3_4 : Cond.fieldLink RX3 15 "Triplane$Log" "computers" "[I" ∈ wsX3_init := by decide +kernel
theorem cwX3_5 : Cond.arrayClass .char ∈ wsX3_init := by decide +kernel
theorem cwX3_6 : Cond.fieldLink RX3 18 "Triplane$Log" "letters" "[C" ∈ wsX3_init := by decide +kernel
theorem cwX3_7 : Cond.fieldLink RX3 22 "Triplane$Log" "total" "I" ∈ wsX3_init := by decide +kernel
set_option maxHeartbeats 8000000 in
set_option maxRecDepth 100000 in
theorem nX3_init (l : Launch) (D : va_G) (cy : Nat → ClassId) (h0 sz : Nat) : Met l yX3_init wsX3_init rmX3_init (va_Pc [.ref h0] (cPre D cy sz [(h0, .inr (3, [.null, .null, .null, .int 0]))] nlX3)) (cQ D h0 (fun u => WCX3 cy u) (va_A [(h0, .inr (3, [.null, .null, .null, .int 0]))] sz)) 3 90 (va_A [(h0, .inr (3, [.null, .null, .null, .int 0]))] sz) := by
  refine Met.ofW (cc := cX3_init) (maxL := 1) (ret := none) (by decide) rfl ?_
  intro p e s m args below meth c s₁ B hml hv
  obtain ⟨rfl, hsz, hP, hK, hD0, hN⟩ := hv
  have hx := B.exec
  have hb := B.bytes
  have hr := B.returns
  have hts := atoms_spec (ws := wsX3_init) B.pre
  have hown : s.vm.findClass RX3 = some m.cls := findClass_of_methodNamed B.named
  have hlocks := B.notSynchronized
  have hin : meth.name = "<init>" := (name_of_methodNamed B.named B.method).1
  subst hsz
  have hD := hD0.self (sz := s.heap.size)
  generalize hAe : va_A [(h0, .inr (3, [.null, .null, .null, .int 0]))] s.heap.size = A at hD ⊢
  have hA : ∀ q : Nat, s.heap.size ≤ q → A q := fun q h => by rw [← hAe]; exact Or.inr h
  have hS : va_S A s.heap s.heap [] := va_S.rf
  have hP : va_P D vwCl [(h0, .inr (3, [.null, .null, .null, .int 0]))] s.heap := hP
  have hl := lv_entry ([.ref h0]) (n := 1) (Nat.le_of_ble_eq_true rfl)
  rw [lg_entry_eq]
  generalize (lg_sl ([.ref h0]) ++ List.replicate (1 - (lg_sl ([.ref h0])).length) Slot.unset).toArray = ls at hl ⊢
  have hl : lv_has ls 1 [(0, .ref h0)] := hl
  refine lv_aload_n hx hb dX3_init_0 rfl (lv_at hl 0 rfl) ?_
  refine W.objInit hx hb hown (hts _ cwX3_0) (hts _ cwX3_1) (hts _ (List.mem_of_getElem? (l := wsX3_init) (i := 3) rfl)) rfl (by rw [hml]; exact hl.1) rfl dX3_init_1 (Nat.le_of_ble_eq_true rfl) (Nat.le_of_ble_eq_true rfl) ?_
  refine W.eq (g2 := F0 m 4 ls []) rfl ?_
  refine lv_aload_n hx hb dX3_init_4 rfl (lv_at hl 0 rfl) ?_
  refine lv_bipush (v := (30 : Int32)) hx hb dX3_init_5 (by decide) ?_
  refine n_newa (atype := .int) (ty := .int) (N' := 30) (a0 := (30, .inl (fun _ => 0))) hx hb (hts _ cwX3_2) rfl hK hP hD hS hA 0 rfl (fun _ => rfl) (by decide) rfl (by decide) (Nat.le_of_ble_eq_true rfl) (Nat.le_of_ble_eq_true rfl) dX3_init_7 (fun q0 H hP hD hS => ?_)
  refine W.widen (k := 1) (n := 30) (Nat.le_of_ble_eq_true rfl) (Nat.le_of_ble_eq_true rfl) ?_
  have hP : va_P D vwCl ([(h0, .inr (3, [.null, .null, .null, .int 0])), (q0, .inl (cy 0, 30, .inl (fun _ => 0)))]) H := hP
  have hD : va_D A ([(h0, .inr (3, [.null, .null, .null, .int 0])), (q0, .inl (cy 0, 30, .inl (fun _ => 0)))]) := hD
  refine va_putF (D := D) (ci := 3) (v := .ref q0) (ty := tyX3 0) (C := RX3) (T := TX3) (N := 4) hx hb hts ciX3_X3 tyX3 tyX3_ok nmX3 hown hK hP hD hS 0 rfl rfl 0 (by decide) (hts _ cwX3_3) (fun _ h9 => h9) rfl hin rfl (tyX3_ok 0 (by decide)) rfl rfl (Nat.le_of_ble_eq_true rfl) dX3_init_9 (fun H locs hP hD hS => ?_)
  have hP : va_P D vwCl ([(h0, .inr (3, [.ref q0, .null, .null, .int 0])), (q0, .inl (cy 0, 30, .inl (fun _ => 0)))]) H := hP
  have hD : va_D A ([(h0, .inr (3, [.ref q0, .null, .null, .int 0])), (q0, .inl (cy 0, 30, .inl (fun _ => 0)))]) := hD
  refine lv_aload_n hx hb dX3_init_12 rfl (lv_at hl 0 rfl) ?_
  refine lv_bipush (v := (30 : Int32)) hx hb dX3_init_13 (by decide) ?_
  refine n_newa (atype := .int) (ty := .int) (N' := 30) (a0 := (30, .inl (fun _ => 0))) hx hb (hts _ cwX3_2) rfl hK hP hD hS hA 0 rfl (fun _ => rfl) (by decide) rfl (by decide) (Nat.le_of_ble_eq_true rfl) (Nat.le_of_ble_eq_true rfl) dX3_init_15 (fun q1 H hP hD hS => ?_)
  refine W.widen (k := 2) (n := 60) (Nat.le_of_ble_eq_true rfl) (Nat.le_of_ble_eq_true rfl) ?_
  have hP : va_P D vwCl ([(h0, .inr (3, [.ref q0, .null, .null, .int 0])), (q0, .inl (cy 0, 30, .inl (fun _ => 0))), (q1, .inl (cy 0, 30, .inl (fun _ => 0)))]) H := hP
  have hD : va_D A ([(h0, .inr (3, [.ref q0, .null, .null, .int 0])), (q0, .inl (cy 0, 30, .inl (fun _ => 0))), (q1, .inl (cy 0, 30, .inl (fun _ => 0)))]) := hD
  refine va_putF (D := D) (ci := 3) (v := .ref q1) (ty := tyX3 1) (C := RX3) (T := TX3) (N := 4) hx hb hts ciX3_X3 tyX3 tyX3_ok nmX3 hown hK hP hD hS 0 rfl rfl 1 (by decide) (hts _ cwX3_4) (fun _ h9 => h9) rfl hin rfl (tyX3_ok 1 (by decide)) rfl rfl (Nat.le_of_ble_eq_true rfl) dX3_init_17 (fun H locs hP hD hS => ?_)
  have hP : va_P D vwCl ([(h0, .inr (3, [.ref q0, .ref q1, .null, .int 0])), (q0, .inl (cy 0, 30, .inl (fun _ => 0))), (q1, .inl (cy 0, 30, .inl (fun _ => 0)))]) H := hP
  have hD : va_D A ([(h0, .inr (3, [.ref q0, .ref q1, .null, .int 0])), (q0, .inl (cy 0, 30, .inl (fun _ => 0))), (q1, .inl (cy 0, 30, .inl (fun _ => 0)))]) := hD
  refine lv_aload_n hx hb dX3_init_20 rfl (lv_at hl 0 rfl) ?_
  refine lv_bipush (v := (30 : Int32)) hx hb dX3_init_21 (by decide) ?_
  refine n_newa (atype := .char) (ty := .char) (N' := 30) (a0 := (30, .inl (fun _ => 0))) hx hb (hts _ cwX3_5) rfl hK hP hD hS hA 2 rfl (fun _ => rfl) (by decide) rfl (by decide) (Nat.le_of_ble_eq_true rfl) (Nat.le_of_ble_eq_true rfl) dX3_init_23 (fun q2 H hP hD hS => ?_)
  refine W.widen (k := 3) (n := 90) (Nat.le_of_ble_eq_true rfl) (Nat.le_of_ble_eq_true rfl) ?_
  have hP : va_P D vwCl ([(h0, .inr (3, [.ref q0, .ref q1, .null, .int 0])), (q0, .inl (cy 0, 30, .inl (fun _ => 0))), (q1, .inl (cy 0, 30, .inl (fun _ => 0))), (q2, .inl (cy 2, 30, .inl (fun _ => 0)))]) H := hP
  have hD : va_D A ([(h0, .inr (3, [.ref q0, .ref q1, .null, .int 0])), (q0, .inl (cy 0, 30, .inl (fun _ => 0))), (q1, .inl (cy 0, 30, .inl (fun _ => 0))), (q2, .inl (cy 2, 30, .inl (fun _ => 0)))]) := hD
  refine va_putF (D := D) (ci := 3) (v := .ref q2) (ty := tyX3 2) (C := RX3) (T := TX3) (N := 4) hx hb hts ciX3_X3 tyX3 tyX3_ok nmX3 hown hK hP hD hS 0 rfl rfl 2 (by decide) (hts _ cwX3_6) (fun _ h9 => h9) rfl hin rfl (tyX3_ok 2 (by decide)) rfl rfl (Nat.le_of_ble_eq_true rfl) dX3_init_25 (fun H locs hP hD hS => ?_)
  have hP : va_P D vwCl ([(h0, .inr (3, [.ref q0, .ref q1, .ref q2, .int 0])), (q0, .inl (cy 0, 30, .inl (fun _ => 0))), (q1, .inl (cy 0, 30, .inl (fun _ => 0))), (q2, .inl (cy 2, 30, .inl (fun _ => 0)))]) H := hP
  have hD : va_D A ([(h0, .inr (3, [.ref q0, .ref q1, .ref q2, .int 0])), (q0, .inl (cy 0, 30, .inl (fun _ => 0))), (q1, .inl (cy 0, 30, .inl (fun _ => 0))), (q2, .inl (cy 2, 30, .inl (fun _ => 0)))]) := hD
  refine lv_aload_n hx hb dX3_init_28 rfl (lv_at hl 0 rfl) ?_
  refine lv_iconst (v := (0 : Int32)) hx hb dX3_init_29 (by decide) ?_
  refine va_put (D := D) (ci := 3) (v := .int (0 : Int32)) (ty := tyX3 3) (C := RX3) (T := TX3) (N := 4) hx hb hts ciX3_X3 tyX3 tyX3_ok nmX3 hown hK hP hD hS 0 rfl rfl 3 (by decide) (hts _ cwX3_7) (fun _ h9 => h9) rfl (tyX3_ok 3 (by decide)) (by decide) (by decide) (Nat.le_of_ble_eq_true rfl) dX3_init_30 (fun H locs hP hD hS => ?_)
  have hP : va_P D vwCl ([(h0, .inr (3, [.ref q0, .ref q1, .ref q2, .int (0 : Int32)])), (q0, .inl (cy 0, 30, .inl (fun _ => 0))), (q1, .inl (cy 0, 30, .inl (fun _ => 0))), (q2, .inl (cy 2, 30, .inl (fun _ => 0)))]) H := hP
  have hD : va_D A ([(h0, .inr (3, [.ref q0, .ref q1, .ref q2, .int (0 : Int32)])), (q0, .inl (cy 0, 30, .inl (fun _ => 0))), (q1, .inl (cy 0, 30, .inl (fun _ => 0))), (q2, .inl (cy 2, 30, .inl (fun _ => 0)))]) := hD
  have hP9 := hP.sub (ws' := WCX3 cy (fun i => ([h0, q0, q1, q2] : List Nat).getD i 0)) [0, 1, 2, 3] rfl
  have hD9 := hD.sub (ws' := WCX3 cy (fun i => ([h0, q0, q1, q2] : List Nat).getD i 0)) [0, 1, 2, 3] (by decide) rfl
  exact W.vret hx hb hr (fun t ht hW => ⟨⟨fun i => ([h0, q0, q1, q2] : List Nat).getD i 0, rfl, rfl, by rw [ht]; exact hP9, hD9⟩, hS.F ht⟩) hS.2.2 dX3_init_33
abbrev WCX1 (cy : Nat → ClassId) (u : Nat → Nat) : va_W := [((u 0), .inr (1, [.ref (u 1), .ref (u 4), .int (0 : Int32), .int (0 : Int32), .int (0 : Int32), .int (-1 : Int32), .int (1 : Int32), .int (0 : Int32), .ref (u 5), .int (0 : Int32), .int (0 : Int32), .int (0 : Int32), .int (-1 : Int32), .int (0 : Int32)])), ((u 1), .inr (4, [.ref (u 2), .ref (u 3), .int (0 : Int32)])), ((u 2), .inl (cy 0, 18, .inl (fun _ => 0))), ((u 3), .inl (cy 0, 18, .inl (fun _ => 0))), ((u 4), .inl (cy 0, 3, .inl (fun _ => 0))), ((u 5), .inl (cy 0, 4, .inl (fun _ => 0)))]
abbrev rmX1_init : Room := { frames := 2, cells := 5, slots := 46, locals := 32 }
def nlX1 : List Cond := [.methodLinkNest RX1 11 yX4_init RX8]
theorem okX1 : ∀ w ∈ nlX1, okN w := by
  intro w hw
  simp only [nlX1, List.mem_cons, List.not_mem_nil, or_false] at hw
  rcases hw with rfl
  · exact Or.inl ⟨_, _, _, _, rfl⟩
theorem cwX1_0 : Cond.methodLink RX1 3 objectInit ∈ wsX1_init := by decide +kernel
theorem cwX1_1 : Cond.instanceMethod objectInit ∈ wsX1_init := by decide +kernel
theorem ciX1_X4 : ∀ w ∈ u_ws RX4 TX4 3, w ∈ wsX1_init := by decide +kernel
theorem cwX1_2 : Cond.classLink RX1 9 RX4 ∈ wsX1_init := by decide +kernel
theorem cwX1_3 : Cond.instantiable RX4 3 ∈ wsX1_init := by decide +kernel
theorem cwX1_4 : Cond.initialized RX4 ∈ wsX1_init := by decide +kernel
theorem cwX1_5 : Cond.instanceMethod yX4_init ∈ wsX1_init := by decide +kernel
theorem cwX1_6 : Cond.fieldLink RX1 12 "Triplane$Computer" "memory" "LTriplane$Memory;" ∈ wsX1_init := by decide +kernel
theorem ciX1_X1 : ∀ w ∈ u_ws RX1 TX1 14, w ∈ wsX1_init := by decide +kernel
theorem cwX1_7 : Cond.arrayClass .int ∈ wsX1_init := by decide +kernel
theorem cwX1_8 : Cond.fieldLink RX1 18 "Triplane$Computer" "lies" "[I" ∈ wsX1_init := by decide +kernel
theorem cwX1_9 : Cond.fieldLink RX1 22 "Triplane$Computer" "clockNow" "I" ∈ wsX1_init := by decide +kernel
theorem cwX1_10 : Cond.fieldLink RX1 26 "Triplane$Computer" "driftPerFrame" "I" ∈ wsX1_init := by decide +kernel
theorem cwX1_11 : Cond.fieldLink RX1 29 "Triplane$Computer" "strikeCount" "I" ∈ wsX1_init := by decide +kernel
theorem cwX1_12 : Cond.fieldLink RX1 32 "Triplane$Computer" "stuckRegister" "I" ∈ wsX1_init := by decide +kernel
theorem cwX1_13 : Cond.fieldLink RX1 35 "Triplane$Computer" "isRunning" "Z" ∈ wsX1_init := by decide +kernel
theorem cwX1_14 : Cond.fieldLink RX1 39 "Triplane$Computer" "isTested" "Z" ∈ wsX1_init := by decide +kernel
theorem cwX1_15 : Cond.fieldLink RX1 42 "Triplane$Computer" "registers" "[I" ∈ wsX1_init := by decide +kernel
theorem cwX1_16 : Cond.fieldLink RX1 45 "Triplane$Computer" "stuckBit" "I" ∈ wsX1_init := by decide +kernel
theorem cwX1_17 : Cond.fieldLink RX1 48 "Triplane$Computer" "isStuckSet" "Z" ∈ wsX1_init := by decide +kernel
theorem cwX1_18 : Cond.fieldLink RX1 51 "Triplane$Computer" "next" "I" ∈ wsX1_init := by decide +kernel
theorem cwX1_19 : Cond.fieldLink RX1 54 "Triplane$Computer" "givenOutput" "I" ∈ wsX1_init := by decide +kernel
theorem cwX1_20 : Cond.fieldLink RX1 57 "Triplane$Computer" "givenNumber" "I" ∈ wsX1_init := by decide +kernel
set_option maxHeartbeats 8000000 in
set_option maxRecDepth 100000 in
theorem nX1_init (l : Launch) (D : va_G) (cy : Nat → ClassId) (h0 sz : Nat) : Met l yX1_init wsX1_init rmX1_init (va_Pc [.ref h0] (cPre D cy sz [(h0, .inr (1, [.null, .null, .int 0, .int 0, .int 0, .int 0, .int 0, .int 0, .null, .int 0, .int 0, .int 0, .int 0, .int 0]))] nlX1)) (cQ D h0 (fun u => WCX1 cy u) (va_A [(h0, .inr (1, [.null, .null, .int 0, .int 0, .int 0, .int 0, .int 0, .int 0, .null, .int 0, .int 0, .int 0, .int 0, .int 0]))] sz)) 5 46 (va_A [(h0, .inr (1, [.null, .null, .int 0, .int 0, .int 0, .int 0, .int 0, .int 0, .null, .int 0, .int 0, .int 0, .int 0, .int 0]))] sz) := by
  refine Met.ofW (cc := cX1_init) (maxL := 1) (ret := none) (by decide) rfl ?_
  intro p e s m args below meth c s₁ B hml hv
  obtain ⟨rfl, hsz, hP, hK, hD0, hN⟩ := hv
  have hx := B.exec
  have hb := B.bytes
  have hr := B.returns
  have hts := atoms_spec (ws := wsX1_init) B.pre
  have hown : s.vm.findClass RX1 = some m.cls := findClass_of_methodNamed B.named
  have hlocks := B.notSynchronized
  have hin : meth.name = "<init>" := (name_of_methodNamed B.named B.method).1
  subst hsz
  have hD := hD0.self (sz := s.heap.size)
  generalize hAe : va_A [(h0, .inr (1, [.null, .null, .int 0, .int 0, .int 0, .int 0, .int 0, .int 0, .null, .int 0, .int 0, .int 0, .int 0, .int 0]))] s.heap.size = A at hD ⊢
  have hA : ∀ q : Nat, s.heap.size ≤ q → A q := fun q h => by rw [← hAe]; exact Or.inr h
  have hS : va_S A s.heap s.heap [] := va_S.rf
  have hP : va_P D vwCl [(h0, .inr (1, [.null, .null, .int 0, .int 0, .int 0, .int 0, .int 0, .int 0, .null, .int 0, .int 0, .int 0, .int 0, .int 0]))] s.heap := hP
  have hl := lv_entry ([.ref h0]) (n := 1) (Nat.le_of_ble_eq_true rfl)
  rw [lg_entry_eq]
  generalize (lg_sl ([.ref h0]) ++ List.replicate (1 - (lg_sl ([.ref h0])).length) Slot.unset).toArray = ls at hl ⊢
  have hl : lv_has ls 1 [(0, .ref h0)] := hl
  refine lv_aload_n hx hb dX1_init_0 rfl (lv_at hl 0 rfl) ?_
  refine W.objInit hx hb hown (hts _ cwX1_0) (hts _ cwX1_1) (hts _ (List.mem_of_getElem? (l := wsX1_init) (i := 3) rfl)) rfl (by rw [hml]; exact hl.1) rfl dX1_init_1 (Nat.le_of_ble_eq_true rfl) (Nat.le_of_ble_eq_true rfl) ?_
  refine W.eq (g2 := F0 m 4 ls []) rfl ?_
  refine lv_aload_n hx hb dX1_init_4 rfl (lv_at hl 0 rfl) ?_
  refine va_new (ci := 4) (fs := [.null, .null, .int 0]) (C := RX4) (T := TX4) (N := 3) hx hb hts ciX1_X4 tyX4 tyX4_ok hown (hts _ cwX1_2) (hts _ cwX1_3) (hts _ cwX1_4) hK hP hD hS hA rfl (by decide) (Nat.le_of_ble_eq_true rfl) (Nat.le_of_ble_eq_true rfl) dX1_init_5 (fun q0 H hP hD hS => ?_)
  refine W.widen (k := 1) (n := 3) (Nat.le_of_ble_eq_true rfl) (Nat.le_of_ble_eq_true rfl) ?_
  refine lv_dup hx hb dX1_init_8 rfl ?_
  have hNy : nN nlX4 s := fun w hw => by cases hw
  refine n_after (Wc := fun u => WCX4 cy u) (va_runIN (As := []) (rest := [.ref q0, .ref h0]) ⟨hx, hb, hml, hown, hts⟩ (nX4_init l D cy q0 H.size) ⟨va_cnB 0 hts gX1_init_X4_init_n11 rfl rfl rfl (hN _ (List.mem_of_getElem? (i := 0) rfl)) (hts _ cwX1_4) (by decide +kernel) ⟨Nat.le_of_ble_eq_true rfl, Nat.le_of_ble_eq_true rfl⟩, rfl, (hts _ cwX1_5)⟩ (c_pre okX4 hK (w_last hP) hNy) rfl rfl hl.1 rfl (lv_room (Nat.le_of_ble_eq_true rfl)) dX1_init_9 ⟨Nat.le_of_ble_eq_true rfl, Nat.le_of_ble_eq_true rfl⟩) hP hD hS hA (fun u1 H2 locs2 hu1 hP2 hD2 hS2 => ?_)
  clear hP hD hS hNy
  subst hu1
  obtain ⟨H, hH⟩ : ∃ H3, H3 = H2 := ⟨_, rfl⟩
  subst hH
  have hP := hP2
  have hD := hD2
  have hS := hS2
  clear hP2 hD2 hS2
  refine W.widen (k := 3) (n := 39) (Nat.le_of_ble_eq_true rfl) (Nat.le_of_ble_eq_true rfl) ?_
  have hP : va_P D vwCl ([(h0, .inr (1, [.null, .null, .int 0, .int 0, .int 0, .int 0, .int 0, .int 0, .null, .int 0, .int 0, .int 0, .int 0, .int 0]))] ++ WCX4 cy u1) H := hP
  have hD : va_D A ([(h0, .inr (1, [.null, .null, .int 0, .int 0, .int 0, .int 0, .int 0, .int 0, .null, .int 0, .int 0, .int 0, .int 0, .int 0]))] ++ WCX4 cy u1) := hD
  refine va_putF (D := D) (ci := 1) (v := .ref (u1 0)) (ty := tyX1 0) (C := RX1) (T := TX1) (N := 14) hx hb hts ciX1_X1 tyX1 tyX1_ok nmX1 hown hK hP hD hS 0 rfl rfl 0 (by decide) (hts _ cwX1_6) (fun _ h9 => h9) rfl hin rfl (tyX1_ok 0 (by decide)) rfl rfl (Nat.le_of_ble_eq_true rfl) dX1_init_12 (fun H locs hP hD hS => ?_)
  have hP : va_P D vwCl ([(h0, .inr (1, [.ref (u1 0), .null, .int 0, .int 0, .int 0, .int 0, .int 0, .int 0, .null, .int 0, .int 0, .int 0, .int 0, .int 0]))] ++ WCX4 cy u1) H := hP
  have hD : va_D A ([(h0, .inr (1, [.ref (u1 0), .null, .int 0, .int 0, .int 0, .int 0, .int 0, .int 0, .null, .int 0, .int 0, .int 0, .int 0, .int 0]))] ++ WCX4 cy u1) := hD
  refine lv_aload_n hx hb dX1_init_15 rfl (lv_at hl 0 rfl) ?_
  refine lv_iconst (v := (3 : Int32)) hx hb dX1_init_16 (by decide) ?_
  refine n_newa (atype := .int) (ty := .int) (N' := 3) (a0 := (3, .inl (fun _ => 0))) hx hb (hts _ cwX1_7) rfl hK hP hD hS hA 0 rfl (fun _ => rfl) (by decide) rfl (by decide) (Nat.le_of_ble_eq_true rfl) (Nat.le_of_ble_eq_true rfl) dX1_init_17 (fun q2 H hP hD hS => ?_)
  refine W.widen (k := 4) (n := 42) (Nat.le_of_ble_eq_true rfl) (Nat.le_of_ble_eq_true rfl) ?_
  have hP : va_P D vwCl ([(h0, .inr (1, [.ref (u1 0), .null, .int 0, .int 0, .int 0, .int 0, .int 0, .int 0, .null, .int 0, .int 0, .int 0, .int 0, .int 0]))] ++ WCX4 cy u1 ++ [(q2, .inl (cy 0, 3, .inl (fun _ => 0)))]) H := hP
  have hD : va_D A ([(h0, .inr (1, [.ref (u1 0), .null, .int 0, .int 0, .int 0, .int 0, .int 0, .int 0, .null, .int 0, .int 0, .int 0, .int 0, .int 0]))] ++ WCX4 cy u1 ++ [(q2, .inl (cy 0, 3, .inl (fun _ => 0)))]) := hD
  refine va_putF (D := D) (ci := 1) (v := .ref q2) (ty := tyX1 1) (C := RX1) (T := TX1) (N := 14) hx hb hts ciX1_X1 tyX1 tyX1_ok nmX1 hown hK hP hD hS 0 rfl rfl 1 (by decide) (hts _ cwX1_8) (fun _ h9 => h9) rfl hin rfl (tyX1_ok 1 (by decide)) rfl rfl (Nat.le_of_ble_eq_true rfl) dX1_init_19 (fun H locs hP hD hS => ?_)
  have hP : va_P D vwCl ([(h0, .inr (1, [.ref (u1 0), .ref q2, .int 0, .int 0, .int 0, .int 0, .int 0, .int 0, .null, .int 0, .int 0, .int 0, .int 0, .int 0]))] ++ WCX4 cy u1 ++ [(q2, .inl (cy 0, 3, .inl (fun _ => 0)))]) H := hP
  have hD : va_D A ([(h0, .inr (1, [.ref (u1 0), .ref q2, .int 0, .int 0, .int 0, .int 0, .int 0, .int 0, .null, .int 0, .int 0, .int 0, .int 0, .int 0]))] ++ WCX4 cy u1 ++ [(q2, .inl (cy 0, 3, .inl (fun _ => 0)))]) := hD
  refine lv_aload_n hx hb dX1_init_22 rfl (lv_at hl 0 rfl) ?_
  refine lv_iconst (v := (0 : Int32)) hx hb dX1_init_23 (by decide) ?_
  refine va_put (D := D) (ci := 1) (v := .int (0 : Int32)) (ty := tyX1 2) (C := RX1) (T := TX1) (N := 14) hx hb hts ciX1_X1 tyX1 tyX1_ok nmX1 hown hK hP hD hS 0 rfl rfl 2 (by decide) (hts _ cwX1_9) (fun _ h9 => h9) rfl (tyX1_ok 2 (by decide)) (by decide) (by decide) (Nat.le_of_ble_eq_true rfl) dX1_init_24 (fun H locs hP hD hS => ?_)
  have hP : va_P D vwCl ([(h0, .inr (1, [.ref (u1 0), .ref q2, .int (0 : Int32), .int 0, .int 0, .int 0, .int 0, .int 0, .null, .int 0, .int 0, .int 0, .int 0, .int 0]))] ++ WCX4 cy u1 ++ [(q2, .inl (cy 0, 3, .inl (fun _ => 0)))]) H := hP
  have hD : va_D A ([(h0, .inr (1, [.ref (u1 0), .ref q2, .int (0 : Int32), .int 0, .int 0, .int 0, .int 0, .int 0, .null, .int 0, .int 0, .int 0, .int 0, .int 0]))] ++ WCX4 cy u1 ++ [(q2, .inl (cy 0, 3, .inl (fun _ => 0)))]) := hD
  refine lv_aload_n hx hb dX1_init_27 rfl (lv_at hl 0 rfl) ?_
  refine lv_iconst (v := (0 : Int32)) hx hb dX1_init_28 (by decide) ?_
  refine va_put (D := D) (ci := 1) (v := .int (0 : Int32)) (ty := tyX1 3) (C := RX1) (T := TX1) (N := 14) hx hb hts ciX1_X1 tyX1 tyX1_ok nmX1 hown hK hP hD hS 0 rfl rfl 3 (by decide) (hts _ cwX1_10) (fun _ h9 => h9) rfl (tyX1_ok 3 (by decide)) (by decide) (by decide) (Nat.le_of_ble_eq_true rfl) dX1_init_29 (fun H locs hP hD hS => ?_)
  have hP : va_P D vwCl ([(h0, .inr (1, [.ref (u1 0), .ref q2, .int (0 : Int32), .int (0 : Int32), .int 0, .int 0, .int 0, .int 0, .null, .int 0, .int 0, .int 0, .int 0, .int 0]))] ++ WCX4 cy u1 ++ [(q2, .inl (cy 0, 3, .inl (fun _ => 0)))]) H := hP
  have hD : va_D A ([(h0, .inr (1, [.ref (u1 0), .ref q2, .int (0 : Int32), .int (0 : Int32), .int 0, .int 0, .int 0, .int 0, .null, .int 0, .int 0, .int 0, .int 0, .int 0]))] ++ WCX4 cy u1 ++ [(q2, .inl (cy 0, 3, .inl (fun _ => 0)))]) := hD
  refine lv_aload_n hx hb dX1_init_32 rfl (lv_at hl 0 rfl) ?_
  refine lv_iconst (v := (0 : Int32)) hx hb dX1_init_33 (by decide) ?_
  refine va_put (D := D) (ci := 1) (v := .int (0 : Int32)) (ty := tyX1 4) (C := RX1) (T := TX1) (N := 14) hx hb hts ciX1_X1 tyX1 tyX1_ok nmX1 hown hK hP hD hS 0 rfl rfl 4 (by decide) (hts _ cwX1_11) (fun _ h9 => h9) rfl (tyX1_ok 4 (by decide)) (by decide) (by decide) (Nat.le_of_ble_eq_true rfl) dX1_init_34 (fun H locs hP hD hS => ?_)
  have hP : va_P D vwCl ([(h0, .inr (1, [.ref (u1 0), .ref q2, .int (0 : Int32), .int (0 : Int32), .int (0 : Int32), .int 0, .int 0, .int 0, .null, .int 0, .int 0, .int 0, .int 0, .int 0]))] ++ WCX4 cy u1 ++ [(q2, .inl (cy 0, 3, .inl (fun _ => 0)))]) H := hP
  have hD : va_D A ([(h0, .inr (1, [.ref (u1 0), .ref q2, .int (0 : Int32), .int (0 : Int32), .int (0 : Int32), .int 0, .int 0, .int 0, .null, .int 0, .int 0, .int 0, .int 0, .int 0]))] ++ WCX4 cy u1 ++ [(q2, .inl (cy 0, 3, .inl (fun _ => 0)))]) := hD
  refine lv_aload_n hx hb dX1_init_37 rfl (lv_at hl 0 rfl) ?_
  refine lv_iconst (v := (-1 : Int32)) hx hb dX1_init_38 (by decide) ?_
  refine va_put (D := D) (ci := 1) (v := .int (-1 : Int32)) (ty := tyX1 5) (C := RX1) (T := TX1) (N := 14) hx hb hts ciX1_X1 tyX1 tyX1_ok nmX1 hown hK hP hD hS 0 rfl rfl 5 (by decide) (hts _ cwX1_12) (fun _ h9 => h9) rfl (tyX1_ok 5 (by decide)) (by decide) (by decide) (Nat.le_of_ble_eq_true rfl) dX1_init_39 (fun H locs hP hD hS => ?_)
  have hP : va_P D vwCl ([(h0, .inr (1, [.ref (u1 0), .ref q2, .int (0 : Int32), .int (0 : Int32), .int (0 : Int32), .int (-1 : Int32), .int 0, .int 0, .null, .int 0, .int 0, .int 0, .int 0, .int 0]))] ++ WCX4 cy u1 ++ [(q2, .inl (cy 0, 3, .inl (fun _ => 0)))]) H := hP
  have hD : va_D A ([(h0, .inr (1, [.ref (u1 0), .ref q2, .int (0 : Int32), .int (0 : Int32), .int (0 : Int32), .int (-1 : Int32), .int 0, .int 0, .null, .int 0, .int 0, .int 0, .int 0, .int 0]))] ++ WCX4 cy u1 ++ [(q2, .inl (cy 0, 3, .inl (fun _ => 0)))]) := hD
  refine lv_aload_n hx hb dX1_init_42 rfl (lv_at hl 0 rfl) ?_
  refine lv_iconst (v := (1 : Int32)) hx hb dX1_init_43 (by decide) ?_
  refine va_put (D := D) (ci := 1) (v := .int (1 : Int32)) (ty := tyX1 6) (C := RX1) (T := TX1) (N := 14) hx hb hts ciX1_X1 tyX1 tyX1_ok nmX1 hown hK hP hD hS 0 rfl rfl 6 (by decide) (hts _ cwX1_13) (fun _ h9 => h9) rfl (tyX1_ok 6 (by decide)) (by decide) (by decide) (Nat.le_of_ble_eq_true rfl) dX1_init_44 (fun H locs hP hD hS => ?_)
  have hP : va_P D vwCl ([(h0, .inr (1, [.ref (u1 0), .ref q2, .int (0 : Int32), .int (0 : Int32), .int (0 : Int32), .int (-1 : Int32), .int (1 : Int32), .int 0, .null, .int 0, .int 0, .int 0, .int 0, .int 0]))] ++ WCX4 cy u1 ++ [(q2, .inl (cy 0, 3, .inl (fun _ => 0)))]) H := hP
  have hD : va_D A ([(h0, .inr (1, [.ref (u1 0), .ref q2, .int (0 : Int32), .int (0 : Int32), .int (0 : Int32), .int (-1 : Int32), .int (1 : Int32), .int 0, .null, .int 0, .int 0, .int 0, .int 0, .int 0]))] ++ WCX4 cy u1 ++ [(q2, .inl (cy 0, 3, .inl (fun _ => 0)))]) := hD
  refine lv_aload_n hx hb dX1_init_47 rfl (lv_at hl 0 rfl) ?_
  refine lv_iconst (v := (0 : Int32)) hx hb dX1_init_48 (by decide) ?_
  refine va_put (D := D) (ci := 1) (v := .int (0 : Int32)) (ty := tyX1 7) (C := RX1) (T := TX1) (N := 14) hx hb hts ciX1_X1 tyX1 tyX1_ok nmX1 hown hK hP hD hS 0 rfl rfl 7 (by decide) (hts _ cwX1_14) (fun _ h9 => h9) rfl (tyX1_ok 7 (by decide)) (by decide) (by decide) (Nat.le_of_ble_eq_true rfl) dX1_init_49 (fun H locs hP hD hS => ?_)
  have hP : va_P D vwCl ([(h0, .inr (1, [.ref (u1 0), .ref q2, .int (0 : Int32), .int (0 : Int32), .int (0 : Int32), .int (-1 : Int32), .int (1 : Int32), .int (0 : Int32), .null, .int 0, .int 0, .int 0, .int 0, .int 0]))] ++ WCX4 cy u1 ++ [(q2, .inl (cy 0, 3, .inl (fun _ => 0)))]) H := hP
  have hD : va_D A ([(h0, .inr (1, [.ref (u1 0), .ref q2, .int (0 : Int32), .int (0 : Int32), .int (0 : Int32), .int (-1 : Int32), .int (1 : Int32), .int (0 : Int32), .null, .int 0, .int 0, .int 0, .int 0, .int 0]))] ++ WCX4 cy u1 ++ [(q2, .inl (cy 0, 3, .inl (fun _ => 0)))]) := hD
  refine lv_aload_n hx hb dX1_init_52 rfl (lv_at hl 0 rfl) ?_
  refine lv_iconst (v := (4 : Int32)) hx hb dX1_init_53 (by decide) ?_
  refine n_newa (atype := .int) (ty := .int) (N' := 4) (a0 := (4, .inl (fun _ => 0))) hx hb (hts _ cwX1_7) rfl hK hP hD hS hA 0 rfl (fun _ => rfl) (by decide) rfl (by decide) (Nat.le_of_ble_eq_true rfl) (Nat.le_of_ble_eq_true rfl) dX1_init_54 (fun q3 H hP hD hS => ?_)
  refine W.widen (k := 5) (n := 46) (Nat.le_of_ble_eq_true rfl) (Nat.le_of_ble_eq_true rfl) ?_
  have hP : va_P D vwCl ([(h0, .inr (1, [.ref (u1 0), .ref q2, .int (0 : Int32), .int (0 : Int32), .int (0 : Int32), .int (-1 : Int32), .int (1 : Int32), .int (0 : Int32), .null, .int 0, .int 0, .int 0, .int 0, .int 0]))] ++ WCX4 cy u1 ++ [(q2, .inl (cy 0, 3, .inl (fun _ => 0))), (q3, .inl (cy 0, 4, .inl (fun _ => 0)))]) H := hP
  have hD : va_D A ([(h0, .inr (1, [.ref (u1 0), .ref q2, .int (0 : Int32), .int (0 : Int32), .int (0 : Int32), .int (-1 : Int32), .int (1 : Int32), .int (0 : Int32), .null, .int 0, .int 0, .int 0, .int 0, .int 0]))] ++ WCX4 cy u1 ++ [(q2, .inl (cy 0, 3, .inl (fun _ => 0))), (q3, .inl (cy 0, 4, .inl (fun _ => 0)))]) := hD
  refine va_putF (D := D) (ci := 1) (v := .ref q3) (ty := tyX1 8) (C := RX1) (T := TX1) (N := 14) hx hb hts ciX1_X1 tyX1 tyX1_ok nmX1 hown hK hP hD hS 0 rfl rfl 8 (by decide) (hts _ cwX1_15) (fun _ h9 => h9) rfl hin rfl (tyX1_ok 8 (by decide)) rfl rfl (Nat.le_of_ble_eq_true rfl) dX1_init_56 (fun H locs hP hD hS => ?_)
  have hP : va_P D vwCl ([(h0, .inr (1, [.ref (u1 0), .ref q2, .int (0 : Int32), .int (0 : Int32), .int (0 : Int32), .int (-1 : Int32), .int (1 : Int32), .int (0 : Int32), .ref q3, .int 0, .int 0, .int 0, .int 0, .int 0]))] ++ WCX4 cy u1 ++ [(q2, .inl (cy 0, 3, .inl (fun _ => 0))), (q3, .inl (cy 0, 4, .inl (fun _ => 0)))]) H := hP
  have hD : va_D A ([(h0, .inr (1, [.ref (u1 0), .ref q2, .int (0 : Int32), .int (0 : Int32), .int (0 : Int32), .int (-1 : Int32), .int (1 : Int32), .int (0 : Int32), .ref q3, .int 0, .int 0, .int 0, .int 0, .int 0]))] ++ WCX4 cy u1 ++ [(q2, .inl (cy 0, 3, .inl (fun _ => 0))), (q3, .inl (cy 0, 4, .inl (fun _ => 0)))]) := hD
  refine lv_aload_n hx hb dX1_init_59 rfl (lv_at hl 0 rfl) ?_
  refine lv_iconst (v := (0 : Int32)) hx hb dX1_init_60 (by decide) ?_
  refine va_put (D := D) (ci := 1) (v := .int (0 : Int32)) (ty := tyX1 9) (C := RX1) (T := TX1) (N := 14) hx hb hts ciX1_X1 tyX1 tyX1_ok nmX1 hown hK hP hD hS 0 rfl rfl 9 (by decide) (hts _ cwX1_16) (fun _ h9 => h9) rfl (tyX1_ok 9 (by decide)) (by decide) (by decide) (Nat.le_of_ble_eq_true rfl) dX1_init_61 (fun H locs hP hD hS => ?_)
  have hP : va_P D vwCl ([(h0, .inr (1, [.ref (u1 0), .ref q2, .int (0 : Int32), .int (0 : Int32), .int (0 : Int32), .int (-1 : Int32), .int (1 : Int32), .int (0 : Int32), .ref q3, .int (0 : Int32), .int 0, .int 0, .int 0, .int 0]))] ++ WCX4 cy u1 ++ [(q2, .inl (cy 0, 3, .inl (fun _ => 0))), (q3, .inl (cy 0, 4, .inl (fun _ => 0)))]) H := hP
  have hD : va_D A ([(h0, .inr (1, [.ref (u1 0), .ref q2, .int (0 : Int32), .int (0 : Int32), .int (0 : Int32), .int (-1 : Int32), .int (1 : Int32), .int (0 : Int32), .ref q3, .int (0 : Int32), .int 0, .int 0, .int 0, .int 0]))] ++ WCX4 cy u1 ++ [(q2, .inl (cy 0, 3, .inl (fun _ => 0))), (q3, .inl (cy 0, 4, .inl (fun _ => 0)))]) := hD
  refine lv_aload_n hx hb dX1_init_64 rfl (lv_at hl 0 rfl) ?_
  refine lv_iconst (v := (0 : Int32)) hx hb dX1_init_65 (by decide) ?_
  refine va_put (D := D) (ci := 1) (v := .int (0 : Int32)) (ty := tyX1 10) (C := RX1) (T := TX1) (N := 14) hx hb hts ciX1_X1 tyX1 tyX1_ok nmX1 hown hK hP hD hS 0 rfl rfl 10 (by decide) (hts _ cwX1_17) (fun _ h9 => h9) rfl (tyX1_ok 10 (by decide)) (by decide) (by decide) (Nat.le_of_ble_eq_true rfl) dX1_init_66 (fun H locs hP hD hS => ?_)
  have hP : va_P D vwCl ([(h0, .inr (1, [.ref (u1 0), .ref q2, .int (0 : Int32), .int (0 : Int32), .int (0 : Int32), .int (-1 : Int32), .int (1 : Int32), .int (0 : Int32), .ref q3, .int (0 : Int32), .int (0 : Int32), .int 0, .int 0, .int 0]))] ++ WCX4 cy u1 ++ [(q2, .inl (cy 0, 3, .inl (fun _ => 0))), (q3, .inl (cy 0, 4, .inl (fun _ => 0)))]) H := hP
  have hD : va_D A ([(h0, .inr (1, [.ref (u1 0), .ref q2, .int (0 : Int32), .int (0 : Int32), .int (0 : Int32), .int (-1 : Int32), .int (1 : Int32), .int (0 : Int32), .ref q3, .int (0 : Int32), .int (0 : Int32), .int 0, .int 0, .int 0]))] ++ WCX4 cy u1 ++ [(q2, .inl (cy 0, 3, .inl (fun _ => 0))), (q3, .inl (cy 0, 4, .inl (fun _ => 0)))]) := hD
  refine lv_aload_n hx hb dX1_init_69 rfl (lv_at hl 0 rfl) ?_
  refine lv_iconst (v := (0 : Int32)) hx hb dX1_init_70 (by decide) ?_
  refine va_put (D := D) (ci := 1) (v := .int (0 : Int32)) (ty := tyX1 11) (C := RX1) (T := TX1) (N := 14) hx hb hts ciX1_X1 tyX1 tyX1_ok nmX1 hown hK hP hD hS 0 rfl rfl 11 (by decide) (hts _ cwX1_18) (fun _ h9 => h9) rfl (tyX1_ok 11 (by decide)) (by decide) (by decide) (Nat.le_of_ble_eq_true rfl) dX1_init_71 (fun H locs hP hD hS => ?_)
  have hP : va_P D vwCl ([(h0, .inr (1, [.ref (u1 0), .ref q2, .int (0 : Int32), .int (0 : Int32), .int (0 : Int32), .int (-1 : Int32), .int (1 : Int32), .int (0 : Int32), .ref q3, .int (0 : Int32), .int (0 : Int32), .int (0 : Int32), .int 0, .int 0]))] ++ WCX4 cy u1 ++ [(q2, .inl (cy 0, 3, .inl (fun _ => 0))), (q3, .inl (cy 0, 4, .inl (fun _ => 0)))]) H := hP
  have hD : va_D A ([(h0, .inr (1, [.ref (u1 0), .ref q2, .int (0 : Int32), .int (0 : Int32), .int (0 : Int32), .int (-1 : Int32), .int (1 : Int32), .int (0 : Int32), .ref q3, .int (0 : Int32), .int (0 : Int32), .int (0 : Int32), .int 0, .int 0]))] ++ WCX4 cy u1 ++ [(q2, .inl (cy 0, 3, .inl (fun _ => 0))), (q3, .inl (cy 0, 4, .inl (fun _ => 0)))]) := hD
  refine lv_aload_n hx hb dX1_init_74 rfl (lv_at hl 0 rfl) ?_
  refine lv_iconst (v := (-1 : Int32)) hx hb dX1_init_75 (by decide) ?_
  refine va_put (D := D) (ci := 1) (v := .int (-1 : Int32)) (ty := tyX1 12) (C := RX1) (T := TX1) (N := 14) hx hb hts ciX1_X1 tyX1 tyX1_ok nmX1 hown hK hP hD hS 0 rfl rfl 12 (by decide) (hts _ cwX1_19) (fun _ h9 => h9) rfl (tyX1_ok 12 (by decide)) (by decide) (by decide) (Nat.le_of_ble_eq_true rfl) dX1_init_76 (fun H locs hP hD hS => ?_)
  have hP : va_P D vwCl ([(h0, .inr (1, [.ref (u1 0), .ref q2, .int (0 : Int32), .int (0 : Int32), .int (0 : Int32), .int (-1 : Int32), .int (1 : Int32), .int (0 : Int32), .ref q3, .int (0 : Int32), .int (0 : Int32), .int (0 : Int32), .int (-1 : Int32), .int 0]))] ++ WCX4 cy u1 ++ [(q2, .inl (cy 0, 3, .inl (fun _ => 0))), (q3, .inl (cy 0, 4, .inl (fun _ => 0)))]) H := hP
  have hD : va_D A ([(h0, .inr (1, [.ref (u1 0), .ref q2, .int (0 : Int32), .int (0 : Int32), .int (0 : Int32), .int (-1 : Int32), .int (1 : Int32), .int (0 : Int32), .ref q3, .int (0 : Int32), .int (0 : Int32), .int (0 : Int32), .int (-1 : Int32), .int 0]))] ++ WCX4 cy u1 ++ [(q2, .inl (cy 0, 3, .inl (fun _ => 0))), (q3, .inl (cy 0, 4, .inl (fun _ => 0)))]) := hD
  refine lv_aload_n hx hb dX1_init_79 rfl (lv_at hl 0 rfl) ?_
  refine lv_iconst (v := (0 : Int32)) hx hb dX1_init_80 (by decide) ?_
  refine va_put (D := D) (ci := 1) (v := .int (0 : Int32)) (ty := tyX1 13) (C := RX1) (T := TX1) (N := 14) hx hb hts ciX1_X1 tyX1 tyX1_ok nmX1 hown hK hP hD hS 0 rfl rfl 13 (by decide) (hts _ cwX1_20) (fun _ h9 => h9) rfl (tyX1_ok 13 (by decide)) (by decide) (by decide) (Nat.le_of_ble_eq_true rfl) dX1_init_81 (fun H locs hP hD hS => ?_)
  have hP : va_P D vwCl ([(h0, .inr (1, [.ref (u1 0), .ref q2, .int (0 : Int32), .int (0 : Int32), .int (0 : Int32), .int (-1 : Int32), .int (1 : Int32), .int (0 : Int32), .ref q3, .int (0 : Int32), .int (0 : Int32), .int (0 : Int32), .int (-1 : Int32), .int (0 : Int32)]))] ++ WCX4 cy u1 ++ [(q2, .inl (cy 0, 3, .inl (fun _ => 0))), (q3, .inl (cy 0, 4, .inl (fun _ => 0)))]) H := hP
  have hD : va_D A ([(h0, .inr (1, [.ref (u1 0), .ref q2, .int (0 : Int32), .int (0 : Int32), .int (0 : Int32), .int (-1 : Int32), .int (1 : Int32), .int (0 : Int32), .ref q3, .int (0 : Int32), .int (0 : Int32), .int (0 : Int32), .int (-1 : Int32), .int (0 : Int32)]))] ++ WCX4 cy u1 ++ [(q2, .inl (cy 0, 3, .inl (fun _ => 0))), (q3, .inl (cy 0, 4, .inl (fun _ => 0)))]) := hD
  have hP9 := hP.sub (ws' := WCX1 cy (fun i => ([h0, (u1 0), (u1 1), (u1 2), q2, q3] : List Nat).getD i 0)) [0, 1, 2, 3, 4, 5] rfl
  have hD9 := hD.sub (ws' := WCX1 cy (fun i => ([h0, (u1 0), (u1 1), (u1 2), q2, q3] : List Nat).getD i 0)) [0, 1, 2, 3, 4, 5] (by decide) rfl
  exact W.vret hx hb hr (fun t ht hW => ⟨⟨fun i => ([h0, (u1 0), (u1 1), (u1 2), q2, q3] : List Nat).getD i 0, rfl, rfl, by rw [ht]; exact hP9, hD9⟩, hS.F ht⟩) hS.2.2 dX1_init_84
end CONS

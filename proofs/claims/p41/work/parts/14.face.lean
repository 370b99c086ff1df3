section
variable {p : Program} {l : Launch} {e : Env} {s : State} {m : MethodId} {args : Array Value} {below : List Frame} {meth : Method} {c : Code} {D : va_G} {cy : Nat → ClassId} {q : Nat → Nat}
theorem mwX8_requireIndex_0 : Cond.classLink RX8 295 (xn 1) ∈ wsX8_requireIndex := by decide +kernel
theorem mwX8_requireIndex_1 : Cond.initialized (xn 1) ∈ wsX8_requireIndex := by decide +kernel
abbrev rmX8_requireIndex : Room := { frames := 6, cells := 1, slots := 6, locals := 90 }
theorem mxX8_requireIndex_299 : ∀ w ∈ (vx_atS RX8 299 (xn 1) xNames).filter goodWord, w ∈ wsX8_requireIndex := by decide +kernel
def sX8_requireIndex_9 (σ : TS) : Option XR := some (Sum.inr 1, σ)
set_option maxHeartbeats 4000000 in
set_option maxRecDepth 100000 in
theorem kX8_requireIndex_9 {r : Int32 ⊕ Nat} {u : TS} (C0 : gC RX8 cX8_requireIndex 2 none wsX8_requireIndex p s m args meth c) (hlf : l.stackTraces = false) (hXP : xPre (gA 78 q) s) (hex : ∀ x ∈ c.exceptionTable.toList, False) (hK : va_K D vwCl (tyL cy) s) (hJ : gJ 78 q) {H : Heap} {locs : List Loc} {σ : TS} (hP : va_P D vwCl (gS 78 q (TX cy q) σ) H) (hS : va_S (gA 78 q) s.heap H locs) {ls : Array Slot} (hl : lv_has ls 2 []) (hp : sX8_requireIndex_9 σ = some (r, u)) : W p l e rmX8_requireIndex s m args below meth c H locs 0 0 (vx_MQ below (gQxv D vwCl r (gS 78 q (TX cy q) u) (gA 78 q)) (gXx D vwCl r (gS 78 q (TX cy q) u) (gA 78 q)) args s 1 6 (gA 78 q)) (F0 m 9 ls []) := by
  obtain ⟨hx, hb, hr, hml, hown, hts, hlocks⟩ := id C0
  unfold sX8_requireIndex_9 at hp
  obtain ⟨rfl, rfl⟩ := o_r hp
  exact g_throwW (text := "no such index") hx hb hlf hown hts hXP mxX8_requireIndex_299 hxc_299 (by decide +kernel) (by decide +kernel) mwX8_requireIndex_0 mwX8_requireIndex_1 (by decide +kernel) hxg_299 hP hS (hl.1.trans hml.symm) dX8_requireIndex_9 dX8_requireIndex_12 dX8_requireIndex_13 dX8_requireIndex_16 dX8_requireIndex_19 hex (Nat.le_of_ble_eq_true rfl) (Nat.le_of_ble_eq_true rfl) (Nat.le_of_ble_eq_true rfl) (Nat.le_of_ble_eq_true rfl) hlocks (Nat.le_of_ble_eq_true rfl) (Nat.le_of_ble_eq_true rfl)
def sX8_requireIndex_0 (x0 : Int32) (x1 : Int32) (σ : TS) : Option XR := (if x0 < 0 then sX8_requireIndex_9 σ else (if x0 < x1 then some (Sum.inl 0, σ) else sX8_requireIndex_9 σ))
set_option maxHeartbeats 4000000 in
set_option maxRecDepth 100000 in
theorem kX8_requireIndex_0 {r : Int32 ⊕ Nat} {u : TS} (C0 : gC RX8 cX8_requireIndex 2 none wsX8_requireIndex p s m args meth c) (hlf : l.stackTraces = false) (hXP : xPre (gA 78 q) s) (hex : ∀ x ∈ c.exceptionTable.toList, False) (hK : va_K D vwCl (tyL cy) s) (hJ : gJ 78 q) {H : Heap} {locs : List Loc} {σ : TS} {x0 : Int32} {x1 : Int32} (hP : va_P D vwCl (gS 78 q (TX cy q) σ) H) (hS : va_S (gA 78 q) s.heap H locs) {ls : Array Slot} (hl : lv_has ls 2 [(0, .int x0), (1, .int x1)]) (hp : sX8_requireIndex_0 x0 x1 σ = some (r, u)) : W p l e rmX8_requireIndex s m args below meth c H locs 0 0 (vx_MQ below (gQxv D vwCl r (gS 78 q (TX cy q) u) (gA 78 q)) (gXx D vwCl r (gS 78 q (TX cy q) u) (gA 78 q)) args s 1 6 (gA 78 q)) (F0 m 0 ls []) := by
  obtain ⟨hx, hb, hr, hml, hown, hts, hlocks⟩ := id C0
  unfold sX8_requireIndex_0 at hp
  refine lv_iload_n hx hb dX8_requireIndex_0 rfl (lv_at hl 0 rfl) ?_
  refine lv_if_lt (tgt := 9) hx hb dX8_requireIndex_1 (by decide) (fun hcd1 => ?_) (fun hcd1 => ?_)
  · have hp := o_t hp hcd1
    exact kX8_requireIndex_9 C0 hlf hXP hex hK hJ  hP hS (lv_sub hl [] rfl) hp
  · have hp := o_f hp hcd1
    refine lv_iload_n hx hb dX8_requireIndex_4 rfl (lv_at hl 0 rfl) ?_
    refine lv_iload_n hx hb dX8_requireIndex_5 rfl (lv_at hl 1 rfl) ?_
    refine lv_icmp_lt (tgt := 20) hx hb dX8_requireIndex_6 (by decide) (fun hcd2 => ?_) (fun hcd2 => ?_)
    · have hp := o_t hp hcd2
      obtain ⟨rfl, rfl⟩ := o_r hp
      refine W.widen (k := 1) (n := 6) (Nat.le_of_ble_eq_true rfl) (Nat.le_of_ble_eq_true rfl) ?_
      refine vx_ret ?_
      exact W.vret hx hb hr (fun t ht hW => ⟨⟨(), rfl, ⟨_, rfl⟩, by subst ht; exact hP⟩, hS.F ht⟩) hS.2.2 dX8_requireIndex_20
    · have hp := o_f hp hcd2
      exact kX8_requireIndex_9 C0 hlf hXP hex hK hJ  hP hS (lv_sub hl [] rfl) hp
def sX8_requireIndex (x0 : Int32) (x1 : Int32) (σ : TS) : Option XR := sX8_requireIndex_0 x0 x1 σ
theorem nVX8_requireIndex : yX8_requireIndex.cls ≠ "java/lang/invoke/MethodHandle" ∧ yX8_requireIndex.cls ≠ "java/lang/invoke/VarHandle" ∧ (parseMethodDescriptor yX8_requireIndex.desc).map (fun d => d.parameters.length) = some 2 := by decide +kernel
set_option maxHeartbeats 4000000 in
set_option maxRecDepth 100000 in
theorem mX8_requireIndex (l : Launch) (hlf : l.stackTraces = false) (hJ : gJ 78 q) {x0 : Int32} {x1 : Int32} {σ : TS} {r : Int32 ⊕ Nat} {u : TS} (hp : sX8_requireIndex x0 x1 σ = some (r, u)) : vx_Met l yX8_requireIndex wsX8_requireIndex rmX8_requireIndex (va_Pc [.int x0, .int x1] (gPreX D vwCl (tyL cy) (gS 78 q (TX cy q) σ) (gA 78 q))) (gQxv D vwCl r (gS 78 q (TX cy q) u) (gA 78 q)) (gXx D vwCl r (gS 78 q (TX cy q) u) (gA 78 q)) 1 6 (gA 78 q) := by
  refine vx_ofW (cc := cX8_requireIndex) (maxL := 2) (ret := none) (by decide +kernel) rfl ?_
  intro p e s m args below meth c s₁ B hml hex hv
  obtain ⟨rfl, ⟨hP, hK⟩, hXP⟩ := hv
  have hl := lv_entry ([.int x0, .int x1]) (n := 2) (Nat.le_of_ble_eq_true rfl)
  rw [lg_entry_eq]
  generalize (lg_sl ([.int x0, .int x1]) ++ List.replicate (2 - (lg_sl ([.int x0, .int x1])).length) Slot.unset).toArray = ls at hl ⊢
  have hl : lv_has ls 2 [(0, .int x0), (1, .int x1)] := hl
  exact kX8_requireIndex_0 ⟨B.exec, B.bytes, B.returns, hml, findClass_of_methodNamed B.named, atoms_spec (ws := wsX8_requireIndex) B.pre, B.notSynchronized⟩ hlf hXP hex hK hJ  hP va_S.rf hl hp
theorem mwX8_requireFit_0 : Cond.classLink RX8 300 (xn 2) ∈ wsX8_requireFit := by decide +kernel
theorem mwX8_requireFit_1 : Cond.initialized (xn 2) ∈ wsX8_requireFit := by decide +kernel
abbrev rmX8_requireFit : Room := { frames := 6, cells := 1, slots := 6, locals := 90 }
theorem mxX8_requireFit_304 : ∀ w ∈ (vx_atS RX8 304 (xn 2) xNames).filter goodWord, w ∈ wsX8_requireFit := by decide +kernel
def sX8_requireFit_0 (x0 : Int32) (σ : TS) : Option XR := (if x0 = 0 then some (Sum.inr 2, σ) else some (Sum.inl 0, σ))
set_option maxHeartbeats 4000000 in
set_option maxRecDepth 100000 in
theorem kX8_requireFit_0 {r : Int32 ⊕ Nat} {u : TS} (C0 : gC RX8 cX8_requireFit 1 none wsX8_requireFit p s m args meth c) (hlf : l.stackTraces = false) (hXP : xPre (gA 78 q) s) (hex : ∀ x ∈ c.exceptionTable.toList, False) (hK : va_K D vwCl (tyL cy) s) (hJ : gJ 78 q) {H : Heap} {locs : List Loc} {σ : TS} {x0 : Int32} (hP : va_P D vwCl (gS 78 q (TX cy q) σ) H) (hS : va_S (gA 78 q) s.heap H locs) {ls : Array Slot} (hl : lv_has ls 1 [(0, .int x0)]) (hp : sX8_requireFit_0 x0 σ = some (r, u)) : W p l e rmX8_requireFit s m args below meth c H locs 0 0 (vx_MQ below (gQxv D vwCl r (gS 78 q (TX cy q) u) (gA 78 q)) (gXx D vwCl r (gS 78 q (TX cy q) u) (gA 78 q)) args s 1 6 (gA 78 q)) (F0 m 0 ls []) := by
  obtain ⟨hx, hb, hr, hml, hown, hts, hlocks⟩ := id C0
  unfold sX8_requireFit_0 at hp
  refine lv_iload_n hx hb dX8_requireFit_0 rfl (lv_at hl 0 rfl) ?_
  refine lv_if_ne (tgt := 15) hx hb dX8_requireFit_1 (by decide) (fun hcd1 => ?_) (fun hcd1 => ?_)
  · have hp := o_f hp hcd1
    obtain ⟨rfl, rfl⟩ := o_r hp
    refine W.widen (k := 1) (n := 6) (Nat.le_of_ble_eq_true rfl) (Nat.le_of_ble_eq_true rfl) ?_
    refine vx_ret ?_
    exact W.vret hx hb hr (fun t ht hW => ⟨⟨(), rfl, ⟨_, rfl⟩, by subst ht; exact hP⟩, hS.F ht⟩) hS.2.2 dX8_requireFit_15
  · have hp := o_t hp hcd1
    obtain ⟨rfl, rfl⟩ := o_r hp
    exact g_throwW (text := "an argument does not fit") hx hb hlf hown hts hXP mxX8_requireFit_304 hxc_304 (by decide +kernel) (by decide +kernel) mwX8_requireFit_0 mwX8_requireFit_1 (by decide +kernel) hxg_304 hP hS (hl.1.trans hml.symm) dX8_requireFit_4 dX8_requireFit_7 dX8_requireFit_8 dX8_requireFit_11 dX8_requireFit_14 hex (Nat.le_of_ble_eq_true rfl) (Nat.le_of_ble_eq_true rfl) (Nat.le_of_ble_eq_true rfl) (Nat.le_of_ble_eq_true rfl) hlocks (Nat.le_of_ble_eq_true rfl) (Nat.le_of_ble_eq_true rfl)
def sX8_requireFit (x0 : Int32) (σ : TS) : Option XR := sX8_requireFit_0 x0 σ
theorem nVX8_requireFit : yX8_requireFit.cls ≠ "java/lang/invoke/MethodHandle" ∧ yX8_requireFit.cls ≠ "java/lang/invoke/VarHandle" ∧ (parseMethodDescriptor yX8_requireFit.desc).map (fun d => d.parameters.length) = some 1 := by decide +kernel
set_option maxHeartbeats 4000000 in
set_option maxRecDepth 100000 in
theorem mX8_requireFit (l : Launch) (hlf : l.stackTraces = false) (hJ : gJ 78 q) {x0 : Int32} {σ : TS} {r : Int32 ⊕ Nat} {u : TS} (hp : sX8_requireFit x0 σ = some (r, u)) : vx_Met l yX8_requireFit wsX8_requireFit rmX8_requireFit (va_Pc [.int x0] (gPreX D vwCl (tyL cy) (gS 78 q (TX cy q) σ) (gA 78 q))) (gQxv D vwCl r (gS 78 q (TX cy q) u) (gA 78 q)) (gXx D vwCl r (gS 78 q (TX cy q) u) (gA 78 q)) 1 6 (gA 78 q) := by
  refine vx_ofW (cc := cX8_requireFit) (maxL := 1) (ret := none) (by decide +kernel) rfl ?_
  intro p e s m args below meth c s₁ B hml hex hv
  obtain ⟨rfl, ⟨hP, hK⟩, hXP⟩ := hv
  have hl := lv_entry ([.int x0]) (n := 1) (Nat.le_of_ble_eq_true rfl)
  rw [lg_entry_eq]
  generalize (lg_sl ([.int x0]) ++ List.replicate (1 - (lg_sl ([.int x0])).length) Slot.unset).toArray = ls at hl ⊢
  have hl : lv_has ls 1 [(0, .int x0)] := hl
  exact kX8_requireFit_0 ⟨B.exec, B.bytes, B.returns, hml, findClass_of_methodNamed B.named, atoms_spec (ws := wsX8_requireFit) B.pre, B.notSynchronized⟩ hlf hXP hex hK hJ  hP va_S.rf hl hp
theorem miX8_code_X6 : ∀ w ∈ u_ws RX6 TX6 5, w ∈ wsX8_code := by decide +kernel
theorem miX8_code_X8 : ∀ w ∈ u_ws RX8 TX8 16, w ∈ wsX8_code := by decide +kernel
theorem mwX8_code_0 : Cond.fieldLink RX8 22 "Triplane" "programs" "[LTriplane$Program;" ∈ wsX8_code := by decide +kernel
theorem mwX8_code_1 : Cond.fieldLink RX8 100 "Triplane$Program" "size" "I" ∈ wsX8_code := by decide +kernel
theorem mwX8_code_2 : Cond.classLink RX8 103 (xn 3) ∈ wsX8_code := by decide +kernel
theorem mwX8_code_3 : Cond.initialized (xn 3) ∈ wsX8_code := by decide +kernel
abbrev rmX8_code : Room := { frames := 7, cells := 3, slots := 18, locals := 111 }
theorem mxX8_code_107 : ∀ w ∈ (vx_atS RX8 107 (xn 3) xNames).filter goodWord, w ∈ wsX8_code := by decide +kernel
def sX8_code_52 (sx0 : Int32) (σ : TS) : Option XR := some (Sum.inl sx0, σ)
set_option maxHeartbeats 4000000 in
set_option maxRecDepth 100000 in
theorem kX8_code_52 {r : Int32 ⊕ Nat} {u : TS} (C0 : gC RX8 cX8_code 6 ((some .int)) wsX8_code p s m args meth c) (hlf : l.stackTraces = false) (hXP : xPre (gA 78 q) s) (hex : ∀ x ∈ c.exceptionTable.toList, False) (hK : va_K D vwCl (tyL cy) s) (hJ : gJ 78 q) {H : Heap} {locs : List Loc} {σ : TS} {sx0 : Int32} (hP : va_P D vwCl (gS 78 q (TX cy q) σ) H) (hS : va_S (gA 78 q) s.heap H locs) {ls : Array Slot} (hl : lv_has ls 6 []) (hp : sX8_code_52 sx0 σ = some (r, u)) : W p l e rmX8_code s m args below meth c H locs 2 12 (vx_MQ below (gQx D vwCl r (gS 78 q (TX cy q) u) (gA 78 q)) (gXx D vwCl r (gS 78 q (TX cy q) u) (gA 78 q)) args s 3 18 (gA 78 q)) (F0 m 52 ls [.int sx0]) := by
  obtain ⟨hx, hb, hr, hml, hown, hts, hlocks⟩ := id C0
  unfold sX8_code_52 at hp
  obtain ⟨rfl, rfl⟩ := o_r hp
  refine W.widen (k := 3) (n := 18) (Nat.le_of_ble_eq_true rfl) (Nat.le_of_ble_eq_true rfl) ?_
  refine vx_ret ?_
  exact W.iret (v := sx0) hx hb hr (fun t ht hW => ⟨⟨sx0, (), rfl, rfl, by subst ht; exact hP⟩, hS.F ht⟩) hS.2.2 dX8_code_52
def sX8_code_15 (x1 : Int32) (x2 : Int32) (x3 : Int32) (x4 : Int32) (σ : TS) : Option XR := (if vin x1 3 = true then (if (σ (39+4*(x1.toNatClampNeg)) 3) < ((10 : Int32)) then ((sX6_append (x1.toNatClampNeg) x2 x3 x4 σ).bind (fun z => sX8_code_52 z.1 z.2)) else some (Sum.inr 3, σ)) else none)
set_option maxHeartbeats 4000000 in
set_option maxRecDepth 100000 in
theorem kX8_code_15 {r : Int32 ⊕ Nat} {u : TS} (C0 : gC RX8 cX8_code 6 ((some .int)) wsX8_code p s m args meth c) (hlf : l.stackTraces = false) (hXP : xPre (gA 78 q) s) (hex : ∀ x ∈ c.exceptionTable.toList, False) (hK : va_K D vwCl (tyL cy) s) (hJ : gJ 78 q) {H : Heap} {locs : List Loc} {σ : TS} {x1 : Int32} {x2 : Int32} {x3 : Int32} {x4 : Int32} (hP : va_P D vwCl (gS 78 q (TX cy q) σ) H) (hS : va_S (gA 78 q) s.heap H locs) {ls : Array Slot} (hl : lv_has ls 6 [(0, .ref (q (0))), (1, .int x1), (2, .int x2), (3, .int x3), (4, .int x4)]) (hp : sX8_code_15 x1 x2 x3 x4 σ = some (r, u)) : W p l e rmX8_code s m args below meth c H locs 2 12 (vx_MQ below (gQx D vwCl r (gS 78 q (TX cy q) u) (gA 78 q)) (gXx D vwCl r (gS 78 q (TX cy q) u) (gA 78 q)) args s 3 18 (gA 78 q)) (F0 m 15 ls []) := by
  obtain ⟨hx, hb, hr, hml, hown, hts, hlocks⟩ := id C0
  unfold sX8_code_15 at hp
  refine lv_aload_n hx hb dX8_code_15 rfl (lv_at hl 0 rfl) ?_
  refine g_get (v := .ref (q (5))) hx hb hts miX8_code_X8 hown hK hP (kk_Tri) (ce_Tri) rfl 2 (by decide) mwX8_code_0 rfl dX8_code_16 ?_
  refine lv_iload_n hx hb dX8_code_19 rfl (lv_at hl 1 rfl) ?_
  obtain ⟨hi1, hp⟩ := o_chk hp
  have hn2 : x1.toNatClampNeg < 3 := Nat.lt_of_lt_of_le (vin_lt hi1) (by decide)
  refine g_aald (j := x1.toNatClampNeg) hx hb hK hP (kk_ProgArr) (ce_ProgArr) 4 rfl rfl (vin_of hi1) rfl dX8_code_20 ?_
  refine lv_astore (lv' := [(5, .ref (q (39+4*x1.toNatClampNeg))), (0, .ref (q (0))), (1, .int x1), (2, .int x2), (3, .int x3), (4, .int x4)]) hx hb dX8_code_21 hl (by decide) rfl (fun ls hl => ?_)
  refine lv_aload hx hb dX8_code_23 (lv_at hl 0 rfl) ?_
  refine g_get (v := .int (σ (39+4*(x1.toNatClampNeg)) 3)) hx hb hts miX8_code_X6 hown hK hP (kk_Prog hn2) (ce_Prog hn2) rfl 3 (by decide) mwX8_code_1 rfl dX8_code_25 ?_
  refine lv_bipush (v := (10 : Int32)) hx hb dX8_code_28 (by decide) ?_
  refine lv_icmp_lt (tgt := 43) hx hb dX8_code_30 (by decide) (fun hcd3 => ?_) (fun hcd3 => ?_)
  · have hp := o_t hp hcd3
    refine lv_aload hx hb dX8_code_43 (lv_at hl 0 rfl) ?_
    refine lv_iload_n hx hb dX8_code_45 rfl (lv_at hl 3 rfl) ?_
    refine lv_iload_n hx hb dX8_code_46 rfl (lv_at hl 4 rfl) ?_
    refine lv_iload hx hb dX8_code_47 (lv_at hl 5 rfl) ?_
    obtain ⟨⟨r4, u5⟩, hq6, hp⟩ := o_b hp
    refine g_cVi (As := [.int x2, .int x3, .int x4]) (rest := []) hx hb hml hown hts hK hP hS (mX6_append l hJ hn2 hq6) (cwV 3 hts gX8_code_X6_append rfl rfl rfl nVX6_append ⟨Nat.le_of_ble_eq_true rfl, Nat.le_of_ble_eq_true rfl⟩) (g_recv hK hP (kk_Prog hn2) (ce_Prog hn2) rfl) rfl hl.1 rfl (Nat.le_of_ble_eq_true rfl) dX8_code_49 ⟨Nat.le_of_ble_eq_true rfl, Nat.le_of_ble_eq_true rfl⟩ (fun H locs hP hS => ?_)
    exact kX8_code_52 C0 hlf hXP hex hK hJ  hP hS (lv_sub hl [] rfl) hp
  · have hp := o_f hp hcd3
    obtain ⟨rfl, rfl⟩ := o_r hp
    exact g_throw (text := "the partition is full") hx hb hlf hown hts hXP mxX8_code_107 hxc_107 (by decide +kernel) (by decide +kernel) mwX8_code_2 mwX8_code_3 (by decide +kernel) hxg_107 hP hS (hl.1.trans hml.symm) dX8_code_33 dX8_code_36 dX8_code_37 dX8_code_39 dX8_code_42 hex (Nat.le_of_ble_eq_true rfl) (Nat.le_of_ble_eq_true rfl) (Nat.le_of_ble_eq_true rfl) (Nat.le_of_ble_eq_true rfl) hlocks (Nat.le_of_ble_eq_true rfl) (Nat.le_of_ble_eq_true rfl)
def sX8_code_12 (x1 : Int32) (x2 : Int32) (x3 : Int32) (x4 : Int32) (sx0 : Int32) (σ : TS) : Option XR := ((sX8_requireFit sx0 σ).bind (fun z => o_x z (fun _ zs => sX8_code_15 x1 x2 x3 x4 zs)))
set_option maxHeartbeats 4000000 in
set_option maxRecDepth 100000 in
theorem kX8_code_12 {r : Int32 ⊕ Nat} {u : TS} (C0 : gC RX8 cX8_code 6 ((some .int)) wsX8_code p s m args meth c) (hlf : l.stackTraces = false) (hXP : xPre (gA 78 q) s) (hex : ∀ x ∈ c.exceptionTable.toList, False) (hK : va_K D vwCl (tyL cy) s) (hJ : gJ 78 q) {H : Heap} {locs : List Loc} {σ : TS} {x1 : Int32} {x2 : Int32} {x3 : Int32} {x4 : Int32} {sx0 : Int32} (hP : va_P D vwCl (gS 78 q (TX cy q) σ) H) (hS : va_S (gA 78 q) s.heap H locs) {ls : Array Slot} (hl : lv_has ls 6 [(0, .ref (q (0))), (1, .int x1), (2, .int x2), (3, .int x3), (4, .int x4)]) (hp : sX8_code_12 x1 x2 x3 x4 sx0 σ = some (r, u)) : W p l e rmX8_code s m args below meth c H locs 1 6 (vx_MQ below (gQx D vwCl r (gS 78 q (TX cy q) u) (gA 78 q)) (gXx D vwCl r (gS 78 q (TX cy q) u) (gA 78 q)) args s 3 18 (gA 78 q)) (F0 m 12 ls [.int sx0]) := by
  obtain ⟨hx, hb, hr, hml, hown, hts, hlocks⟩ := id C0
  unfold sX8_code_12 at hp
  obtain ⟨⟨r7, u8⟩, hq9, hp⟩ := o_b hp
  rcases r7 with r7 | r7
  · refine g_xSv (As := [.int sx0]) (rest := []) hx hb hml hown hts hK hXP hP hS (mX8_requireFit l hlf hJ hq9) (va_cwS 1 hts gX8_code_X8_requireFit rfl rfl rfl nVX8_requireFit ⟨Nat.le_of_ble_eq_true rfl, Nat.le_of_ble_eq_true rfl⟩) rfl hl.1 rfl (Nat.le_of_ble_eq_true rfl) dX8_code_12 ⟨Nat.le_of_ble_eq_true rfl, Nat.le_of_ble_eq_true rfl⟩ (fun H locs hP hS => ?_)
    exact kX8_code_15 C0 hlf hXP hex hK hJ  hP hS hl hp
  · obtain ⟨rfl, rfl⟩ := o_r (a := (Sum.inr r7 : Int32 ⊕ Nat)) (b := u8) hp
    exact g_xSt (As := [.int sx0]) (rest := []) hx hb hml hown hts hK hXP hP hS (mX8_requireFit l hlf hJ hq9) (va_cwS 1 hts gX8_code_X8_requireFit rfl rfl rfl nVX8_requireFit ⟨Nat.le_of_ble_eq_true rfl, Nat.le_of_ble_eq_true rfl⟩) rfl hl.1 rfl (Nat.le_of_ble_eq_true rfl) dX8_code_12 ⟨Nat.le_of_ble_eq_true rfl, Nat.le_of_ble_eq_true rfl⟩ hex hlocks (Nat.le_of_ble_eq_true rfl) (Nat.le_of_ble_eq_true rfl)
def sX8_code_5 (x1 : Int32) (x2 : Int32) (x3 : Int32) (x4 : Int32) (σ : TS) : Option XR := ((sX6_isInstruction x2 x3 x4 σ).bind (fun z => sX8_code_12 x1 x2 x3 x4 z.1 z.2))
set_option maxHeartbeats 4000000 in
set_option maxRecDepth 100000 in
theorem kX8_code_5 {r : Int32 ⊕ Nat} {u : TS} (C0 : gC RX8 cX8_code 6 ((some .int)) wsX8_code p s m args meth c) (hlf : l.stackTraces = false) (hXP : xPre (gA 78 q) s) (hex : ∀ x ∈ c.exceptionTable.toList, False) (hK : va_K D vwCl (tyL cy) s) (hJ : gJ 78 q) {H : Heap} {locs : List Loc} {σ : TS} {x1 : Int32} {x2 : Int32} {x3 : Int32} {x4 : Int32} (hP : va_P D vwCl (gS 78 q (TX cy q) σ) H) (hS : va_S (gA 78 q) s.heap H locs) {ls : Array Slot} (hl : lv_has ls 6 [(0, .ref (q (0))), (1, .int x1), (2, .int x2), (3, .int x3), (4, .int x4)]) (hp : sX8_code_5 x1 x2 x3 x4 σ = some (r, u)) : W p l e rmX8_code s m args below meth c H locs 1 6 (vx_MQ below (gQx D vwCl r (gS 78 q (TX cy q) u) (gA 78 q)) (gXx D vwCl r (gS 78 q (TX cy q) u) (gA 78 q)) args s 3 18 (gA 78 q)) (F0 m 5 ls []) := by
  obtain ⟨hx, hb, hr, hml, hown, hts, hlocks⟩ := id C0
  unfold sX8_code_5 at hp
  refine lv_iload_n hx hb dX8_code_5 rfl (lv_at hl 2 rfl) ?_
  refine lv_iload_n hx hb dX8_code_6 rfl (lv_at hl 3 rfl) ?_
  refine lv_iload hx hb dX8_code_7 (lv_at hl 4 rfl) ?_
  obtain ⟨⟨r10, u11⟩, hq12, hp⟩ := o_b hp
  refine g_cSi (As := [.int x2, .int x3, .int x4]) (rest := []) hx hb hml hown hts hK hP hS (mX6_isInstruction l hJ hq12) (va_cwS 3 hts gX8_code_X6_isInstruction rfl rfl rfl nVX6_isInstruction ⟨Nat.le_of_ble_eq_true rfl, Nat.le_of_ble_eq_true rfl⟩) rfl hl.1 rfl (Nat.le_of_ble_eq_true rfl) dX8_code_9 ⟨Nat.le_of_ble_eq_true rfl, Nat.le_of_ble_eq_true rfl⟩ (fun H locs hP hS => ?_)
  exact kX8_code_12 C0 hlf hXP hex hK hJ  hP hS hl hp
def sX8_code_0 (x1 : Int32) (x2 : Int32) (x3 : Int32) (x4 : Int32) (σ : TS) : Option XR := ((sX8_requireIndex x1 ((3 : Int32)) σ).bind (fun z => o_x z (fun _ zs => sX8_code_5 x1 x2 x3 x4 zs)))
set_option maxHeartbeats 4000000 in
set_option maxRecDepth 100000 in
theorem kX8_code_0 {r : Int32 ⊕ Nat} {u : TS} (C0 : gC RX8 cX8_code 6 ((some .int)) wsX8_code p s m args meth c) (hlf : l.stackTraces = false) (hXP : xPre (gA 78 q) s) (hex : ∀ x ∈ c.exceptionTable.toList, False) (hK : va_K D vwCl (tyL cy) s) (hJ : gJ 78 q) {H : Heap} {locs : List Loc} {σ : TS} {x1 : Int32} {x2 : Int32} {x3 : Int32} {x4 : Int32} (hP : va_P D vwCl (gS 78 q (TX cy q) σ) H) (hS : va_S (gA 78 q) s.heap H locs) {ls : Array Slot} (hl : lv_has ls 6 [(0, .ref (q (0))), (1, .int x1), (2, .int x2), (3, .int x3), (4, .int x4)]) (hp : sX8_code_0 x1 x2 x3 x4 σ = some (r, u)) : W p l e rmX8_code s m args below meth c H locs 0 0 (vx_MQ below (gQx D vwCl r (gS 78 q (TX cy q) u) (gA 78 q)) (gXx D vwCl r (gS 78 q (TX cy q) u) (gA 78 q)) args s 3 18 (gA 78 q)) (F0 m 0 ls []) := by
  obtain ⟨hx, hb, hr, hml, hown, hts, hlocks⟩ := id C0
  unfold sX8_code_0 at hp
  refine lv_iload_n hx hb dX8_code_0 rfl (lv_at hl 1 rfl) ?_
  refine lv_iconst (v := (3 : Int32)) hx hb dX8_code_1 (by decide) ?_
  obtain ⟨⟨r13, u14⟩, hq15, hp⟩ := o_b hp
  rcases r13 with r13 | r13
  · refine g_xSv (As := [.int x1, .int ((3 : Int32))]) (rest := []) hx hb hml hown hts hK hXP hP hS (mX8_requireIndex l hlf hJ hq15) (va_cwS 2 hts gX8_code_X8_requireIndex rfl rfl rfl nVX8_requireIndex ⟨Nat.le_of_ble_eq_true rfl, Nat.le_of_ble_eq_true rfl⟩) rfl hl.1 rfl (Nat.le_of_ble_eq_true rfl) dX8_code_2 ⟨Nat.le_of_ble_eq_true rfl, Nat.le_of_ble_eq_true rfl⟩ (fun H locs hP hS => ?_)
    exact kX8_code_5 C0 hlf hXP hex hK hJ  hP hS hl hp
  · obtain ⟨rfl, rfl⟩ := o_r (a := (Sum.inr r13 : Int32 ⊕ Nat)) (b := u14) hp
    exact g_xSt (As := [.int x1, .int ((3 : Int32))]) (rest := []) hx hb hml hown hts hK hXP hP hS (mX8_requireIndex l hlf hJ hq15) (va_cwS 2 hts gX8_code_X8_requireIndex rfl rfl rfl nVX8_requireIndex ⟨Nat.le_of_ble_eq_true rfl, Nat.le_of_ble_eq_true rfl⟩) rfl hl.1 rfl (Nat.le_of_ble_eq_true rfl) dX8_code_2 ⟨Nat.le_of_ble_eq_true rfl, Nat.le_of_ble_eq_true rfl⟩ hex hlocks (Nat.le_of_ble_eq_true rfl) (Nat.le_of_ble_eq_true rfl)
def sX8_code (x1 : Int32) (x2 : Int32) (x3 : Int32) (x4 : Int32) (σ : TS) : Option XR := sX8_code_0 x1 x2 x3 x4 σ
theorem nVX8_code : yX8_code.cls = RX8 ∧ yX8_code.cls ≠ "java/lang/invoke/MethodHandle" ∧ yX8_code.cls ≠ "java/lang/invoke/VarHandle" ∧ (parseMethodDescriptor yX8_code.desc).map (fun d => d.parameters.length) = some 4 := by decide +kernel
set_option maxHeartbeats 4000000 in
set_option maxRecDepth 100000 in
theorem mX8_code (l : Launch) (hlf : l.stackTraces = false) (hJ : gJ 78 q) {x1 : Int32} {x2 : Int32} {x3 : Int32} {x4 : Int32} {σ : TS} {r : Int32 ⊕ Nat} {u : TS} (hp : sX8_code x1 x2 x3 x4 σ = some (r, u)) : vx_Met l yX8_code wsX8_code rmX8_code (va_Pc [.ref (q (0)), .int x1, .int x2, .int x3, .int x4] (gPreX D vwCl (tyL cy) (gS 78 q (TX cy q) σ) (gA 78 q))) (gQx D vwCl r (gS 78 q (TX cy q) u) (gA 78 q)) (gXx D vwCl r (gS 78 q (TX cy q) u) (gA 78 q)) 3 18 (gA 78 q) := by
  refine vx_ofW (cc := cX8_code) (maxL := 6) (ret := (some .int)) (by decide +kernel) rfl ?_
  intro p e s m args below meth c s₁ B hml hex hv
  obtain ⟨rfl, ⟨hP, hK⟩, hXP⟩ := hv
  have hl := lv_entry ([.ref (q (0)), .int x1, .int x2, .int x3, .int x4]) (n := 6) (Nat.le_of_ble_eq_true rfl)
  rw [lg_entry_eq]
  generalize (lg_sl ([.ref (q (0)), .int x1, .int x2, .int x3, .int x4]) ++ List.replicate (6 - (lg_sl ([.ref (q (0)), .int x1, .int x2, .int x3, .int x4])).length) Slot.unset).toArray = ls at hl ⊢
  have hl : lv_has ls 6 [(0, .ref (q (0))), (1, .int x1), (2, .int x2), (3, .int x3), (4, .int x4)] := hl
  exact kX8_code_0 ⟨B.exec, B.bytes, B.returns, hml, findClass_of_methodNamed B.named, atoms_spec (ws := wsX8_code) B.pre, B.notSynchronized⟩ hlf hXP hex hK hJ  hP va_S.rf hl hp
theorem miX8_clear_X6 : ∀ w ∈ u_ws RX6 TX6 5, w ∈ wsX8_clear := by decide +kernel
theorem miX8_clear_X8 : ∀ w ∈ u_ws RX8 TX8 16, w ∈ wsX8_clear := by decide +kernel
theorem mwX8_clear_0 : Cond.fieldLink RX8 22 "Triplane" "programs" "[LTriplane$Program;" ∈ wsX8_clear := by decide +kernel
theorem mwX8_clear_1 : Cond.fieldLink RX8 100 "Triplane$Program" "size" "I" ∈ wsX8_clear := by decide +kernel
abbrev rmX8_clear : Room := { frames := 7, cells := 1, slots := 6, locals := 111 }
def sX8_clear_5 (x1 : Int32) (σ : TS) : Option XR := (if vin x1 3 = true then some (Sum.inl (σ (39+4*(x1.toNatClampNeg)) 3), st2 σ (39+4*(x1.toNatClampNeg)) 3 ((0 : Int32))) else none)
set_option maxHeartbeats 4000000 in
set_option maxRecDepth 100000 in
theorem kX8_clear_5 {r : Int32 ⊕ Nat} {u : TS} (C0 : gC RX8 cX8_clear 3 ((some .int)) wsX8_clear p s m args meth c) (hlf : l.stackTraces = false) (hXP : xPre (gA 78 q) s) (hex : ∀ x ∈ c.exceptionTable.toList, False) (hK : va_K D vwCl (tyL cy) s) (hJ : gJ 78 q) {H : Heap} {locs : List Loc} {σ : TS} {x1 : Int32} (hP : va_P D vwCl (gS 78 q (TX cy q) σ) H) (hS : va_S (gA 78 q) s.heap H locs) {ls : Array Slot} (hl : lv_has ls 3 [(0, .ref (q (0))), (1, .int x1)]) (hp : sX8_clear_5 x1 σ = some (r, u)) : W p l e rmX8_clear s m args below meth c H locs 1 6 (vx_MQ below (gQx D vwCl r (gS 78 q (TX cy q) u) (gA 78 q)) (gXx D vwCl r (gS 78 q (TX cy q) u) (gA 78 q)) args s 1 6 (gA 78 q)) (F0 m 5 ls []) := by
  obtain ⟨hx, hb, hr, hml, hown, hts, hlocks⟩ := id C0
  unfold sX8_clear_5 at hp
  refine lv_aload_n hx hb dX8_clear_5 rfl (lv_at hl 0 rfl) ?_
  refine g_get (v := .ref (q (5))) hx hb hts miX8_clear_X8 hown hK hP (kk_Tri) (ce_Tri) rfl 2 (by decide) mwX8_clear_0 rfl dX8_clear_6 ?_
  refine lv_iload_n hx hb dX8_clear_9 rfl (lv_at hl 1 rfl) ?_
  obtain ⟨hi1, hp⟩ := o_chk hp
  have hn2 : x1.toNatClampNeg < 3 := Nat.lt_of_lt_of_le (vin_lt hi1) (by decide)
  refine g_aald (j := x1.toNatClampNeg) hx hb hK hP (kk_ProgArr) (ce_ProgArr) 4 rfl rfl (vin_of hi1) rfl dX8_clear_10 ?_
  refine g_get (v := .int (σ (39+4*(x1.toNatClampNeg)) 3)) hx hb hts miX8_clear_X6 hown hK hP (kk_Prog hn2) (ce_Prog hn2) rfl 3 (by decide) mwX8_clear_1 rfl dX8_clear_11 ?_
  refine lv_istore_n (lv' := [(2, .int (σ (39+4*(x1.toNatClampNeg)) 3)), (0, .ref (q (0))), (1, .int x1)]) hx hb dX8_clear_14 rfl hl (by decide) rfl (fun ls hl => ?_)
  refine lv_aload_n hx hb dX8_clear_15 rfl (lv_at hl 1 rfl) ?_
  refine g_get (v := .ref (q (5))) hx hb hts miX8_clear_X8 hown hK hP (kk_Tri) (ce_Tri) rfl 2 (by decide) mwX8_clear_0 rfl dX8_clear_16 ?_
  refine lv_iload_n hx hb dX8_clear_19 rfl (lv_at hl 2 rfl) ?_
  have hn3 : x1.toNatClampNeg < 3 := Nat.lt_of_lt_of_le (vin_lt hi1) (by decide)
  refine g_aald (j := x1.toNatClampNeg) hx hb hK hP (kk_ProgArr) (ce_ProgArr) 4 rfl rfl (vin_of hi1) rfl dX8_clear_20 ?_
  refine lv_iconst (v := (0 : Int32)) hx hb dX8_clear_21 (by decide) ?_
  refine g_put (v := (0 : Int32)) hx hb hts miX8_clear_X6 tyX6 tyX6_ok nmX6 hown hK hJ hP hS (kk_Prog hn3) (ce_Prog hn3) rfl 3 (by decide) mwX8_clear_1 rfl rfl rfl (Nat.le_of_ble_eq_true rfl) rfl dX8_clear_22 (fun H locs hP hS => ?_)
  refine lv_iload_n hx hb dX8_clear_25 rfl (lv_at hl 0 rfl) ?_
  obtain ⟨rfl, rfl⟩ := o_r hp
  refine W.widen (k := 1) (n := 6) (Nat.le_of_ble_eq_true rfl) (Nat.le_of_ble_eq_true rfl) ?_
  refine vx_ret ?_
  exact W.iret (v := σ (39+4*(x1.toNatClampNeg)) 3) hx hb hr (fun t ht hW => ⟨⟨σ (39+4*(x1.toNatClampNeg)) 3, (), rfl, rfl, by subst ht; exact hP⟩, hS.F ht⟩) hS.2.2 dX8_clear_26
def sX8_clear_0 (x1 : Int32) (σ : TS) : Option XR := ((sX8_requireIndex x1 ((3 : Int32)) σ).bind (fun z => o_x z (fun _ zs => sX8_clear_5 x1 zs)))
set_option maxHeartbeats 4000000 in
set_option maxRecDepth 100000 in
theorem kX8_clear_0 {r : Int32 ⊕ Nat} {u : TS} (C0 : gC RX8 cX8_clear 3 ((some .int)) wsX8_clear p s m args meth c) (hlf : l.stackTraces = false) (hXP : xPre (gA 78 q) s) (hex : ∀ x ∈ c.exceptionTable.toList, False) (hK : va_K D vwCl (tyL cy) s) (hJ : gJ 78 q) {H : Heap} {locs : List Loc} {σ : TS} {x1 : Int32} (hP : va_P D vwCl (gS 78 q (TX cy q) σ) H) (hS : va_S (gA 78 q) s.heap H locs) {ls : Array Slot} (hl : lv_has ls 3 [(0, .ref (q (0))), (1, .int x1)]) (hp : sX8_clear_0 x1 σ = some (r, u)) : W p l e rmX8_clear s m args below meth c H locs 0 0 (vx_MQ below (gQx D vwCl r (gS 78 q (TX cy q) u) (gA 78 q)) (gXx D vwCl r (gS 78 q (TX cy q) u) (gA 78 q)) args s 1 6 (gA 78 q)) (F0 m 0 ls []) := by
  obtain ⟨hx, hb, hr, hml, hown, hts, hlocks⟩ := id C0
  unfold sX8_clear_0 at hp
  refine lv_iload_n hx hb dX8_clear_0 rfl (lv_at hl 1 rfl) ?_
  refine lv_iconst (v := (3 : Int32)) hx hb dX8_clear_1 (by decide) ?_
  obtain ⟨⟨r4, u5⟩, hq6, hp⟩ := o_b hp
  rcases r4 with r4 | r4
  · refine g_xSv (As := [.int x1, .int ((3 : Int32))]) (rest := []) hx hb hml hown hts hK hXP hP hS (mX8_requireIndex l hlf hJ hq6) (va_cwS 2 hts gX8_clear_X8_requireIndex rfl rfl rfl nVX8_requireIndex ⟨Nat.le_of_ble_eq_true rfl, Nat.le_of_ble_eq_true rfl⟩) rfl hl.1 rfl (Nat.le_of_ble_eq_true rfl) dX8_clear_2 ⟨Nat.le_of_ble_eq_true rfl, Nat.le_of_ble_eq_true rfl⟩ (fun H locs hP hS => ?_)
    exact kX8_clear_5 C0 hlf hXP hex hK hJ  hP hS hl hp
  · obtain ⟨rfl, rfl⟩ := o_r (a := (Sum.inr r4 : Int32 ⊕ Nat)) (b := u5) hp
    exact g_xSt (As := [.int x1, .int ((3 : Int32))]) (rest := []) hx hb hml hown hts hK hXP hP hS (mX8_requireIndex l hlf hJ hq6) (va_cwS 2 hts gX8_clear_X8_requireIndex rfl rfl rfl nVX8_requireIndex ⟨Nat.le_of_ble_eq_true rfl, Nat.le_of_ble_eq_true rfl⟩) rfl hl.1 rfl (Nat.le_of_ble_eq_true rfl) dX8_clear_2 ⟨Nat.le_of_ble_eq_true rfl, Nat.le_of_ble_eq_true rfl⟩ hex hlocks (Nat.le_of_ble_eq_true rfl) (Nat.le_of_ble_eq_true rfl)
def sX8_clear (x1 : Int32) (σ : TS) : Option XR := sX8_clear_0 x1 σ
theorem nVX8_clear : yX8_clear.cls = RX8 ∧ yX8_clear.cls ≠ "java/lang/invoke/MethodHandle" ∧ yX8_clear.cls ≠ "java/lang/invoke/VarHandle" ∧ (parseMethodDescriptor yX8_clear.desc).map (fun d => d.parameters.length) = some 1 := by decide +kernel
set_option maxHeartbeats 4000000 in
set_option maxRecDepth 100000 in
theorem mX8_clear (l : Launch) (hlf : l.stackTraces = false) (hJ : gJ 78 q) {x1 : Int32} {σ : TS} {r : Int32 ⊕ Nat} {u : TS} (hp : sX8_clear x1 σ = some (r, u)) : vx_Met l yX8_clear wsX8_clear rmX8_clear (va_Pc [.ref (q (0)), .int x1] (gPreX D vwCl (tyL cy) (gS 78 q (TX cy q) σ) (gA 78 q))) (gQx D vwCl r (gS 78 q (TX cy q) u) (gA 78 q)) (gXx D vwCl r (gS 78 q (TX cy q) u) (gA 78 q)) 1 6 (gA 78 q) := by
  refine vx_ofW (cc := cX8_clear) (maxL := 3) (ret := (some .int)) (by decide +kernel) rfl ?_
  intro p e s m args below meth c s₁ B hml hex hv
  obtain ⟨rfl, ⟨hP, hK⟩, hXP⟩ := hv
  have hl := lv_entry ([.ref (q (0)), .int x1]) (n := 3) (Nat.le_of_ble_eq_true rfl)
  rw [lg_entry_eq]
  generalize (lg_sl ([.ref (q (0)), .int x1]) ++ List.replicate (3 - (lg_sl ([.ref (q (0)), .int x1])).length) Slot.unset).toArray = ls at hl ⊢
  have hl : lv_has ls 3 [(0, .ref (q (0))), (1, .int x1)] := hl
  exact kX8_clear_0 ⟨B.exec, B.bytes, B.returns, hml, findClass_of_methodNamed B.named, atoms_spec (ws := wsX8_clear) B.pre, B.notSynchronized⟩ hlf hXP hex hK hJ  hP va_S.rf hl hp
theorem miX8_slot_X8 : ∀ w ∈ u_ws RX8 TX8 16, w ∈ wsX8_slot := by decide +kernel
theorem mwX8_slot_0 : Cond.fieldLink RX8 34 "Triplane" "slots" "[[I" ∈ wsX8_slot := by decide +kernel
abbrev rmX8_slot : Room := { frames := 7, cells := 3, slots := 18, locals := 111 }
def sX8_slot_20 (x1 : Int32) (x2 : Int32) (x3 : Int32) (σ : TS) : Option XR := (if vin x1 2 = true then (if vin x2 3 = true then some (Sum.inl (σ (3+(x1.toNatClampNeg)) (x2.toNatClampNeg)), st2 σ (3+(x1.toNatClampNeg)) (x2.toNatClampNeg) x3) else none) else none)
set_option maxHeartbeats 4000000 in
set_option maxRecDepth 100000 in
theorem kX8_slot_20 {r : Int32 ⊕ Nat} {u : TS} (C0 : gC RX8 cX8_slot 5 ((some .int)) wsX8_slot p s m args meth c) (hlf : l.stackTraces = false) (hXP : xPre (gA 78 q) s) (hex : ∀ x ∈ c.exceptionTable.toList, False) (hK : va_K D vwCl (tyL cy) s) (hJ : gJ 78 q) {H : Heap} {locs : List Loc} {σ : TS} {x1 : Int32} {x2 : Int32} {x3 : Int32} (hP : va_P D vwCl (gS 78 q (TX cy q) σ) H) (hS : va_S (gA 78 q) s.heap H locs) {ls : Array Slot} (hl : lv_has ls 5 [(0, .ref (q (0))), (1, .int x1), (2, .int x2), (3, .int x3)]) (hp : sX8_slot_20 x1 x2 x3 σ = some (r, u)) : W p l e rmX8_slot s m args below meth c H locs 3 18 (vx_MQ below (gQx D vwCl r (gS 78 q (TX cy q) u) (gA 78 q)) (gXx D vwCl r (gS 78 q (TX cy q) u) (gA 78 q)) args s 3 18 (gA 78 q)) (F0 m 20 ls []) := by
  obtain ⟨hx, hb, hr, hml, hown, hts, hlocks⟩ := id C0
  unfold sX8_slot_20 at hp
  refine lv_aload_n hx hb dX8_slot_20 rfl (lv_at hl 0 rfl) ?_
  refine g_get (v := .ref (q (2))) hx hb hts miX8_slot_X8 hown hK hP (kk_Tri) (ce_Tri) rfl 4 (by decide) mwX8_slot_0 rfl dX8_slot_21 ?_
  refine lv_iload_n hx hb dX8_slot_24 rfl (lv_at hl 1 rfl) ?_
  obtain ⟨hi1, hp⟩ := o_chk hp
  have hn2 : x1.toNatClampNeg < 2 := Nat.lt_of_lt_of_le (vin_lt hi1) (by decide)
  refine g_aald (j := x1.toNatClampNeg) hx hb hK hP (kk_SlotOut) (ce_SlotOut) 6 rfl rfl (vin_of hi1) rfl dX8_slot_25 ?_
  refine lv_iload_n hx hb dX8_slot_26 rfl (lv_at hl 2 rfl) ?_
  obtain ⟨hi3, hp⟩ := o_chk hp
  refine g_iald (j := x2.toNatClampNeg) hx hb hK hP (kk_SlotIn hn2) (ce_SlotIn hn2) 0 rfl (vin_of hi3) rfl dX8_slot_27 ?_
  refine lv_istore (lv' := [(4, .int (σ (3+(x1.toNatClampNeg)) (x2.toNatClampNeg))), (0, .ref (q (0))), (1, .int x1), (2, .int x2), (3, .int x3)]) hx hb dX8_slot_28 hl (by decide) rfl (fun ls hl => ?_)
  refine lv_aload_n hx hb dX8_slot_30 rfl (lv_at hl 1 rfl) ?_
  refine g_get (v := .ref (q (2))) hx hb hts miX8_slot_X8 hown hK hP (kk_Tri) (ce_Tri) rfl 4 (by decide) mwX8_slot_0 rfl dX8_slot_31 ?_
  refine lv_iload_n hx hb dX8_slot_34 rfl (lv_at hl 2 rfl) ?_
  have hn4 : x1.toNatClampNeg < 2 := Nat.lt_of_lt_of_le (vin_lt hi1) (by decide)
  refine g_aald (j := x1.toNatClampNeg) hx hb hK hP (kk_SlotOut) (ce_SlotOut) 6 rfl rfl (vin_of hi1) rfl dX8_slot_35 ?_
  refine lv_iload_n hx hb dX8_slot_36 rfl (lv_at hl 3 rfl) ?_
  refine lv_iload_n hx hb dX8_slot_37 rfl (lv_at hl 4 rfl) ?_
  refine g_iast (j := x2.toNatClampNeg) hx hb hK hJ hP hS (kk_SlotIn hn4) (ce_SlotIn hn4) 0 rfl (vin_of hi3) rfl dX8_slot_38 (fun H locs hP hS => ?_)
  refine lv_iload hx hb dX8_slot_39 (lv_at hl 0 rfl) ?_
  obtain ⟨rfl, rfl⟩ := o_r hp
  refine W.widen (k := 3) (n := 18) (Nat.le_of_ble_eq_true rfl) (Nat.le_of_ble_eq_true rfl) ?_
  refine vx_ret ?_
  exact W.iret (v := σ (3+(x1.toNatClampNeg)) (x2.toNatClampNeg)) hx hb hr (fun t ht hW => ⟨⟨σ (3+(x1.toNatClampNeg)) (x2.toNatClampNeg), (), rfl, rfl, by subst ht; exact hP⟩, hS.F ht⟩) hS.2.2 dX8_slot_41
def sX8_slot_10 (x1 : Int32) (x2 : Int32) (x3 : Int32) (σ : TS) : Option XR := (if x3 = ((-1 : Int32)) then sX8_slot_20 x1 x2 x3 σ else ((sX8_requireIndex x3 ((3 : Int32)) σ).bind (fun z => o_x z (fun _ zs => sX8_slot_20 x1 x2 x3 zs))))
set_option maxHeartbeats 4000000 in
set_option maxRecDepth 100000 in
theorem kX8_slot_10 {r : Int32 ⊕ Nat} {u : TS} (C0 : gC RX8 cX8_slot 5 ((some .int)) wsX8_slot p s m args meth c) (hlf : l.stackTraces = false) (hXP : xPre (gA 78 q) s) (hex : ∀ x ∈ c.exceptionTable.toList, False) (hK : va_K D vwCl (tyL cy) s) (hJ : gJ 78 q) {H : Heap} {locs : List Loc} {σ : TS} {x1 : Int32} {x2 : Int32} {x3 : Int32} (hP : va_P D vwCl (gS 78 q (TX cy q) σ) H) (hS : va_S (gA 78 q) s.heap H locs) {ls : Array Slot} (hl : lv_has ls 5 [(0, .ref (q (0))), (1, .int x1), (2, .int x2), (3, .int x3)]) (hp : sX8_slot_10 x1 x2 x3 σ = some (r, u)) : W p l e rmX8_slot s m args below meth c H locs 2 12 (vx_MQ below (gQx D vwCl r (gS 78 q (TX cy q) u) (gA 78 q)) (gXx D vwCl r (gS 78 q (TX cy q) u) (gA 78 q)) args s 3 18 (gA 78 q)) (F0 m 10 ls []) := by
  obtain ⟨hx, hb, hr, hml, hown, hts, hlocks⟩ := id C0
  unfold sX8_slot_10 at hp
  refine lv_iload_n hx hb dX8_slot_10 rfl (lv_at hl 3 rfl) ?_
  refine lv_iconst (v := (-1 : Int32)) hx hb dX8_slot_11 (by decide) ?_
  refine lv_icmp_eq (tgt := 20) hx hb dX8_slot_12 (by decide) (fun hcd5 => ?_) (fun hcd5 => ?_)
  · have hp := o_t hp hcd5
    refine W.widen (k := 3) (n := 18) (Nat.le_of_ble_eq_true rfl) (Nat.le_of_ble_eq_true rfl) ?_
    exact kX8_slot_20 C0 hlf hXP hex hK hJ  hP hS hl hp
  · have hp := o_f hp hcd5
    refine lv_iload_n hx hb dX8_slot_15 rfl (lv_at hl 3 rfl) ?_
    refine lv_iconst (v := (3 : Int32)) hx hb dX8_slot_16 (by decide) ?_
    obtain ⟨⟨r6, u7⟩, hq8, hp⟩ := o_b hp
    rcases r6 with r6 | r6
    · refine g_xSv (As := [.int x3, .int ((3 : Int32))]) (rest := []) hx hb hml hown hts hK hXP hP hS (mX8_requireIndex l hlf hJ hq8) (va_cwS 2 hts gX8_slot_X8_requireIndex rfl rfl rfl nVX8_requireIndex ⟨Nat.le_of_ble_eq_true rfl, Nat.le_of_ble_eq_true rfl⟩) rfl hl.1 rfl (Nat.le_of_ble_eq_true rfl) dX8_slot_17 ⟨Nat.le_of_ble_eq_true rfl, Nat.le_of_ble_eq_true rfl⟩ (fun H locs hP hS => ?_)
      exact kX8_slot_20 C0 hlf hXP hex hK hJ  hP hS hl hp
    · obtain ⟨rfl, rfl⟩ := o_r (a := (Sum.inr r6 : Int32 ⊕ Nat)) (b := u7) hp
      exact g_xSt (As := [.int x3, .int ((3 : Int32))]) (rest := []) hx hb hml hown hts hK hXP hP hS (mX8_requireIndex l hlf hJ hq8) (va_cwS 2 hts gX8_slot_X8_requireIndex rfl rfl rfl nVX8_requireIndex ⟨Nat.le_of_ble_eq_true rfl, Nat.le_of_ble_eq_true rfl⟩) rfl hl.1 rfl (Nat.le_of_ble_eq_true rfl) dX8_slot_17 ⟨Nat.le_of_ble_eq_true rfl, Nat.le_of_ble_eq_true rfl⟩ hex hlocks (Nat.le_of_ble_eq_true rfl) (Nat.le_of_ble_eq_true rfl)
def sX8_slot_5 (x1 : Int32) (x2 : Int32) (x3 : Int32) (σ : TS) : Option XR := ((sX8_requireIndex x2 ((3 : Int32)) σ).bind (fun z => o_x z (fun _ zs => sX8_slot_10 x1 x2 x3 zs)))
set_option maxHeartbeats 4000000 in
set_option maxRecDepth 100000 in
theorem kX8_slot_5 {r : Int32 ⊕ Nat} {u : TS} (C0 : gC RX8 cX8_slot 5 ((some .int)) wsX8_slot p s m args meth c) (hlf : l.stackTraces = false) (hXP : xPre (gA 78 q) s) (hex : ∀ x ∈ c.exceptionTable.toList, False) (hK : va_K D vwCl (tyL cy) s) (hJ : gJ 78 q) {H : Heap} {locs : List Loc} {σ : TS} {x1 : Int32} {x2 : Int32} {x3 : Int32} (hP : va_P D vwCl (gS 78 q (TX cy q) σ) H) (hS : va_S (gA 78 q) s.heap H locs) {ls : Array Slot} (hl : lv_has ls 5 [(0, .ref (q (0))), (1, .int x1), (2, .int x2), (3, .int x3)]) (hp : sX8_slot_5 x1 x2 x3 σ = some (r, u)) : W p l e rmX8_slot s m args below meth c H locs 1 6 (vx_MQ below (gQx D vwCl r (gS 78 q (TX cy q) u) (gA 78 q)) (gXx D vwCl r (gS 78 q (TX cy q) u) (gA 78 q)) args s 3 18 (gA 78 q)) (F0 m 5 ls []) := by
  obtain ⟨hx, hb, hr, hml, hown, hts, hlocks⟩ := id C0
  unfold sX8_slot_5 at hp
  refine lv_iload_n hx hb dX8_slot_5 rfl (lv_at hl 2 rfl) ?_
  refine lv_iconst (v := (3 : Int32)) hx hb dX8_slot_6 (by decide) ?_
  obtain ⟨⟨r9, u10⟩, hq11, hp⟩ := o_b hp
  rcases r9 with r9 | r9
  · refine g_xSv (As := [.int x2, .int ((3 : Int32))]) (rest := []) hx hb hml hown hts hK hXP hP hS (mX8_requireIndex l hlf hJ hq11) (va_cwS 2 hts gX8_slot_X8_requireIndex rfl rfl rfl nVX8_requireIndex ⟨Nat.le_of_ble_eq_true rfl, Nat.le_of_ble_eq_true rfl⟩) rfl hl.1 rfl (Nat.le_of_ble_eq_true rfl) dX8_slot_7 ⟨Nat.le_of_ble_eq_true rfl, Nat.le_of_ble_eq_true rfl⟩ (fun H locs hP hS => ?_)
    exact kX8_slot_10 C0 hlf hXP hex hK hJ  hP hS hl hp
  · obtain ⟨rfl, rfl⟩ := o_r (a := (Sum.inr r9 : Int32 ⊕ Nat)) (b := u10) hp
    exact g_xSt (As := [.int x2, .int ((3 : Int32))]) (rest := []) hx hb hml hown hts hK hXP hP hS (mX8_requireIndex l hlf hJ hq11) (va_cwS 2 hts gX8_slot_X8_requireIndex rfl rfl rfl nVX8_requireIndex ⟨Nat.le_of_ble_eq_true rfl, Nat.le_of_ble_eq_true rfl⟩) rfl hl.1 rfl (Nat.le_of_ble_eq_true rfl) dX8_slot_7 ⟨Nat.le_of_ble_eq_true rfl, Nat.le_of_ble_eq_true rfl⟩ hex hlocks (Nat.le_of_ble_eq_true rfl) (Nat.le_of_ble_eq_true rfl)
def sX8_slot_0 (x1 : Int32) (x2 : Int32) (x3 : Int32) (σ : TS) : Option XR := ((sX8_requireIndex x1 ((2 : Int32)) σ).bind (fun z => o_x z (fun _ zs => sX8_slot_5 x1 x2 x3 zs)))
set_option maxHeartbeats 4000000 in
set_option maxRecDepth 100000 in
theorem kX8_slot_0 {r : Int32 ⊕ Nat} {u : TS} (C0 : gC RX8 cX8_slot 5 ((some .int)) wsX8_slot p s m args meth c) (hlf : l.stackTraces = false) (hXP : xPre (gA 78 q) s) (hex : ∀ x ∈ c.exceptionTable.toList, False) (hK : va_K D vwCl (tyL cy) s) (hJ : gJ 78 q) {H : Heap} {locs : List Loc} {σ : TS} {x1 : Int32} {x2 : Int32} {x3 : Int32} (hP : va_P D vwCl (gS 78 q (TX cy q) σ) H) (hS : va_S (gA 78 q) s.heap H locs) {ls : Array Slot} (hl : lv_has ls 5 [(0, .ref (q (0))), (1, .int x1), (2, .int x2), (3, .int x3)]) (hp : sX8_slot_0 x1 x2 x3 σ = some (r, u)) : W p l e rmX8_slot s m args below meth c H locs 0 0 (vx_MQ below (gQx D vwCl r (gS 78 q (TX cy q) u) (gA 78 q)) (gXx D vwCl r (gS 78 q (TX cy q) u) (gA 78 q)) args s 3 18 (gA 78 q)) (F0 m 0 ls []) := by
  obtain ⟨hx, hb, hr, hml, hown, hts, hlocks⟩ := id C0
  unfold sX8_slot_0 at hp
  refine lv_iload_n hx hb dX8_slot_0 rfl (lv_at hl 1 rfl) ?_
  refine lv_iconst (v := (2 : Int32)) hx hb dX8_slot_1 (by decide) ?_
  obtain ⟨⟨r12, u13⟩, hq14, hp⟩ := o_b hp
  rcases r12 with r12 | r12
  · refine g_xSv (As := [.int x1, .int ((2 : Int32))]) (rest := []) hx hb hml hown hts hK hXP hP hS (mX8_requireIndex l hlf hJ hq14) (va_cwS 2 hts gX8_slot_X8_requireIndex rfl rfl rfl nVX8_requireIndex ⟨Nat.le_of_ble_eq_true rfl, Nat.le_of_ble_eq_true rfl⟩) rfl hl.1 rfl (Nat.le_of_ble_eq_true rfl) dX8_slot_2 ⟨Nat.le_of_ble_eq_true rfl, Nat.le_of_ble_eq_true rfl⟩ (fun H locs hP hS => ?_)
    exact kX8_slot_5 C0 hlf hXP hex hK hJ  hP hS hl hp
  · obtain ⟨rfl, rfl⟩ := o_r (a := (Sum.inr r12 : Int32 ⊕ Nat)) (b := u13) hp
    exact g_xSt (As := [.int x1, .int ((2 : Int32))]) (rest := []) hx hb hml hown hts hK hXP hP hS (mX8_requireIndex l hlf hJ hq14) (va_cwS 2 hts gX8_slot_X8_requireIndex rfl rfl rfl nVX8_requireIndex ⟨Nat.le_of_ble_eq_true rfl, Nat.le_of_ble_eq_true rfl⟩) rfl hl.1 rfl (Nat.le_of_ble_eq_true rfl) dX8_slot_2 ⟨Nat.le_of_ble_eq_true rfl, Nat.le_of_ble_eq_true rfl⟩ hex hlocks (Nat.le_of_ble_eq_true rfl) (Nat.le_of_ble_eq_true rfl)
def sX8_slot (x1 : Int32) (x2 : Int32) (x3 : Int32) (σ : TS) : Option XR := sX8_slot_0 x1 x2 x3 σ
theorem nVX8_slot : yX8_slot.cls = RX8 ∧ yX8_slot.cls ≠ "java/lang/invoke/MethodHandle" ∧ yX8_slot.cls ≠ "java/lang/invoke/VarHandle" ∧ (parseMethodDescriptor yX8_slot.desc).map (fun d => d.parameters.length) = some 3 := by decide +kernel
set_option maxHeartbeats 4000000 in
set_option maxRecDepth 100000 in
theorem mX8_slot (l : Launch) (hlf : l.stackTraces = false) (hJ : gJ 78 q) {x1 : Int32} {x2 : Int32} {x3 : Int32} {σ : TS} {r : Int32 ⊕ Nat} {u : TS} (hp : sX8_slot x1 x2 x3 σ = some (r, u)) : vx_Met l yX8_slot wsX8_slot rmX8_slot (va_Pc [.ref (q (0)), .int x1, .int x2, .int x3] (gPreX D vwCl (tyL cy) (gS 78 q (TX cy q) σ) (gA 78 q))) (gQx D vwCl r (gS 78 q (TX cy q) u) (gA 78 q)) (gXx D vwCl r (gS 78 q (TX cy q) u) (gA 78 q)) 3 18 (gA 78 q) := by
  refine vx_ofW (cc := cX8_slot) (maxL := 5) (ret := (some .int)) (by decide +kernel) rfl ?_
  intro p e s m args below meth c s₁ B hml hex hv
  obtain ⟨rfl, ⟨hP, hK⟩, hXP⟩ := hv
  have hl := lv_entry ([.ref (q (0)), .int x1, .int x2, .int x3]) (n := 5) (Nat.le_of_ble_eq_true rfl)
  rw [lg_entry_eq]
  generalize (lg_sl ([.ref (q (0)), .int x1, .int x2, .int x3]) ++ List.replicate (5 - (lg_sl ([.ref (q (0)), .int x1, .int x2, .int x3])).length) Slot.unset).toArray = ls at hl ⊢
  have hl : lv_has ls 5 [(0, .ref (q (0))), (1, .int x1), (2, .int x2), (3, .int x3)] := hl
  exact kX8_slot_0 ⟨B.exec, B.bytes, B.returns, hml, findClass_of_methodNamed B.named, atoms_spec (ws := wsX8_slot) B.pre, B.notSynchronized⟩ hlf hXP hex hK hJ  hP va_S.rf hl hp
theorem miX8_output_X8 : ∀ w ∈ u_ws RX8 TX8 16, w ∈ wsX8_output := by decide +kernel
theorem mwX8_output_0 : Cond.fieldLink RX8 49 "Triplane" "outputs" "[I" ∈ wsX8_output := by decide +kernel
abbrev rmX8_output : Room := { frames := 7, cells := 1, slots := 6, locals := 111 }
def sX8_output_5 (x1 : Int32) (σ : TS) : Option XR := (if vin x1 4 = true then some (Sum.inl (σ (9+0) (x1.toNatClampNeg)), σ) else none)
set_option maxHeartbeats 4000000 in
set_option maxRecDepth 100000 in
theorem kX8_output_5 {r : Int32 ⊕ Nat} {u : TS} (C0 : gC RX8 cX8_output 2 ((some .int)) wsX8_output p s m args meth c) (hlf : l.stackTraces = false) (hXP : xPre (gA 78 q) s) (hex : ∀ x ∈ c.exceptionTable.toList, False) (hK : va_K D vwCl (tyL cy) s) (hJ : gJ 78 q) {H : Heap} {locs : List Loc} {σ : TS} {x1 : Int32} (hP : va_P D vwCl (gS 78 q (TX cy q) σ) H) (hS : va_S (gA 78 q) s.heap H locs) {ls : Array Slot} (hl : lv_has ls 2 [(0, .ref (q (0))), (1, .int x1)]) (hp : sX8_output_5 x1 σ = some (r, u)) : W p l e rmX8_output s m args below meth c H locs 1 6 (vx_MQ below (gQx D vwCl r (gS 78 q (TX cy q) u) (gA 78 q)) (gXx D vwCl r (gS 78 q (TX cy q) u) (gA 78 q)) args s 1 6 (gA 78 q)) (F0 m 5 ls []) := by
  obtain ⟨hx, hb, hr, hml, hown, hts, hlocks⟩ := id C0
  unfold sX8_output_5 at hp
  refine lv_aload_n hx hb dX8_output_5 rfl (lv_at hl 0 rfl) ?_
  refine g_get (v := .ref (q (9+0))) hx hb hts miX8_output_X8 hown hK hP (kk_Tri) (ce_Tri) rfl 7 (by decide) mwX8_output_0 rfl dX8_output_6 ?_
  refine lv_iload_n hx hb dX8_output_9 rfl (lv_at hl 1 rfl) ?_
  obtain ⟨hi1, hp⟩ := o_chk hp
  refine g_iald (j := x1.toNatClampNeg) hx hb hK hP (kk_Out (by decide)) (ce_Out (by decide)) 0 rfl (vin_of hi1) rfl dX8_output_10 ?_
  obtain ⟨rfl, rfl⟩ := o_r hp
  refine W.widen (k := 1) (n := 6) (Nat.le_of_ble_eq_true rfl) (Nat.le_of_ble_eq_true rfl) ?_
  refine vx_ret ?_
  exact W.iret (v := σ (9+0) (x1.toNatClampNeg)) hx hb hr (fun t ht hW => ⟨⟨σ (9+0) (x1.toNatClampNeg), (), rfl, rfl, by subst ht; exact hP⟩, hS.F ht⟩) hS.2.2 dX8_output_11
def sX8_output_0 (x1 : Int32) (σ : TS) : Option XR := ((sX8_requireIndex x1 ((4 : Int32)) σ).bind (fun z => o_x z (fun _ zs => sX8_output_5 x1 zs)))
set_option maxHeartbeats 4000000 in
set_option maxRecDepth 100000 in
theorem kX8_output_0 {r : Int32 ⊕ Nat} {u : TS} (C0 : gC RX8 cX8_output 2 ((some .int)) wsX8_output p s m args meth c) (hlf : l.stackTraces = false) (hXP : xPre (gA 78 q) s) (hex : ∀ x ∈ c.exceptionTable.toList, False) (hK : va_K D vwCl (tyL cy) s) (hJ : gJ 78 q) {H : Heap} {locs : List Loc} {σ : TS} {x1 : Int32} (hP : va_P D vwCl (gS 78 q (TX cy q) σ) H) (hS : va_S (gA 78 q) s.heap H locs) {ls : Array Slot} (hl : lv_has ls 2 [(0, .ref (q (0))), (1, .int x1)]) (hp : sX8_output_0 x1 σ = some (r, u)) : W p l e rmX8_output s m args below meth c H locs 0 0 (vx_MQ below (gQx D vwCl r (gS 78 q (TX cy q) u) (gA 78 q)) (gXx D vwCl r (gS 78 q (TX cy q) u) (gA 78 q)) args s 1 6 (gA 78 q)) (F0 m 0 ls []) := by
  obtain ⟨hx, hb, hr, hml, hown, hts, hlocks⟩ := id C0
  unfold sX8_output_0 at hp
  refine lv_iload_n hx hb dX8_output_0 rfl (lv_at hl 1 rfl) ?_
  refine lv_iconst (v := (4 : Int32)) hx hb dX8_output_1 (by decide) ?_
  obtain ⟨⟨r2, u3⟩, hq4, hp⟩ := o_b hp
  rcases r2 with r2 | r2
  · refine g_xSv (As := [.int x1, .int ((4 : Int32))]) (rest := []) hx hb hml hown hts hK hXP hP hS (mX8_requireIndex l hlf hJ hq4) (va_cwS 2 hts gX8_output_X8_requireIndex rfl rfl rfl nVX8_requireIndex ⟨Nat.le_of_ble_eq_true rfl, Nat.le_of_ble_eq_true rfl⟩) rfl hl.1 rfl (Nat.le_of_ble_eq_true rfl) dX8_output_2 ⟨Nat.le_of_ble_eq_true rfl, Nat.le_of_ble_eq_true rfl⟩ (fun H locs hP hS => ?_)
    exact kX8_output_5 C0 hlf hXP hex hK hJ  hP hS hl hp
  · obtain ⟨rfl, rfl⟩ := o_r (a := (Sum.inr r2 : Int32 ⊕ Nat)) (b := u3) hp
    exact g_xSt (As := [.int x1, .int ((4 : Int32))]) (rest := []) hx hb hml hown hts hK hXP hP hS (mX8_requireIndex l hlf hJ hq4) (va_cwS 2 hts gX8_output_X8_requireIndex rfl rfl rfl nVX8_requireIndex ⟨Nat.le_of_ble_eq_true rfl, Nat.le_of_ble_eq_true rfl⟩) rfl hl.1 rfl (Nat.le_of_ble_eq_true rfl) dX8_output_2 ⟨Nat.le_of_ble_eq_true rfl, Nat.le_of_ble_eq_true rfl⟩ hex hlocks (Nat.le_of_ble_eq_true rfl) (Nat.le_of_ble_eq_true rfl)
def sX8_output (x1 : Int32) (σ : TS) : Option XR := sX8_output_0 x1 σ
theorem nVX8_output : yX8_output.cls = RX8 ∧ yX8_output.cls ≠ "java/lang/invoke/MethodHandle" ∧ yX8_output.cls ≠ "java/lang/invoke/VarHandle" ∧ (parseMethodDescriptor yX8_output.desc).map (fun d => d.parameters.length) = some 1 := by decide +kernel
set_option maxHeartbeats 4000000 in
set_option maxRecDepth 100000 in
theorem mX8_output (l : Launch) (hlf : l.stackTraces = false) (hJ : gJ 78 q) {x1 : Int32} {σ : TS} {r : Int32 ⊕ Nat} {u : TS} (hp : sX8_output x1 σ = some (r, u)) : vx_Met l yX8_output wsX8_output rmX8_output (va_Pc [.ref (q (0)), .int x1] (gPreX D vwCl (tyL cy) (gS 78 q (TX cy q) σ) (gA 78 q))) (gQx D vwCl r (gS 78 q (TX cy q) u) (gA 78 q)) (gXx D vwCl r (gS 78 q (TX cy q) u) (gA 78 q)) 1 6 (gA 78 q) := by
  refine vx_ofW (cc := cX8_output) (maxL := 2) (ret := (some .int)) (by decide +kernel) rfl ?_
  intro p e s m args below meth c s₁ B hml hex hv
  obtain ⟨rfl, ⟨hP, hK⟩, hXP⟩ := hv
  have hl := lv_entry ([.ref (q (0)), .int x1]) (n := 2) (Nat.le_of_ble_eq_true rfl)
  rw [lg_entry_eq]
  generalize (lg_sl ([.ref (q (0)), .int x1]) ++ List.replicate (2 - (lg_sl ([.ref (q (0)), .int x1])).length) Slot.unset).toArray = ls at hl ⊢
  have hl : lv_has ls 2 [(0, .ref (q (0))), (1, .int x1)] := hl
  exact kX8_output_0 ⟨B.exec, B.bytes, B.returns, hml, findClass_of_methodNamed B.named, atoms_spec (ws := wsX8_output) B.pre, B.notSynchronized⟩ hlf hXP hex hK hJ  hP va_S.rf hl hp
theorem miX8_plain_X8 : ∀ w ∈ u_ws RX8 TX8 16, w ∈ wsX8_plain := by decide +kernel
theorem mwX8_plain_0 : Cond.fieldLink RX8 53 "Triplane" "plainOutputs" "[I" ∈ wsX8_plain := by decide +kernel
abbrev rmX8_plain : Room := { frames := 7, cells := 1, slots := 6, locals := 111 }
def sX8_plain_5 (x1 : Int32) (σ : TS) : Option XR := (if vin x1 4 = true then some (Sum.inl (σ (9+1) (x1.toNatClampNeg)), σ) else none)
set_option maxHeartbeats 4000000 in
set_option maxRecDepth 100000 in
theorem kX8_plain_5 {r : Int32 ⊕ Nat} {u : TS} (C0 : gC RX8 cX8_plain 2 ((some .int)) wsX8_plain p s m args meth c) (hlf : l.stackTraces = false) (hXP : xPre (gA 78 q) s) (hex : ∀ x ∈ c.exceptionTable.toList, False) (hK : va_K D vwCl (tyL cy) s) (hJ : gJ 78 q) {H : Heap} {locs : List Loc} {σ : TS} {x1 : Int32} (hP : va_P D vwCl (gS 78 q (TX cy q) σ) H) (hS : va_S (gA 78 q) s.heap H locs) {ls : Array Slot} (hl : lv_has ls 2 [(0, .ref (q (0))), (1, .int x1)]) (hp : sX8_plain_5 x1 σ = some (r, u)) : W p l e rmX8_plain s m args below meth c H locs 1 6 (vx_MQ below (gQx D vwCl r (gS 78 q (TX cy q) u) (gA 78 q)) (gXx D vwCl r (gS 78 q (TX cy q) u) (gA 78 q)) args s 1 6 (gA 78 q)) (F0 m 5 ls []) := by
  obtain ⟨hx, hb, hr, hml, hown, hts, hlocks⟩ := id C0
  unfold sX8_plain_5 at hp
  refine lv_aload_n hx hb dX8_plain_5 rfl (lv_at hl 0 rfl) ?_
  refine g_get (v := .ref (q (9+1))) hx hb hts miX8_plain_X8 hown hK hP (kk_Tri) (ce_Tri) rfl 8 (by decide) mwX8_plain_0 rfl dX8_plain_6 ?_
  refine lv_iload_n hx hb dX8_plain_9 rfl (lv_at hl 1 rfl) ?_
  obtain ⟨hi1, hp⟩ := o_chk hp
  refine g_iald (j := x1.toNatClampNeg) hx hb hK hP (kk_Out (by decide)) (ce_Out (by decide)) 0 rfl (vin_of hi1) rfl dX8_plain_10 ?_
  obtain ⟨rfl, rfl⟩ := o_r hp
  refine W.widen (k := 1) (n := 6) (Nat.le_of_ble_eq_true rfl) (Nat.le_of_ble_eq_true rfl) ?_
  refine vx_ret ?_
  exact W.iret (v := σ (9+1) (x1.toNatClampNeg)) hx hb hr (fun t ht hW => ⟨⟨σ (9+1) (x1.toNatClampNeg), (), rfl, rfl, by subst ht; exact hP⟩, hS.F ht⟩) hS.2.2 dX8_plain_11
def sX8_plain_0 (x1 : Int32) (σ : TS) : Option XR := ((sX8_requireIndex x1 ((4 : Int32)) σ).bind (fun z => o_x z (fun _ zs => sX8_plain_5 x1 zs)))
set_option maxHeartbeats 4000000 in
set_option maxRecDepth 100000 in
theorem kX8_plain_0 {r : Int32 ⊕ Nat} {u : TS} (C0 : gC RX8 cX8_plain 2 ((some .int)) wsX8_plain p s m args meth c) (hlf : l.stackTraces = false) (hXP : xPre (gA 78 q) s) (hex : ∀ x ∈ c.exceptionTable.toList, False) (hK : va_K D vwCl (tyL cy) s) (hJ : gJ 78 q) {H : Heap} {locs : List Loc} {σ : TS} {x1 : Int32} (hP : va_P D vwCl (gS 78 q (TX cy q) σ) H) (hS : va_S (gA 78 q) s.heap H locs) {ls : Array Slot} (hl : lv_has ls 2 [(0, .ref (q (0))), (1, .int x1)]) (hp : sX8_plain_0 x1 σ = some (r, u)) : W p l e rmX8_plain s m args below meth c H locs 0 0 (vx_MQ below (gQx D vwCl r (gS 78 q (TX cy q) u) (gA 78 q)) (gXx D vwCl r (gS 78 q (TX cy q) u) (gA 78 q)) args s 1 6 (gA 78 q)) (F0 m 0 ls []) := by
  obtain ⟨hx, hb, hr, hml, hown, hts, hlocks⟩ := id C0
  unfold sX8_plain_0 at hp
  refine lv_iload_n hx hb dX8_plain_0 rfl (lv_at hl 1 rfl) ?_
  refine lv_iconst (v := (4 : Int32)) hx hb dX8_plain_1 (by decide) ?_
  obtain ⟨⟨r2, u3⟩, hq4, hp⟩ := o_b hp
  rcases r2 with r2 | r2
  · refine g_xSv (As := [.int x1, .int ((4 : Int32))]) (rest := []) hx hb hml hown hts hK hXP hP hS (mX8_requireIndex l hlf hJ hq4) (va_cwS 2 hts gX8_plain_X8_requireIndex rfl rfl rfl nVX8_requireIndex ⟨Nat.le_of_ble_eq_true rfl, Nat.le_of_ble_eq_true rfl⟩) rfl hl.1 rfl (Nat.le_of_ble_eq_true rfl) dX8_plain_2 ⟨Nat.le_of_ble_eq_true rfl, Nat.le_of_ble_eq_true rfl⟩ (fun H locs hP hS => ?_)
    exact kX8_plain_5 C0 hlf hXP hex hK hJ  hP hS hl hp
  · obtain ⟨rfl, rfl⟩ := o_r (a := (Sum.inr r2 : Int32 ⊕ Nat)) (b := u3) hp
    exact g_xSt (As := [.int x1, .int ((4 : Int32))]) (rest := []) hx hb hml hown hts hK hXP hP hS (mX8_requireIndex l hlf hJ hq4) (va_cwS 2 hts gX8_plain_X8_requireIndex rfl rfl rfl nVX8_requireIndex ⟨Nat.le_of_ble_eq_true rfl, Nat.le_of_ble_eq_true rfl⟩) rfl hl.1 rfl (Nat.le_of_ble_eq_true rfl) dX8_plain_2 ⟨Nat.le_of_ble_eq_true rfl, Nat.le_of_ble_eq_true rfl⟩ hex hlocks (Nat.le_of_ble_eq_true rfl) (Nat.le_of_ble_eq_true rfl)
def sX8_plain (x1 : Int32) (σ : TS) : Option XR := sX8_plain_0 x1 σ
theorem nVX8_plain : yX8_plain.cls = RX8 ∧ yX8_plain.cls ≠ "java/lang/invoke/MethodHandle" ∧ yX8_plain.cls ≠ "java/lang/invoke/VarHandle" ∧ (parseMethodDescriptor yX8_plain.desc).map (fun d => d.parameters.length) = some 1 := by decide +kernel
set_option maxHeartbeats 4000000 in
set_option maxRecDepth 100000 in
theorem mX8_plain (l : Launch) (hlf : l.stackTraces = false) (hJ : gJ 78 q) {x1 : Int32} {σ : TS} {r : Int32 ⊕ Nat} {u : TS} (hp : sX8_plain x1 σ = some (r, u)) : vx_Met l yX8_plain wsX8_plain rmX8_plain (va_Pc [.ref (q (0)), .int x1] (gPreX D vwCl (tyL cy) (gS 78 q (TX cy q) σ) (gA 78 q))) (gQx D vwCl r (gS 78 q (TX cy q) u) (gA 78 q)) (gXx D vwCl r (gS 78 q (TX cy q) u) (gA 78 q)) 1 6 (gA 78 q) := by
  refine vx_ofW (cc := cX8_plain) (maxL := 2) (ret := (some .int)) (by decide +kernel) rfl ?_
  intro p e s m args below meth c s₁ B hml hex hv
  obtain ⟨rfl, ⟨hP, hK⟩, hXP⟩ := hv
  have hl := lv_entry ([.ref (q (0)), .int x1]) (n := 2) (Nat.le_of_ble_eq_true rfl)
  rw [lg_entry_eq]
  generalize (lg_sl ([.ref (q (0)), .int x1]) ++ List.replicate (2 - (lg_sl ([.ref (q (0)), .int x1])).length) Slot.unset).toArray = ls at hl ⊢
  have hl : lv_has ls 2 [(0, .ref (q (0))), (1, .int x1)] := hl
  exact kX8_plain_0 ⟨B.exec, B.bytes, B.returns, hml, findClass_of_methodNamed B.named, atoms_spec (ws := wsX8_plain) B.pre, B.notSynchronized⟩ hlf hXP hex hK hJ  hP va_S.rf hl hp
theorem miX8_word_X1 : ∀ w ∈ u_ws RX1 TX1 14, w ∈ wsX8_word := by decide +kernel
theorem miX8_word_X8 : ∀ w ∈ u_ws RX8 TX8 16, w ∈ wsX8_word := by decide +kernel
theorem mwX8_word_0 : Cond.fieldLink RX8 11 "Triplane" "computers" "[LTriplane$Computer;" ∈ wsX8_word := by decide +kernel
theorem mwX8_word_1 : Cond.fieldLink RX8 137 "Triplane$Computer" "memory" "LTriplane$Memory;" ∈ wsX8_word := by decide +kernel
abbrev rmX8_word : Room := { frames := 7, cells := 3, slots := 18, locals := 111 }
def sX8_word_34 (sx0 : Int32) (σ : TS) : Option XR := some (Sum.inl sx0, σ)
set_option maxHeartbeats 4000000 in
set_option maxRecDepth 100000 in
theorem kX8_word_34 {r : Int32 ⊕ Nat} {u : TS} (C0 : gC RX8 cX8_word 4 ((some .int)) wsX8_word p s m args meth c) (hlf : l.stackTraces = false) (hXP : xPre (gA 78 q) s) (hex : ∀ x ∈ c.exceptionTable.toList, False) (hK : va_K D vwCl (tyL cy) s) (hJ : gJ 78 q) {H : Heap} {locs : List Loc} {σ : TS} {sx0 : Int32} (hP : va_P D vwCl (gS 78 q (TX cy q) σ) H) (hS : va_S (gA 78 q) s.heap H locs) {ls : Array Slot} (hl : lv_has ls 4 []) (hp : sX8_word_34 sx0 σ = some (r, u)) : W p l e rmX8_word s m args below meth c H locs 3 18 (vx_MQ below (gQx D vwCl r (gS 78 q (TX cy q) u) (gA 78 q)) (gXx D vwCl r (gS 78 q (TX cy q) u) (gA 78 q)) args s 3 18 (gA 78 q)) (F0 m 34 ls [.int sx0]) := by
  obtain ⟨hx, hb, hr, hml, hown, hts, hlocks⟩ := id C0
  unfold sX8_word_34 at hp
  obtain ⟨rfl, rfl⟩ := o_r hp
  refine W.widen (k := 3) (n := 18) (Nat.le_of_ble_eq_true rfl) (Nat.le_of_ble_eq_true rfl) ?_
  refine vx_ret ?_
  exact W.iret (v := sx0) hx hb hr (fun t ht hW => ⟨⟨sx0, (), rfl, rfl, by subst ht; exact hP⟩, hS.F ht⟩) hS.2.2 dX8_word_34
def sX8_word_16 (x1 : Int32) (x2 : Int32) (x3 : Int32) (σ : TS) : Option XR := (if vin x1 3 = true then ((sX4_seen ((x1.toNatClampNeg)) ((((6 : Int32)) * x2) + x3) σ).bind (fun z => sX8_word_34 z.1 z.2)) else none)
set_option maxHeartbeats 4000000 in
set_option maxRecDepth 100000 in
theorem kX8_word_16 {r : Int32 ⊕ Nat} {u : TS} (C0 : gC RX8 cX8_word 4 ((some .int)) wsX8_word p s m args meth c) (hlf : l.stackTraces = false) (hXP : xPre (gA 78 q) s) (hex : ∀ x ∈ c.exceptionTable.toList, False) (hK : va_K D vwCl (tyL cy) s) (hJ : gJ 78 q) {H : Heap} {locs : List Loc} {σ : TS} {x1 : Int32} {x2 : Int32} {x3 : Int32} (hP : va_P D vwCl (gS 78 q (TX cy q) σ) H) (hS : va_S (gA 78 q) s.heap H locs) {ls : Array Slot} (hl : lv_has ls 4 [(0, .ref (q (0))), (1, .int x1), (2, .int x2), (3, .int x3)]) (hp : sX8_word_16 x1 x2 x3 σ = some (r, u)) : W p l e rmX8_word s m args below meth c H locs 3 18 (vx_MQ below (gQx D vwCl r (gS 78 q (TX cy q) u) (gA 78 q)) (gXx D vwCl r (gS 78 q (TX cy q) u) (gA 78 q)) args s 3 18 (gA 78 q)) (F0 m 16 ls []) := by
  obtain ⟨hx, hb, hr, hml, hown, hts, hlocks⟩ := id C0
  unfold sX8_word_16 at hp
  refine lv_aload_n hx hb dX8_word_16 rfl (lv_at hl 0 rfl) ?_
  refine g_get (v := .ref (q (1))) hx hb hts miX8_word_X8 hown hK hP (kk_Tri) (ce_Tri) rfl 0 (by decide) mwX8_word_0 rfl dX8_word_17 ?_
  refine lv_iload_n hx hb dX8_word_20 rfl (lv_at hl 1 rfl) ?_
  obtain ⟨hi1, hp⟩ := o_chk hp
  have hn2 : x1.toNatClampNeg < 4 := Nat.lt_of_lt_of_le (vin_lt hi1) (by decide)
  refine g_aald (j := x1.toNatClampNeg) hx hb hK hP (kk_CompArr) (ce_CompArr) 3 rfl rfl (vin_of hi1) rfl dX8_word_21 ?_
  refine g_get (v := .ref (q (16+6*(x1.toNatClampNeg)))) hx hb hts miX8_word_X1 hown hK hP (kk_Comp hn2) (ce_Comp hn2) rfl 0 (by decide) mwX8_word_1 rfl dX8_word_22 ?_
  refine lv_bipush (v := (6 : Int32)) hx hb dX8_word_25 (by decide) ?_
  refine lv_iload_n hx hb dX8_word_27 rfl (lv_at hl 2 rfl) ?_
  refine lv_imul hx hb dX8_word_28 ?_
  refine lv_iload_n hx hb dX8_word_29 rfl (lv_at hl 3 rfl) ?_
  refine lv_iadd hx hb dX8_word_30 ?_
  obtain ⟨⟨r3, u4⟩, hq5, hp⟩ := o_b hp
  refine g_cVi (As := [.int ((((6 : Int32)) * x2) + x3)]) (rest := []) hx hb hml hown hts hK hP hS (mX4_seen l hJ hn2 hq5) (cwV 1 hts gX8_word_X4_seen rfl rfl rfl nVX4_seen ⟨Nat.le_of_ble_eq_true rfl, Nat.le_of_ble_eq_true rfl⟩) (g_recv hK hP (kk_Mem hn2) (ce_Mem hn2) rfl) rfl hl.1 rfl (Nat.le_of_ble_eq_true rfl) dX8_word_31 ⟨Nat.le_of_ble_eq_true rfl, Nat.le_of_ble_eq_true rfl⟩ (fun H locs hP hS => ?_)
  exact kX8_word_34 C0 hlf hXP hex hK hJ  hP hS (lv_sub hl [] rfl) hp
def sX8_word_10 (x1 : Int32) (x2 : Int32) (x3 : Int32) (σ : TS) : Option XR := ((sX8_requireIndex x3 ((6 : Int32)) σ).bind (fun z => o_x z (fun _ zs => sX8_word_16 x1 x2 x3 zs)))
set_option maxHeartbeats 4000000 in
set_option maxRecDepth 100000 in
theorem kX8_word_10 {r : Int32 ⊕ Nat} {u : TS} (C0 : gC RX8 cX8_word 4 ((some .int)) wsX8_word p s m args meth c) (hlf : l.stackTraces = false) (hXP : xPre (gA 78 q) s) (hex : ∀ x ∈ c.exceptionTable.toList, False) (hK : va_K D vwCl (tyL cy) s) (hJ : gJ 78 q) {H : Heap} {locs : List Loc} {σ : TS} {x1 : Int32} {x2 : Int32} {x3 : Int32} (hP : va_P D vwCl (gS 78 q (TX cy q) σ) H) (hS : va_S (gA 78 q) s.heap H locs) {ls : Array Slot} (hl : lv_has ls 4 [(0, .ref (q (0))), (1, .int x1), (2, .int x2), (3, .int x3)]) (hp : sX8_word_10 x1 x2 x3 σ = some (r, u)) : W p l e rmX8_word s m args below meth c H locs 2 12 (vx_MQ below (gQx D vwCl r (gS 78 q (TX cy q) u) (gA 78 q)) (gXx D vwCl r (gS 78 q (TX cy q) u) (gA 78 q)) args s 3 18 (gA 78 q)) (F0 m 10 ls []) := by
  obtain ⟨hx, hb, hr, hml, hown, hts, hlocks⟩ := id C0
  unfold sX8_word_10 at hp
  refine lv_iload_n hx hb dX8_word_10 rfl (lv_at hl 3 rfl) ?_
  refine lv_bipush (v := (6 : Int32)) hx hb dX8_word_11 (by decide) ?_
  obtain ⟨⟨r6, u7⟩, hq8, hp⟩ := o_b hp
  rcases r6 with r6 | r6
  · refine g_xSv (As := [.int x3, .int ((6 : Int32))]) (rest := []) hx hb hml hown hts hK hXP hP hS (mX8_requireIndex l hlf hJ hq8) (va_cwS 2 hts gX8_word_X8_requireIndex rfl rfl rfl nVX8_requireIndex ⟨Nat.le_of_ble_eq_true rfl, Nat.le_of_ble_eq_true rfl⟩) rfl hl.1 rfl (Nat.le_of_ble_eq_true rfl) dX8_word_13 ⟨Nat.le_of_ble_eq_true rfl, Nat.le_of_ble_eq_true rfl⟩ (fun H locs hP hS => ?_)
    exact kX8_word_16 C0 hlf hXP hex hK hJ  hP hS hl hp
  · obtain ⟨rfl, rfl⟩ := o_r (a := (Sum.inr r6 : Int32 ⊕ Nat)) (b := u7) hp
    exact g_xSt (As := [.int x3, .int ((6 : Int32))]) (rest := []) hx hb hml hown hts hK hXP hP hS (mX8_requireIndex l hlf hJ hq8) (va_cwS 2 hts gX8_word_X8_requireIndex rfl rfl rfl nVX8_requireIndex ⟨Nat.le_of_ble_eq_true rfl, Nat.le_of_ble_eq_true rfl⟩) rfl hl.1 rfl (Nat.le_of_ble_eq_true rfl) dX8_word_13 ⟨Nat.le_of_ble_eq_true rfl, Nat.le_of_ble_eq_true rfl⟩ hex hlocks (Nat.le_of_ble_eq_true rfl) (Nat.le_of_ble_eq_true rfl)
def sX8_word_5 (x1 : Int32) (x2 : Int32) (x3 : Int32) (σ : TS) : Option XR := ((sX8_requireIndex x2 ((3 : Int32)) σ).bind (fun z => o_x z (fun _ zs => sX8_word_10 x1 x2 x3 zs)))
set_option maxHeartbeats 4000000 in
set_option maxRecDepth 100000 in
theorem kX8_word_5 {r : Int32 ⊕ Nat} {u : TS} (C0 : gC RX8 cX8_word 4 ((some .int)) wsX8_word p s m args meth c) (hlf : l.stackTraces = false) (hXP : xPre (gA 78 q) s) (hex : ∀ x ∈ c.exceptionTable.toList, False) (hK : va_K D vwCl (tyL cy) s) (hJ : gJ 78 q) {H : Heap} {locs : List Loc} {σ : TS} {x1 : Int32} {x2 : Int32} {x3 : Int32} (hP : va_P D vwCl (gS 78 q (TX cy q) σ) H) (hS : va_S (gA 78 q) s.heap H locs) {ls : Array Slot} (hl : lv_has ls 4 [(0, .ref (q (0))), (1, .int x1), (2, .int x2), (3, .int x3)]) (hp : sX8_word_5 x1 x2 x3 σ = some (r, u)) : W p l e rmX8_word s m args below meth c H locs 1 6 (vx_MQ below (gQx D vwCl r (gS 78 q (TX cy q) u) (gA 78 q)) (gXx D vwCl r (gS 78 q (TX cy q) u) (gA 78 q)) args s 3 18 (gA 78 q)) (F0 m 5 ls []) := by
  obtain ⟨hx, hb, hr, hml, hown, hts, hlocks⟩ := id C0
  unfold sX8_word_5 at hp
  refine lv_iload_n hx hb dX8_word_5 rfl (lv_at hl 2 rfl) ?_
  refine lv_iconst (v := (3 : Int32)) hx hb dX8_word_6 (by decide) ?_
  obtain ⟨⟨r9, u10⟩, hq11, hp⟩ := o_b hp
  rcases r9 with r9 | r9
  · refine g_xSv (As := [.int x2, .int ((3 : Int32))]) (rest := []) hx hb hml hown hts hK hXP hP hS (mX8_requireIndex l hlf hJ hq11) (va_cwS 2 hts gX8_word_X8_requireIndex rfl rfl rfl nVX8_requireIndex ⟨Nat.le_of_ble_eq_true rfl, Nat.le_of_ble_eq_true rfl⟩) rfl hl.1 rfl (Nat.le_of_ble_eq_true rfl) dX8_word_7 ⟨Nat.le_of_ble_eq_true rfl, Nat.le_of_ble_eq_true rfl⟩ (fun H locs hP hS => ?_)
    exact kX8_word_10 C0 hlf hXP hex hK hJ  hP hS hl hp
  · obtain ⟨rfl, rfl⟩ := o_r (a := (Sum.inr r9 : Int32 ⊕ Nat)) (b := u10) hp
    exact g_xSt (As := [.int x2, .int ((3 : Int32))]) (rest := []) hx hb hml hown hts hK hXP hP hS (mX8_requireIndex l hlf hJ hq11) (va_cwS 2 hts gX8_word_X8_requireIndex rfl rfl rfl nVX8_requireIndex ⟨Nat.le_of_ble_eq_true rfl, Nat.le_of_ble_eq_true rfl⟩) rfl hl.1 rfl (Nat.le_of_ble_eq_true rfl) dX8_word_7 ⟨Nat.le_of_ble_eq_true rfl, Nat.le_of_ble_eq_true rfl⟩ hex hlocks (Nat.le_of_ble_eq_true rfl) (Nat.le_of_ble_eq_true rfl)
def sX8_word_0 (x1 : Int32) (x2 : Int32) (x3 : Int32) (σ : TS) : Option XR := ((sX8_requireIndex x1 ((3 : Int32)) σ).bind (fun z => o_x z (fun _ zs => sX8_word_5 x1 x2 x3 zs)))
set_option maxHeartbeats 4000000 in
set_option maxRecDepth 100000 in
theorem kX8_word_0 {r : Int32 ⊕ Nat} {u : TS} (C0 : gC RX8 cX8_word 4 ((some .int)) wsX8_word p s m args meth c) (hlf : l.stackTraces = false) (hXP : xPre (gA 78 q) s) (hex : ∀ x ∈ c.exceptionTable.toList, False) (hK : va_K D vwCl (tyL cy) s) (hJ : gJ 78 q) {H : Heap} {locs : List Loc} {σ : TS} {x1 : Int32} {x2 : Int32} {x3 : Int32} (hP : va_P D vwCl (gS 78 q (TX cy q) σ) H) (hS : va_S (gA 78 q) s.heap H locs) {ls : Array Slot} (hl : lv_has ls 4 [(0, .ref (q (0))), (1, .int x1), (2, .int x2), (3, .int x3)]) (hp : sX8_word_0 x1 x2 x3 σ = some (r, u)) : W p l e rmX8_word s m args below meth c H locs 0 0 (vx_MQ below (gQx D vwCl r (gS 78 q (TX cy q) u) (gA 78 q)) (gXx D vwCl r (gS 78 q (TX cy q) u) (gA 78 q)) args s 3 18 (gA 78 q)) (F0 m 0 ls []) := by
  obtain ⟨hx, hb, hr, hml, hown, hts, hlocks⟩ := id C0
  unfold sX8_word_0 at hp
  refine lv_iload_n hx hb dX8_word_0 rfl (lv_at hl 1 rfl) ?_
  refine lv_iconst (v := (3 : Int32)) hx hb dX8_word_1 (by decide) ?_
  obtain ⟨⟨r12, u13⟩, hq14, hp⟩ := o_b hp
  rcases r12 with r12 | r12
  · refine g_xSv (As := [.int x1, .int ((3 : Int32))]) (rest := []) hx hb hml hown hts hK hXP hP hS (mX8_requireIndex l hlf hJ hq14) (va_cwS 2 hts gX8_word_X8_requireIndex rfl rfl rfl nVX8_requireIndex ⟨Nat.le_of_ble_eq_true rfl, Nat.le_of_ble_eq_true rfl⟩) rfl hl.1 rfl (Nat.le_of_ble_eq_true rfl) dX8_word_2 ⟨Nat.le_of_ble_eq_true rfl, Nat.le_of_ble_eq_true rfl⟩ (fun H locs hP hS => ?_)
    exact kX8_word_5 C0 hlf hXP hex hK hJ  hP hS hl hp
  · obtain ⟨rfl, rfl⟩ := o_r (a := (Sum.inr r12 : Int32 ⊕ Nat)) (b := u13) hp
    exact g_xSt (As := [.int x1, .int ((3 : Int32))]) (rest := []) hx hb hml hown hts hK hXP hP hS (mX8_requireIndex l hlf hJ hq14) (va_cwS 2 hts gX8_word_X8_requireIndex rfl rfl rfl nVX8_requireIndex ⟨Nat.le_of_ble_eq_true rfl, Nat.le_of_ble_eq_true rfl⟩) rfl hl.1 rfl (Nat.le_of_ble_eq_true rfl) dX8_word_2 ⟨Nat.le_of_ble_eq_true rfl, Nat.le_of_ble_eq_true rfl⟩ hex hlocks (Nat.le_of_ble_eq_true rfl) (Nat.le_of_ble_eq_true rfl)
def sX8_word (x1 : Int32) (x2 : Int32) (x3 : Int32) (σ : TS) : Option XR := sX8_word_0 x1 x2 x3 σ
theorem nVX8_word : yX8_word.cls = RX8 ∧ yX8_word.cls ≠ "java/lang/invoke/MethodHandle" ∧ yX8_word.cls ≠ "java/lang/invoke/VarHandle" ∧ (parseMethodDescriptor yX8_word.desc).map (fun d => d.parameters.length) = some 3 := by decide +kernel
set_option maxHeartbeats 4000000 in
set_option maxRecDepth 100000 in
theorem mX8_word (l : Launch) (hlf : l.stackTraces = false) (hJ : gJ 78 q) {x1 : Int32} {x2 : Int32} {x3 : Int32} {σ : TS} {r : Int32 ⊕ Nat} {u : TS} (hp : sX8_word x1 x2 x3 σ = some (r, u)) : vx_Met l yX8_word wsX8_word rmX8_word (va_Pc [.ref (q (0)), .int x1, .int x2, .int x3] (gPreX D vwCl (tyL cy) (gS 78 q (TX cy q) σ) (gA 78 q))) (gQx D vwCl r (gS 78 q (TX cy q) u) (gA 78 q)) (gXx D vwCl r (gS 78 q (TX cy q) u) (gA 78 q)) 3 18 (gA 78 q) := by
  refine vx_ofW (cc := cX8_word) (maxL := 4) (ret := (some .int)) (by decide +kernel) rfl ?_
  intro p e s m args below meth c s₁ B hml hex hv
  obtain ⟨rfl, ⟨hP, hK⟩, hXP⟩ := hv
  have hl := lv_entry ([.ref (q (0)), .int x1, .int x2, .int x3]) (n := 4) (Nat.le_of_ble_eq_true rfl)
  rw [lg_entry_eq]
  generalize (lg_sl ([.ref (q (0)), .int x1, .int x2, .int x3]) ++ List.replicate (4 - (lg_sl ([.ref (q (0)), .int x1, .int x2, .int x3])).length) Slot.unset).toArray = ls at hl ⊢
  have hl : lv_has ls 4 [(0, .ref (q (0))), (1, .int x1), (2, .int x2), (3, .int x3)] := hl
  exact kX8_word_0 ⟨B.exec, B.bytes, B.returns, hml, findClass_of_methodNamed B.named, atoms_spec (ws := wsX8_word) B.pre, B.notSynchronized⟩ hlf hXP hex hK hJ  hP va_S.rf hl hp
theorem miX8_flip_X1 : ∀ w ∈ u_ws RX1 TX1 14, w ∈ wsX8_flip := by decide +kernel
theorem miX8_flip_X8 : ∀ w ∈ u_ws RX8 TX8 16, w ∈ wsX8_flip := by decide +kernel
theorem mwX8_flip_0 : Cond.fieldLink RX8 77 "Triplane" "hadFault" "Z" ∈ wsX8_flip := by decide +kernel
theorem mwX8_flip_1 : Cond.fieldLink RX8 11 "Triplane" "computers" "[LTriplane$Computer;" ∈ wsX8_flip := by decide +kernel
theorem mwX8_flip_2 : Cond.fieldLink RX8 137 "Triplane$Computer" "memory" "LTriplane$Memory;" ∈ wsX8_flip := by decide +kernel
abbrev rmX8_flip : Room := { frames := 7, cells := 4, slots := 24, locals := 111 }
def sX8_flip_48 (sx0 : Int32) (σ : TS) : Option XR := some (Sum.inl sx0, σ)
set_option maxHeartbeats 4000000 in
set_option maxRecDepth 100000 in
theorem kX8_flip_48 {r : Int32 ⊕ Nat} {u : TS} (C0 : gC RX8 cX8_flip 5 ((some .int)) wsX8_flip p s m args meth c) (hlf : l.stackTraces = false) (hXP : xPre (gA 78 q) s) (hex : ∀ x ∈ c.exceptionTable.toList, False) (hK : va_K D vwCl (tyL cy) s) (hJ : gJ 78 q) {H : Heap} {locs : List Loc} {σ : TS} {sx0 : Int32} (hP : va_P D vwCl (gS 78 q (TX cy q) σ) H) (hS : va_S (gA 78 q) s.heap H locs) {ls : Array Slot} (hl : lv_has ls 5 []) (hp : sX8_flip_48 sx0 σ = some (r, u)) : W p l e rmX8_flip s m args below meth c H locs 4 24 (vx_MQ below (gQx D vwCl r (gS 78 q (TX cy q) u) (gA 78 q)) (gXx D vwCl r (gS 78 q (TX cy q) u) (gA 78 q)) args s 4 24 (gA 78 q)) (F0 m 48 ls [.int sx0]) := by
  obtain ⟨hx, hb, hr, hml, hown, hts, hlocks⟩ := id C0
  unfold sX8_flip_48 at hp
  obtain ⟨rfl, rfl⟩ := o_r hp
  refine W.widen (k := 4) (n := 24) (Nat.le_of_ble_eq_true rfl) (Nat.le_of_ble_eq_true rfl) ?_
  refine vx_ret ?_
  exact W.iret (v := sx0) hx hb hr (fun t ht hW => ⟨⟨sx0, (), rfl, rfl, by subst ht; exact hP⟩, hS.F ht⟩) hS.2.2 dX8_flip_48
def sX8_flip_23 (x1 : Int32) (x2 : Int32) (x3 : Int32) (x4 : Int32) (σ : TS) : Option XR := (if vin x1 3 = true then ((sX4_turn ((x1.toNatClampNeg)) ((((6 : Int32)) * x2) + x3) x4 (st2 σ 0 14 ((1 : Int32)))).bind (fun z => sX8_flip_48 z.1 z.2)) else none)
set_option maxHeartbeats 4000000 in
set_option maxRecDepth 100000 in
theorem kX8_flip_23 {r : Int32 ⊕ Nat} {u : TS} (C0 : gC RX8 cX8_flip 5 ((some .int)) wsX8_flip p s m args meth c) (hlf : l.stackTraces = false) (hXP : xPre (gA 78 q) s) (hex : ∀ x ∈ c.exceptionTable.toList, False) (hK : va_K D vwCl (tyL cy) s) (hJ : gJ 78 q) {H : Heap} {locs : List Loc} {σ : TS} {x1 : Int32} {x2 : Int32} {x3 : Int32} {x4 : Int32} (hP : va_P D vwCl (gS 78 q (TX cy q) σ) H) (hS : va_S (gA 78 q) s.heap H locs) {ls : Array Slot} (hl : lv_has ls 5 [(0, .ref (q (0))), (1, .int x1), (2, .int x2), (3, .int x3), (4, .int x4)]) (hp : sX8_flip_23 x1 x2 x3 x4 σ = some (r, u)) : W p l e rmX8_flip s m args below meth c H locs 4 24 (vx_MQ below (gQx D vwCl r (gS 78 q (TX cy q) u) (gA 78 q)) (gXx D vwCl r (gS 78 q (TX cy q) u) (gA 78 q)) args s 4 24 (gA 78 q)) (F0 m 23 ls []) := by
  obtain ⟨hx, hb, hr, hml, hown, hts, hlocks⟩ := id C0
  unfold sX8_flip_23 at hp
  refine lv_aload_n hx hb dX8_flip_23 rfl (lv_at hl 0 rfl) ?_
  refine lv_iconst (v := (1 : Int32)) hx hb dX8_flip_24 (by decide) ?_
  refine g_put (v := (1 : Int32)) hx hb hts miX8_flip_X8 tyX8 tyX8_ok nmX8 hown hK hJ hP hS (kk_Tri) (ce_Tri) rfl 14 (by decide) mwX8_flip_0 rfl (zok_n (by decide)).1 (zok_n (by decide)).2 (Nat.le_of_ble_eq_true rfl) rfl dX8_flip_25 (fun H locs hP hS => ?_)
  refine lv_aload_n hx hb dX8_flip_28 rfl (lv_at hl 0 rfl) ?_
  refine g_get (v := .ref (q (1))) hx hb hts miX8_flip_X8 hown hK hP (kk_Tri) (ce_Tri) rfl 0 (by decide) mwX8_flip_1 rfl dX8_flip_29 ?_
  refine lv_iload_n hx hb dX8_flip_32 rfl (lv_at hl 1 rfl) ?_
  obtain ⟨hi1, hp⟩ := o_chk hp
  have hn2 : x1.toNatClampNeg < 4 := Nat.lt_of_lt_of_le (vin_lt hi1) (by decide)
  refine g_aald (j := x1.toNatClampNeg) hx hb hK hP (kk_CompArr) (ce_CompArr) 3 rfl rfl (vin_of hi1) rfl dX8_flip_33 ?_
  refine g_get (v := .ref (q (16+6*(x1.toNatClampNeg)))) hx hb hts miX8_flip_X1 hown hK hP (kk_Comp hn2) (ce_Comp hn2) rfl 0 (by decide) mwX8_flip_2 rfl dX8_flip_34 ?_
  refine lv_bipush (v := (6 : Int32)) hx hb dX8_flip_37 (by decide) ?_
  refine lv_iload_n hx hb dX8_flip_39 rfl (lv_at hl 2 rfl) ?_
  refine lv_imul hx hb dX8_flip_40 ?_
  refine lv_iload_n hx hb dX8_flip_41 rfl (lv_at hl 3 rfl) ?_
  refine lv_iadd hx hb dX8_flip_42 ?_
  refine lv_iload hx hb dX8_flip_43 (lv_at hl 4 rfl) ?_
  obtain ⟨⟨r3, u4⟩, hq5, hp⟩ := o_b hp
  refine g_cVi (As := [.int ((((6 : Int32)) * x2) + x3), .int x4]) (rest := []) hx hb hml hown hts hK hP hS (mX4_turn l hJ hn2 hq5) (cwV 2 hts gX8_flip_X4_turn rfl rfl rfl nVX4_turn ⟨Nat.le_of_ble_eq_true rfl, Nat.le_of_ble_eq_true rfl⟩) (g_recv hK hP (kk_Mem hn2) (ce_Mem hn2) rfl) rfl hl.1 rfl (Nat.le_of_ble_eq_true rfl) dX8_flip_45 ⟨Nat.le_of_ble_eq_true rfl, Nat.le_of_ble_eq_true rfl⟩ (fun H locs hP hS => ?_)
  exact kX8_flip_48 C0 hlf hXP hex hK hJ  hP hS (lv_sub hl [] rfl) hp
def sX8_flip_16 (x1 : Int32) (x2 : Int32) (x3 : Int32) (x4 : Int32) (σ : TS) : Option XR := ((sX8_requireIndex x4 ((16 : Int32)) σ).bind (fun z => o_x z (fun _ zs => sX8_flip_23 x1 x2 x3 x4 zs)))
set_option maxHeartbeats 4000000 in
set_option maxRecDepth 100000 in
theorem kX8_flip_16 {r : Int32 ⊕ Nat} {u : TS} (C0 : gC RX8 cX8_flip 5 ((some .int)) wsX8_flip p s m args meth c) (hlf : l.stackTraces = false) (hXP : xPre (gA 78 q) s) (hex : ∀ x ∈ c.exceptionTable.toList, False) (hK : va_K D vwCl (tyL cy) s) (hJ : gJ 78 q) {H : Heap} {locs : List Loc} {σ : TS} {x1 : Int32} {x2 : Int32} {x3 : Int32} {x4 : Int32} (hP : va_P D vwCl (gS 78 q (TX cy q) σ) H) (hS : va_S (gA 78 q) s.heap H locs) {ls : Array Slot} (hl : lv_has ls 5 [(0, .ref (q (0))), (1, .int x1), (2, .int x2), (3, .int x3), (4, .int x4)]) (hp : sX8_flip_16 x1 x2 x3 x4 σ = some (r, u)) : W p l e rmX8_flip s m args below meth c H locs 3 18 (vx_MQ below (gQx D vwCl r (gS 78 q (TX cy q) u) (gA 78 q)) (gXx D vwCl r (gS 78 q (TX cy q) u) (gA 78 q)) args s 4 24 (gA 78 q)) (F0 m 16 ls []) := by
  obtain ⟨hx, hb, hr, hml, hown, hts, hlocks⟩ := id C0
  unfold sX8_flip_16 at hp
  refine lv_iload hx hb dX8_flip_16 (lv_at hl 4 rfl) ?_
  refine lv_bipush (v := (16 : Int32)) hx hb dX8_flip_18 (by decide) ?_
  obtain ⟨⟨r6, u7⟩, hq8, hp⟩ := o_b hp
  rcases r6 with r6 | r6
  · refine g_xSv (As := [.int x4, .int ((16 : Int32))]) (rest := []) hx hb hml hown hts hK hXP hP hS (mX8_requireIndex l hlf hJ hq8) (va_cwS 2 hts gX8_flip_X8_requireIndex rfl rfl rfl nVX8_requireIndex ⟨Nat.le_of_ble_eq_true rfl, Nat.le_of_ble_eq_true rfl⟩) rfl hl.1 rfl (Nat.le_of_ble_eq_true rfl) dX8_flip_20 ⟨Nat.le_of_ble_eq_true rfl, Nat.le_of_ble_eq_true rfl⟩ (fun H locs hP hS => ?_)
    exact kX8_flip_23 C0 hlf hXP hex hK hJ  hP hS hl hp
  · obtain ⟨rfl, rfl⟩ := o_r (a := (Sum.inr r6 : Int32 ⊕ Nat)) (b := u7) hp
    exact g_xSt (As := [.int x4, .int ((16 : Int32))]) (rest := []) hx hb hml hown hts hK hXP hP hS (mX8_requireIndex l hlf hJ hq8) (va_cwS 2 hts gX8_flip_X8_requireIndex rfl rfl rfl nVX8_requireIndex ⟨Nat.le_of_ble_eq_true rfl, Nat.le_of_ble_eq_true rfl⟩) rfl hl.1 rfl (Nat.le_of_ble_eq_true rfl) dX8_flip_20 ⟨Nat.le_of_ble_eq_true rfl, Nat.le_of_ble_eq_true rfl⟩ hex hlocks (Nat.le_of_ble_eq_true rfl) (Nat.le_of_ble_eq_true rfl)
def sX8_flip_10 (x1 : Int32) (x2 : Int32) (x3 : Int32) (x4 : Int32) (σ : TS) : Option XR := ((sX8_requireIndex x3 ((6 : Int32)) σ).bind (fun z => o_x z (fun _ zs => sX8_flip_16 x1 x2 x3 x4 zs)))
set_option maxHeartbeats 4000000 in
set_option maxRecDepth 100000 in
theorem kX8_flip_10 {r : Int32 ⊕ Nat} {u : TS} (C0 : gC RX8 cX8_flip 5 ((some .int)) wsX8_flip p s m args meth c) (hlf : l.stackTraces = false) (hXP : xPre (gA 78 q) s) (hex : ∀ x ∈ c.exceptionTable.toList, False) (hK : va_K D vwCl (tyL cy) s) (hJ : gJ 78 q) {H : Heap} {locs : List Loc} {σ : TS} {x1 : Int32} {x2 : Int32} {x3 : Int32} {x4 : Int32} (hP : va_P D vwCl (gS 78 q (TX cy q) σ) H) (hS : va_S (gA 78 q) s.heap H locs) {ls : Array Slot} (hl : lv_has ls 5 [(0, .ref (q (0))), (1, .int x1), (2, .int x2), (3, .int x3), (4, .int x4)]) (hp : sX8_flip_10 x1 x2 x3 x4 σ = some (r, u)) : W p l e rmX8_flip s m args below meth c H locs 2 12 (vx_MQ below (gQx D vwCl r (gS 78 q (TX cy q) u) (gA 78 q)) (gXx D vwCl r (gS 78 q (TX cy q) u) (gA 78 q)) args s 4 24 (gA 78 q)) (F0 m 10 ls []) := by
  obtain ⟨hx, hb, hr, hml, hown, hts, hlocks⟩ := id C0
  unfold sX8_flip_10 at hp
  refine lv_iload_n hx hb dX8_flip_10 rfl (lv_at hl 3 rfl) ?_
  refine lv_bipush (v := (6 : Int32)) hx hb dX8_flip_11 (by decide) ?_
  obtain ⟨⟨r9, u10⟩, hq11, hp⟩ := o_b hp
  rcases r9 with r9 | r9
  · refine g_xSv (As := [.int x3, .int ((6 : Int32))]) (rest := []) hx hb hml hown hts hK hXP hP hS (mX8_requireIndex l hlf hJ hq11) (va_cwS 2 hts gX8_flip_X8_requireIndex rfl rfl rfl nVX8_requireIndex ⟨Nat.le_of_ble_eq_true rfl, Nat.le_of_ble_eq_true rfl⟩) rfl hl.1 rfl (Nat.le_of_ble_eq_true rfl) dX8_flip_13 ⟨Nat.le_of_ble_eq_true rfl, Nat.le_of_ble_eq_true rfl⟩ (fun H locs hP hS => ?_)
    exact kX8_flip_16 C0 hlf hXP hex hK hJ  hP hS hl hp
  · obtain ⟨rfl, rfl⟩ := o_r (a := (Sum.inr r9 : Int32 ⊕ Nat)) (b := u10) hp
    exact g_xSt (As := [.int x3, .int ((6 : Int32))]) (rest := []) hx hb hml hown hts hK hXP hP hS (mX8_requireIndex l hlf hJ hq11) (va_cwS 2 hts gX8_flip_X8_requireIndex rfl rfl rfl nVX8_requireIndex ⟨Nat.le_of_ble_eq_true rfl, Nat.le_of_ble_eq_true rfl⟩) rfl hl.1 rfl (Nat.le_of_ble_eq_true rfl) dX8_flip_13 ⟨Nat.le_of_ble_eq_true rfl, Nat.le_of_ble_eq_true rfl⟩ hex hlocks (Nat.le_of_ble_eq_true rfl) (Nat.le_of_ble_eq_true rfl)
def sX8_flip_5 (x1 : Int32) (x2 : Int32) (x3 : Int32) (x4 : Int32) (σ : TS) : Option XR := ((sX8_requireIndex x2 ((3 : Int32)) σ).bind (fun z => o_x z (fun _ zs => sX8_flip_10 x1 x2 x3 x4 zs)))
set_option maxHeartbeats 4000000 in
set_option maxRecDepth 100000 in
theorem kX8_flip_5 {r : Int32 ⊕ Nat} {u : TS} (C0 : gC RX8 cX8_flip 5 ((some .int)) wsX8_flip p s m args meth c) (hlf : l.stackTraces = false) (hXP : xPre (gA 78 q) s) (hex : ∀ x ∈ c.exceptionTable.toList, False) (hK : va_K D vwCl (tyL cy) s) (hJ : gJ 78 q) {H : Heap} {locs : List Loc} {σ : TS} {x1 : Int32} {x2 : Int32} {x3 : Int32} {x4 : Int32} (hP : va_P D vwCl (gS 78 q (TX cy q) σ) H) (hS : va_S (gA 78 q) s.heap H locs) {ls : Array Slot} (hl : lv_has ls 5 [(0, .ref (q (0))), (1, .int x1), (2, .int x2), (3, .int x3), (4, .int x4)]) (hp : sX8_flip_5 x1 x2 x3 x4 σ = some (r, u)) : W p l e rmX8_flip s m args below meth c H locs 1 6 (vx_MQ below (gQx D vwCl r (gS 78 q (TX cy q) u) (gA 78 q)) (gXx D vwCl r (gS 78 q (TX cy q) u) (gA 78 q)) args s 4 24 (gA 78 q)) (F0 m 5 ls []) := by
  obtain ⟨hx, hb, hr, hml, hown, hts, hlocks⟩ := id C0
  unfold sX8_flip_5 at hp
  refine lv_iload_n hx hb dX8_flip_5 rfl (lv_at hl 2 rfl) ?_
  refine lv_iconst (v := (3 : Int32)) hx hb dX8_flip_6 (by decide) ?_
  obtain ⟨⟨r12, u13⟩, hq14, hp⟩ := o_b hp
  rcases r12 with r12 | r12
  · refine g_xSv (As := [.int x2, .int ((3 : Int32))]) (rest := []) hx hb hml hown hts hK hXP hP hS (mX8_requireIndex l hlf hJ hq14) (va_cwS 2 hts gX8_flip_X8_requireIndex rfl rfl rfl nVX8_requireIndex ⟨Nat.le_of_ble_eq_true rfl, Nat.le_of_ble_eq_true rfl⟩) rfl hl.1 rfl (Nat.le_of_ble_eq_true rfl) dX8_flip_7 ⟨Nat.le_of_ble_eq_true rfl, Nat.le_of_ble_eq_true rfl⟩ (fun H locs hP hS => ?_)
    exact kX8_flip_10 C0 hlf hXP hex hK hJ  hP hS hl hp
  · obtain ⟨rfl, rfl⟩ := o_r (a := (Sum.inr r12 : Int32 ⊕ Nat)) (b := u13) hp
    exact g_xSt (As := [.int x2, .int ((3 : Int32))]) (rest := []) hx hb hml hown hts hK hXP hP hS (mX8_requireIndex l hlf hJ hq14) (va_cwS 2 hts gX8_flip_X8_requireIndex rfl rfl rfl nVX8_requireIndex ⟨Nat.le_of_ble_eq_true rfl, Nat.le_of_ble_eq_true rfl⟩) rfl hl.1 rfl (Nat.le_of_ble_eq_true rfl) dX8_flip_7 ⟨Nat.le_of_ble_eq_true rfl, Nat.le_of_ble_eq_true rfl⟩ hex hlocks (Nat.le_of_ble_eq_true rfl) (Nat.le_of_ble_eq_true rfl)
def sX8_flip_0 (x1 : Int32) (x2 : Int32) (x3 : Int32) (x4 : Int32) (σ : TS) : Option XR := ((sX8_requireIndex x1 ((3 : Int32)) σ).bind (fun z => o_x z (fun _ zs => sX8_flip_5 x1 x2 x3 x4 zs)))
set_option maxHeartbeats 4000000 in
set_option maxRecDepth 100000 in
theorem kX8_flip_0 {r : Int32 ⊕ Nat} {u : TS} (C0 : gC RX8 cX8_flip 5 ((some .int)) wsX8_flip p s m args meth c) (hlf : l.stackTraces = false) (hXP : xPre (gA 78 q) s) (hex : ∀ x ∈ c.exceptionTable.toList, False) (hK : va_K D vwCl (tyL cy) s) (hJ : gJ 78 q) {H : Heap} {locs : List Loc} {σ : TS} {x1 : Int32} {x2 : Int32} {x3 : Int32} {x4 : Int32} (hP : va_P D vwCl (gS 78 q (TX cy q) σ) H) (hS : va_S (gA 78 q) s.heap H locs) {ls : Array Slot} (hl : lv_has ls 5 [(0, .ref (q (0))), (1, .int x1), (2, .int x2), (3, .int x3), (4, .int x4)]) (hp : sX8_flip_0 x1 x2 x3 x4 σ = some (r, u)) : W p l e rmX8_flip s m args below meth c H locs 0 0 (vx_MQ below (gQx D vwCl r (gS 78 q (TX cy q) u) (gA 78 q)) (gXx D vwCl r (gS 78 q (TX cy q) u) (gA 78 q)) args s 4 24 (gA 78 q)) (F0 m 0 ls []) := by
  obtain ⟨hx, hb, hr, hml, hown, hts, hlocks⟩ := id C0
  unfold sX8_flip_0 at hp
  refine lv_iload_n hx hb dX8_flip_0 rfl (lv_at hl 1 rfl) ?_
  refine lv_iconst (v := (3 : Int32)) hx hb dX8_flip_1 (by decide) ?_
  obtain ⟨⟨r15, u16⟩, hq17, hp⟩ := o_b hp
  rcases r15 with r15 | r15
  · refine g_xSv (As := [.int x1, .int ((3 : Int32))]) (rest := []) hx hb hml hown hts hK hXP hP hS (mX8_requireIndex l hlf hJ hq17) (va_cwS 2 hts gX8_flip_X8_requireIndex rfl rfl rfl nVX8_requireIndex ⟨Nat.le_of_ble_eq_true rfl, Nat.le_of_ble_eq_true rfl⟩) rfl hl.1 rfl (Nat.le_of_ble_eq_true rfl) dX8_flip_2 ⟨Nat.le_of_ble_eq_true rfl, Nat.le_of_ble_eq_true rfl⟩ (fun H locs hP hS => ?_)
    exact kX8_flip_5 C0 hlf hXP hex hK hJ  hP hS hl hp
  · obtain ⟨rfl, rfl⟩ := o_r (a := (Sum.inr r15 : Int32 ⊕ Nat)) (b := u16) hp
    exact g_xSt (As := [.int x1, .int ((3 : Int32))]) (rest := []) hx hb hml hown hts hK hXP hP hS (mX8_requireIndex l hlf hJ hq17) (va_cwS 2 hts gX8_flip_X8_requireIndex rfl rfl rfl nVX8_requireIndex ⟨Nat.le_of_ble_eq_true rfl, Nat.le_of_ble_eq_true rfl⟩) rfl hl.1 rfl (Nat.le_of_ble_eq_true rfl) dX8_flip_2 ⟨Nat.le_of_ble_eq_true rfl, Nat.le_of_ble_eq_true rfl⟩ hex hlocks (Nat.le_of_ble_eq_true rfl) (Nat.le_of_ble_eq_true rfl)
def sX8_flip (x1 : Int32) (x2 : Int32) (x3 : Int32) (x4 : Int32) (σ : TS) : Option XR := sX8_flip_0 x1 x2 x3 x4 σ
theorem nVX8_flip : yX8_flip.cls = RX8 ∧ yX8_flip.cls ≠ "java/lang/invoke/MethodHandle" ∧ yX8_flip.cls ≠ "java/lang/invoke/VarHandle" ∧ (parseMethodDescriptor yX8_flip.desc).map (fun d => d.parameters.length) = some 4 := by decide +kernel
set_option maxHeartbeats 4000000 in
set_option maxRecDepth 100000 in
theorem mX8_flip (l : Launch) (hlf : l.stackTraces = false) (hJ : gJ 78 q) {x1 : Int32} {x2 : Int32} {x3 : Int32} {x4 : Int32} {σ : TS} {r : Int32 ⊕ Nat} {u : TS} (hp : sX8_flip x1 x2 x3 x4 σ = some (r, u)) : vx_Met l yX8_flip wsX8_flip rmX8_flip (va_Pc [.ref (q (0)), .int x1, .int x2, .int x3, .int x4] (gPreX D vwCl (tyL cy) (gS 78 q (TX cy q) σ) (gA 78 q))) (gQx D vwCl r (gS 78 q (TX cy q) u) (gA 78 q)) (gXx D vwCl r (gS 78 q (TX cy q) u) (gA 78 q)) 4 24 (gA 78 q) := by
  refine vx_ofW (cc := cX8_flip) (maxL := 5) (ret := (some .int)) (by decide +kernel) rfl ?_
  intro p e s m args below meth c s₁ B hml hex hv
  obtain ⟨rfl, ⟨hP, hK⟩, hXP⟩ := hv
  have hl := lv_entry ([.ref (q (0)), .int x1, .int x2, .int x3, .int x4]) (n := 5) (Nat.le_of_ble_eq_true rfl)
  rw [lg_entry_eq]
  generalize (lg_sl ([.ref (q (0)), .int x1, .int x2, .int x3, .int x4]) ++ List.replicate (5 - (lg_sl ([.ref (q (0)), .int x1, .int x2, .int x3, .int x4])).length) Slot.unset).toArray = ls at hl ⊢
  have hl : lv_has ls 5 [(0, .ref (q (0))), (1, .int x1), (2, .int x2), (3, .int x3), (4, .int x4)] := hl
  exact kX8_flip_0 ⟨B.exec, B.bytes, B.returns, hml, findClass_of_methodNamed B.named, atoms_spec (ws := wsX8_flip) B.pre, B.notSynchronized⟩ hlf hXP hex hK hJ  hP va_S.rf hl hp
theorem miX8_stick_X8 : ∀ w ∈ u_ws RX8 TX8 16, w ∈ wsX8_stick := by decide +kernel
theorem mwX8_stick_0 : Cond.fieldLink RX8 11 "Triplane" "computers" "[LTriplane$Computer;" ∈ wsX8_stick := by decide +kernel
theorem mwX8_stick_1 : Cond.fieldLink RX8 77 "Triplane" "hadFault" "Z" ∈ wsX8_stick := by decide +kernel
abbrev rmX8_stick : Room := { frames := 7, cells := 3, slots := 18, locals := 111 }
def sX8_stick_45 (x5 : Int32) (σ : TS) : Option XR := (if zok x5 = true then some (Sum.inl x5, σ) else none)
set_option maxHeartbeats 4000000 in
set_option maxRecDepth 100000 in
theorem kX8_stick_45 {r : Int32 ⊕ Nat} {u : TS} (C0 : gC RX8 cX8_stick 6 ((some .boolean)) wsX8_stick p s m args meth c) (hlf : l.stackTraces = false) (hXP : xPre (gA 78 q) s) (hex : ∀ x ∈ c.exceptionTable.toList, False) (hK : va_K D vwCl (tyL cy) s) (hJ : gJ 78 q) {H : Heap} {locs : List Loc} {σ : TS} {x5 : Int32} (hP : va_P D vwCl (gS 78 q (TX cy q) σ) H) (hS : va_S (gA 78 q) s.heap H locs) {ls : Array Slot} (hl : lv_has ls 6 [(5, .int x5)]) (hp : sX8_stick_45 x5 σ = some (r, u)) : W p l e rmX8_stick s m args below meth c H locs 3 18 (vx_MQ below (gQx D vwCl r (gS 78 q (TX cy q) u) (gA 78 q)) (gXx D vwCl r (gS 78 q (TX cy q) u) (gA 78 q)) args s 3 18 (gA 78 q)) (F0 m 45 ls []) := by
  obtain ⟨hx, hb, hr, hml, hown, hts, hlocks⟩ := id C0
  unfold sX8_stick_45 at hp
  refine lv_iload hx hb dX8_stick_45 (lv_at hl 0 rfl) ?_
  obtain ⟨hz1, hp⟩ := o_chk hp
  obtain ⟨rfl, rfl⟩ := o_r hp
  refine W.widen (k := 3) (n := 18) (Nat.le_of_ble_eq_true rfl) (Nat.le_of_ble_eq_true rfl) ?_
  refine vx_ret ?_
  exact W.zret (v := x5) hx hb hr (zok_n hz1).1 (fun t ht hW => ⟨⟨x5, (), rfl, rfl, by subst ht; exact hP⟩, hS.F ht⟩) hS.2.2 dX8_stick_47
def sX8_stick_30 (x1 : Int32) (x2 : Int32) (x3 : Int32) (x4 : Int32) (sx0 : Int32) (σ : TS) : Option XR := (if vin x1 3 = true then ((sX1_letStick (x1.toNatClampNeg) x2 x3 x4 σ).bind (fun z => sX8_stick_45 sx0 z.2)) else none)
set_option maxHeartbeats 4000000 in
set_option maxRecDepth 100000 in
theorem kX8_stick_30 {r : Int32 ⊕ Nat} {u : TS} (C0 : gC RX8 cX8_stick 6 ((some .boolean)) wsX8_stick p s m args meth c) (hlf : l.stackTraces = false) (hXP : xPre (gA 78 q) s) (hex : ∀ x ∈ c.exceptionTable.toList, False) (hK : va_K D vwCl (tyL cy) s) (hJ : gJ 78 q) {H : Heap} {locs : List Loc} {σ : TS} {x1 : Int32} {x2 : Int32} {x3 : Int32} {x4 : Int32} {sx0 : Int32} (hP : va_P D vwCl (gS 78 q (TX cy q) σ) H) (hS : va_S (gA 78 q) s.heap H locs) {ls : Array Slot} (hl : lv_has ls 6 [(0, .ref (q (0))), (1, .int x1), (2, .int x2), (3, .int x3), (4, .int x4)]) (hp : sX8_stick_30 x1 x2 x3 x4 sx0 σ = some (r, u)) : W p l e rmX8_stick s m args below meth c H locs 3 18 (vx_MQ below (gQx D vwCl r (gS 78 q (TX cy q) u) (gA 78 q)) (gXx D vwCl r (gS 78 q (TX cy q) u) (gA 78 q)) args s 3 18 (gA 78 q)) (F0 m 30 ls [.int sx0]) := by
  obtain ⟨hx, hb, hr, hml, hown, hts, hlocks⟩ := id C0
  unfold sX8_stick_30 at hp
  refine lv_istore (lv' := [(5, .int sx0), (0, .ref (q (0))), (1, .int x1), (2, .int x2), (3, .int x3), (4, .int x4)]) hx hb dX8_stick_30 hl (by decide) rfl (fun ls hl => ?_)
  refine lv_aload_n hx hb dX8_stick_32 rfl (lv_at hl 1 rfl) ?_
  refine g_get (v := .ref (q (1))) hx hb hts miX8_stick_X8 hown hK hP (kk_Tri) (ce_Tri) rfl 0 (by decide) mwX8_stick_0 rfl dX8_stick_33 ?_
  refine lv_iload_n hx hb dX8_stick_36 rfl (lv_at hl 2 rfl) ?_
  obtain ⟨hi2, hp⟩ := o_chk hp
  have hn3 : x1.toNatClampNeg < 4 := Nat.lt_of_lt_of_le (vin_lt hi2) (by decide)
  refine g_aald (j := x1.toNatClampNeg) hx hb hK hP (kk_CompArr) (ce_CompArr) 3 rfl rfl (vin_of hi2) rfl dX8_stick_37 ?_
  refine lv_iload_n hx hb dX8_stick_38 rfl (lv_at hl 3 rfl) ?_
  refine lv_iload_n hx hb dX8_stick_39 rfl (lv_at hl 4 rfl) ?_
  refine lv_iload hx hb dX8_stick_40 (lv_at hl 5 rfl) ?_
  obtain ⟨⟨r4, u5⟩, hq6, hp⟩ := o_b hp
  refine g_cVv (As := [.int x2, .int x3, .int x4]) (rest := []) hx hb hml hown hts hK hP hS (mX1_letStick l hJ hn3 hq6) (cwV 3 hts gX8_stick_X1_letStick rfl rfl rfl nVX1_letStick ⟨Nat.le_of_ble_eq_true rfl, Nat.le_of_ble_eq_true rfl⟩) (g_recv hK hP (kk_Comp hn3) (ce_Comp hn3) rfl) rfl hl.1 rfl (Nat.le_of_ble_eq_true rfl) dX8_stick_42 ⟨Nat.le_of_ble_eq_true rfl, Nat.le_of_ble_eq_true rfl⟩ (fun H locs hP hS => ?_)
  exact kX8_stick_45 C0 hlf hXP hex hK hJ  hP hS (lv_sub hl [0] rfl) hp
def sX8_stick_16 (x1 : Int32) (x2 : Int32) (x3 : Int32) (x4 : Int32) (σ : TS) : Option XR := (if vin x1 3 = true then ((sX1_hasStuckBit (x1.toNatClampNeg) (st2 σ 0 14 ((1 : Int32)))).bind (fun z => sX8_stick_30 x1 x2 x3 x4 z.1 z.2)) else none)
set_option maxHeartbeats 4000000 in
set_option maxRecDepth 100000 in
theorem kX8_stick_16 {r : Int32 ⊕ Nat} {u : TS} (C0 : gC RX8 cX8_stick 6 ((some .boolean)) wsX8_stick p s m args meth c) (hlf : l.stackTraces = false) (hXP : xPre (gA 78 q) s) (hex : ∀ x ∈ c.exceptionTable.toList, False) (hK : va_K D vwCl (tyL cy) s) (hJ : gJ 78 q) {H : Heap} {locs : List Loc} {σ : TS} {x1 : Int32} {x2 : Int32} {x3 : Int32} {x4 : Int32} (hP : va_P D vwCl (gS 78 q (TX cy q) σ) H) (hS : va_S (gA 78 q) s.heap H locs) {ls : Array Slot} (hl : lv_has ls 6 [(0, .ref (q (0))), (1, .int x1), (2, .int x2), (3, .int x3), (4, .int x4)]) (hp : sX8_stick_16 x1 x2 x3 x4 σ = some (r, u)) : W p l e rmX8_stick s m args below meth c H locs 3 18 (vx_MQ below (gQx D vwCl r (gS 78 q (TX cy q) u) (gA 78 q)) (gXx D vwCl r (gS 78 q (TX cy q) u) (gA 78 q)) args s 3 18 (gA 78 q)) (F0 m 16 ls []) := by
  obtain ⟨hx, hb, hr, hml, hown, hts, hlocks⟩ := id C0
  unfold sX8_stick_16 at hp
  refine lv_aload_n hx hb dX8_stick_16 rfl (lv_at hl 0 rfl) ?_
  refine lv_iconst (v := (1 : Int32)) hx hb dX8_stick_17 (by decide) ?_
  refine g_put (v := (1 : Int32)) hx hb hts miX8_stick_X8 tyX8 tyX8_ok nmX8 hown hK hJ hP hS (kk_Tri) (ce_Tri) rfl 14 (by decide) mwX8_stick_1 rfl (zok_n (by decide)).1 (zok_n (by decide)).2 (Nat.le_of_ble_eq_true rfl) rfl dX8_stick_18 (fun H locs hP hS => ?_)
  refine lv_aload_n hx hb dX8_stick_21 rfl (lv_at hl 0 rfl) ?_
  refine g_get (v := .ref (q (1))) hx hb hts miX8_stick_X8 hown hK hP (kk_Tri) (ce_Tri) rfl 0 (by decide) mwX8_stick_0 rfl dX8_stick_22 ?_
  refine lv_iload_n hx hb dX8_stick_25 rfl (lv_at hl 1 rfl) ?_
  obtain ⟨hi7, hp⟩ := o_chk hp
  have hn8 : x1.toNatClampNeg < 4 := Nat.lt_of_lt_of_le (vin_lt hi7) (by decide)
  refine g_aald (j := x1.toNatClampNeg) hx hb hK hP (kk_CompArr) (ce_CompArr) 3 rfl rfl (vin_of hi7) rfl dX8_stick_26 ?_
  obtain ⟨⟨r9, u10⟩, hq11, hp⟩ := o_b hp
  refine g_cVi (As := []) (rest := []) hx hb hml hown hts hK hP hS (mX1_hasStuckBit l hJ hn8 hq11) (cwV 0 hts gX8_stick_X1_hasStuckBit rfl rfl rfl nVX1_hasStuckBit ⟨Nat.le_of_ble_eq_true rfl, Nat.le_of_ble_eq_true rfl⟩) (g_recv hK hP (kk_Comp hn8) (ce_Comp hn8) rfl) rfl hl.1 rfl (Nat.le_of_ble_eq_true rfl) dX8_stick_27 ⟨Nat.le_of_ble_eq_true rfl, Nat.le_of_ble_eq_true rfl⟩ (fun H locs hP hS => ?_)
  exact kX8_stick_30 C0 hlf hXP hex hK hJ  hP hS hl hp
def sX8_stick_10 (x1 : Int32) (x2 : Int32) (x3 : Int32) (x4 : Int32) (σ : TS) : Option XR := ((sX8_requireIndex x3 ((16 : Int32)) σ).bind (fun z => o_x z (fun _ zs => sX8_stick_16 x1 x2 x3 x4 zs)))
set_option maxHeartbeats 4000000 in
set_option maxRecDepth 100000 in
theorem kX8_stick_10 {r : Int32 ⊕ Nat} {u : TS} (C0 : gC RX8 cX8_stick 6 ((some .boolean)) wsX8_stick p s m args meth c) (hlf : l.stackTraces = false) (hXP : xPre (gA 78 q) s) (hex : ∀ x ∈ c.exceptionTable.toList, False) (hK : va_K D vwCl (tyL cy) s) (hJ : gJ 78 q) {H : Heap} {locs : List Loc} {σ : TS} {x1 : Int32} {x2 : Int32} {x3 : Int32} {x4 : Int32} (hP : va_P D vwCl (gS 78 q (TX cy q) σ) H) (hS : va_S (gA 78 q) s.heap H locs) {ls : Array Slot} (hl : lv_has ls 6 [(0, .ref (q (0))), (1, .int x1), (2, .int x2), (3, .int x3), (4, .int x4)]) (hp : sX8_stick_10 x1 x2 x3 x4 σ = some (r, u)) : W p l e rmX8_stick s m args below meth c H locs 2 12 (vx_MQ below (gQx D vwCl r (gS 78 q (TX cy q) u) (gA 78 q)) (gXx D vwCl r (gS 78 q (TX cy q) u) (gA 78 q)) args s 3 18 (gA 78 q)) (F0 m 10 ls []) := by
  obtain ⟨hx, hb, hr, hml, hown, hts, hlocks⟩ := id C0
  unfold sX8_stick_10 at hp
  refine lv_iload_n hx hb dX8_stick_10 rfl (lv_at hl 3 rfl) ?_
  refine lv_bipush (v := (16 : Int32)) hx hb dX8_stick_11 (by decide) ?_
  obtain ⟨⟨r12, u13⟩, hq14, hp⟩ := o_b hp
  rcases r12 with r12 | r12
  · refine g_xSv (As := [.int x3, .int ((16 : Int32))]) (rest := []) hx hb hml hown hts hK hXP hP hS (mX8_requireIndex l hlf hJ hq14) (va_cwS 2 hts gX8_stick_X8_requireIndex rfl rfl rfl nVX8_requireIndex ⟨Nat.le_of_ble_eq_true rfl, Nat.le_of_ble_eq_true rfl⟩) rfl hl.1 rfl (Nat.le_of_ble_eq_true rfl) dX8_stick_13 ⟨Nat.le_of_ble_eq_true rfl, Nat.le_of_ble_eq_true rfl⟩ (fun H locs hP hS => ?_)
    exact kX8_stick_16 C0 hlf hXP hex hK hJ  hP hS hl hp
  · obtain ⟨rfl, rfl⟩ := o_r (a := (Sum.inr r12 : Int32 ⊕ Nat)) (b := u13) hp
    exact g_xSt (As := [.int x3, .int ((16 : Int32))]) (rest := []) hx hb hml hown hts hK hXP hP hS (mX8_requireIndex l hlf hJ hq14) (va_cwS 2 hts gX8_stick_X8_requireIndex rfl rfl rfl nVX8_requireIndex ⟨Nat.le_of_ble_eq_true rfl, Nat.le_of_ble_eq_true rfl⟩) rfl hl.1 rfl (Nat.le_of_ble_eq_true rfl) dX8_stick_13 ⟨Nat.le_of_ble_eq_true rfl, Nat.le_of_ble_eq_true rfl⟩ hex hlocks (Nat.le_of_ble_eq_true rfl) (Nat.le_of_ble_eq_true rfl)
def sX8_stick_5 (x1 : Int32) (x2 : Int32) (x3 : Int32) (x4 : Int32) (σ : TS) : Option XR := ((sX8_requireIndex x2 ((4 : Int32)) σ).bind (fun z => o_x z (fun _ zs => sX8_stick_10 x1 x2 x3 x4 zs)))
set_option maxHeartbeats 4000000 in
set_option maxRecDepth 100000 in
theorem kX8_stick_5 {r : Int32 ⊕ Nat} {u : TS} (C0 : gC RX8 cX8_stick 6 ((some .boolean)) wsX8_stick p s m args meth c) (hlf : l.stackTraces = false) (hXP : xPre (gA 78 q) s) (hex : ∀ x ∈ c.exceptionTable.toList, False) (hK : va_K D vwCl (tyL cy) s) (hJ : gJ 78 q) {H : Heap} {locs : List Loc} {σ : TS} {x1 : Int32} {x2 : Int32} {x3 : Int32} {x4 : Int32} (hP : va_P D vwCl (gS 78 q (TX cy q) σ) H) (hS : va_S (gA 78 q) s.heap H locs) {ls : Array Slot} (hl : lv_has ls 6 [(0, .ref (q (0))), (1, .int x1), (2, .int x2), (3, .int x3), (4, .int x4)]) (hp : sX8_stick_5 x1 x2 x3 x4 σ = some (r, u)) : W p l e rmX8_stick s m args below meth c H locs 1 6 (vx_MQ below (gQx D vwCl r (gS 78 q (TX cy q) u) (gA 78 q)) (gXx D vwCl r (gS 78 q (TX cy q) u) (gA 78 q)) args s 3 18 (gA 78 q)) (F0 m 5 ls []) := by
  obtain ⟨hx, hb, hr, hml, hown, hts, hlocks⟩ := id C0
  unfold sX8_stick_5 at hp
  refine lv_iload_n hx hb dX8_stick_5 rfl (lv_at hl 2 rfl) ?_
  refine lv_iconst (v := (4 : Int32)) hx hb dX8_stick_6 (by decide) ?_
  obtain ⟨⟨r15, u16⟩, hq17, hp⟩ := o_b hp
  rcases r15 with r15 | r15
  · refine g_xSv (As := [.int x2, .int ((4 : Int32))]) (rest := []) hx hb hml hown hts hK hXP hP hS (mX8_requireIndex l hlf hJ hq17) (va_cwS 2 hts gX8_stick_X8_requireIndex rfl rfl rfl nVX8_requireIndex ⟨Nat.le_of_ble_eq_true rfl, Nat.le_of_ble_eq_true rfl⟩) rfl hl.1 rfl (Nat.le_of_ble_eq_true rfl) dX8_stick_7 ⟨Nat.le_of_ble_eq_true rfl, Nat.le_of_ble_eq_true rfl⟩ (fun H locs hP hS => ?_)
    exact kX8_stick_10 C0 hlf hXP hex hK hJ  hP hS hl hp
  · obtain ⟨rfl, rfl⟩ := o_r (a := (Sum.inr r15 : Int32 ⊕ Nat)) (b := u16) hp
    exact g_xSt (As := [.int x2, .int ((4 : Int32))]) (rest := []) hx hb hml hown hts hK hXP hP hS (mX8_requireIndex l hlf hJ hq17) (va_cwS 2 hts gX8_stick_X8_requireIndex rfl rfl rfl nVX8_requireIndex ⟨Nat.le_of_ble_eq_true rfl, Nat.le_of_ble_eq_true rfl⟩) rfl hl.1 rfl (Nat.le_of_ble_eq_true rfl) dX8_stick_7 ⟨Nat.le_of_ble_eq_true rfl, Nat.le_of_ble_eq_true rfl⟩ hex hlocks (Nat.le_of_ble_eq_true rfl) (Nat.le_of_ble_eq_true rfl)
def sX8_stick_0 (x1 : Int32) (x2 : Int32) (x3 : Int32) (x4 : Int32) (σ : TS) : Option XR := ((sX8_requireIndex x1 ((3 : Int32)) σ).bind (fun z => o_x z (fun _ zs => sX8_stick_5 x1 x2 x3 x4 zs)))
set_option maxHeartbeats 4000000 in
set_option maxRecDepth 100000 in
theorem kX8_stick_0 {r : Int32 ⊕ Nat} {u : TS} (C0 : gC RX8 cX8_stick 6 ((some .boolean)) wsX8_stick p s m args meth c) (hlf : l.stackTraces = false) (hXP : xPre (gA 78 q) s) (hex : ∀ x ∈ c.exceptionTable.toList, False) (hK : va_K D vwCl (tyL cy) s) (hJ : gJ 78 q) {H : Heap} {locs : List Loc} {σ : TS} {x1 : Int32} {x2 : Int32} {x3 : Int32} {x4 : Int32} (hP : va_P D vwCl (gS 78 q (TX cy q) σ) H) (hS : va_S (gA 78 q) s.heap H locs) {ls : Array Slot} (hl : lv_has ls 6 [(0, .ref (q (0))), (1, .int x1), (2, .int x2), (3, .int x3), (4, .int x4)]) (hp : sX8_stick_0 x1 x2 x3 x4 σ = some (r, u)) : W p l e rmX8_stick s m args below meth c H locs 0 0 (vx_MQ below (gQx D vwCl r (gS 78 q (TX cy q) u) (gA 78 q)) (gXx D vwCl r (gS 78 q (TX cy q) u) (gA 78 q)) args s 3 18 (gA 78 q)) (F0 m 0 ls []) := by
  obtain ⟨hx, hb, hr, hml, hown, hts, hlocks⟩ := id C0
  unfold sX8_stick_0 at hp
  refine lv_iload_n hx hb dX8_stick_0 rfl (lv_at hl 1 rfl) ?_
  refine lv_iconst (v := (3 : Int32)) hx hb dX8_stick_1 (by decide) ?_
  obtain ⟨⟨r18, u19⟩, hq20, hp⟩ := o_b hp
  rcases r18 with r18 | r18
  · refine g_xSv (As := [.int x1, .int ((3 : Int32))]) (rest := []) hx hb hml hown hts hK hXP hP hS (mX8_requireIndex l hlf hJ hq20) (va_cwS 2 hts gX8_stick_X8_requireIndex rfl rfl rfl nVX8_requireIndex ⟨Nat.le_of_ble_eq_true rfl, Nat.le_of_ble_eq_true rfl⟩) rfl hl.1 rfl (Nat.le_of_ble_eq_true rfl) dX8_stick_2 ⟨Nat.le_of_ble_eq_true rfl, Nat.le_of_ble_eq_true rfl⟩ (fun H locs hP hS => ?_)
    exact kX8_stick_5 C0 hlf hXP hex hK hJ  hP hS hl hp
  · obtain ⟨rfl, rfl⟩ := o_r (a := (Sum.inr r18 : Int32 ⊕ Nat)) (b := u19) hp
    exact g_xSt (As := [.int x1, .int ((3 : Int32))]) (rest := []) hx hb hml hown hts hK hXP hP hS (mX8_requireIndex l hlf hJ hq20) (va_cwS 2 hts gX8_stick_X8_requireIndex rfl rfl rfl nVX8_requireIndex ⟨Nat.le_of_ble_eq_true rfl, Nat.le_of_ble_eq_true rfl⟩) rfl hl.1 rfl (Nat.le_of_ble_eq_true rfl) dX8_stick_2 ⟨Nat.le_of_ble_eq_true rfl, Nat.le_of_ble_eq_true rfl⟩ hex hlocks (Nat.le_of_ble_eq_true rfl) (Nat.le_of_ble_eq_true rfl)
def sX8_stick (x1 : Int32) (x2 : Int32) (x3 : Int32) (x4 : Int32) (σ : TS) : Option XR := sX8_stick_0 x1 x2 x3 x4 σ
theorem nVX8_stick : yX8_stick.cls = RX8 ∧ yX8_stick.cls ≠ "java/lang/invoke/MethodHandle" ∧ yX8_stick.cls ≠ "java/lang/invoke/VarHandle" ∧ (parseMethodDescriptor yX8_stick.desc).map (fun d => d.parameters.length) = some 4 := by decide +kernel
set_option maxHeartbeats 4000000 in
set_option maxRecDepth 100000 in
theorem mX8_stick (l : Launch) (hlf : l.stackTraces = false) (hJ : gJ 78 q) {x1 : Int32} {x2 : Int32} {x3 : Int32} {x4 : Int32} {σ : TS} {r : Int32 ⊕ Nat} {u : TS} (hp : sX8_stick x1 x2 x3 x4 σ = some (r, u)) : vx_Met l yX8_stick wsX8_stick rmX8_stick (va_Pc [.ref (q (0)), .int x1, .int x2, .int x3, .int x4] (gPreX D vwCl (tyL cy) (gS 78 q (TX cy q) σ) (gA 78 q))) (gQx D vwCl r (gS 78 q (TX cy q) u) (gA 78 q)) (gXx D vwCl r (gS 78 q (TX cy q) u) (gA 78 q)) 3 18 (gA 78 q) := by
  refine vx_ofW (cc := cX8_stick) (maxL := 6) (ret := (some .boolean)) (by decide +kernel) rfl ?_
  intro p e s m args below meth c s₁ B hml hex hv
  obtain ⟨rfl, ⟨hP, hK⟩, hXP⟩ := hv
  have hl := lv_entry ([.ref (q (0)), .int x1, .int x2, .int x3, .int x4]) (n := 6) (Nat.le_of_ble_eq_true rfl)
  rw [lg_entry_eq]
  generalize (lg_sl ([.ref (q (0)), .int x1, .int x2, .int x3, .int x4]) ++ List.replicate (6 - (lg_sl ([.ref (q (0)), .int x1, .int x2, .int x3, .int x4])).length) Slot.unset).toArray = ls at hl ⊢
  have hl : lv_has ls 6 [(0, .ref (q (0))), (1, .int x1), (2, .int x2), (3, .int x3), (4, .int x4)] := hl
  exact kX8_stick_0 ⟨B.exec, B.bytes, B.returns, hml, findClass_of_methodNamed B.named, atoms_spec (ws := wsX8_stick) B.pre, B.notSynchronized⟩ hlf hXP hex hK hJ  hP va_S.rf hl hp
theorem miX8_fix_X1 : ∀ w ∈ u_ws RX1 TX1 14, w ∈ wsX8_fix := by decide +kernel
theorem miX8_fix_X8 : ∀ w ∈ u_ws RX8 TX8 16, w ∈ wsX8_fix := by decide +kernel
theorem mwX8_fix_0 : Cond.fieldLink RX8 11 "Triplane" "computers" "[LTriplane$Computer;" ∈ wsX8_fix := by decide +kernel
theorem mwX8_fix_1 : Cond.fieldLink RX8 159 "Triplane$Computer" "stuckRegister" "I" ∈ wsX8_fix := by decide +kernel
abbrev rmX8_fix : Room := { frames := 7, cells := 1, slots := 6, locals := 111 }
def sX8_fix_14 (x1 : Int32) (sx0 : Int32) (σ : TS) : Option XR := (if vin x1 3 = true then (if zok sx0 = true then some (Sum.inl sx0, st2 σ (15+6*(x1.toNatClampNeg)) 5 ((-1 : Int32))) else none) else none)
set_option maxHeartbeats 4000000 in
set_option maxRecDepth 100000 in
theorem kX8_fix_14 {r : Int32 ⊕ Nat} {u : TS} (C0 : gC RX8 cX8_fix 3 ((some .boolean)) wsX8_fix p s m args meth c) (hlf : l.stackTraces = false) (hXP : xPre (gA 78 q) s) (hex : ∀ x ∈ c.exceptionTable.toList, False) (hK : va_K D vwCl (tyL cy) s) (hJ : gJ 78 q) {H : Heap} {locs : List Loc} {σ : TS} {x1 : Int32} {sx0 : Int32} (hP : va_P D vwCl (gS 78 q (TX cy q) σ) H) (hS : va_S (gA 78 q) s.heap H locs) {ls : Array Slot} (hl : lv_has ls 3 [(0, .ref (q (0))), (1, .int x1)]) (hp : sX8_fix_14 x1 sx0 σ = some (r, u)) : W p l e rmX8_fix s m args below meth c H locs 1 6 (vx_MQ below (gQx D vwCl r (gS 78 q (TX cy q) u) (gA 78 q)) (gXx D vwCl r (gS 78 q (TX cy q) u) (gA 78 q)) args s 1 6 (gA 78 q)) (F0 m 14 ls [.int sx0]) := by
  obtain ⟨hx, hb, hr, hml, hown, hts, hlocks⟩ := id C0
  unfold sX8_fix_14 at hp
  refine lv_istore_n (lv' := [(2, .int sx0), (0, .ref (q (0))), (1, .int x1)]) hx hb dX8_fix_14 rfl hl (by decide) rfl (fun ls hl => ?_)
  refine lv_aload_n hx hb dX8_fix_15 rfl (lv_at hl 1 rfl) ?_
  refine g_get (v := .ref (q (1))) hx hb hts miX8_fix_X8 hown hK hP (kk_Tri) (ce_Tri) rfl 0 (by decide) mwX8_fix_0 rfl dX8_fix_16 ?_
  refine lv_iload_n hx hb dX8_fix_19 rfl (lv_at hl 2 rfl) ?_
  obtain ⟨hi1, hp⟩ := o_chk hp
  have hn2 : x1.toNatClampNeg < 4 := Nat.lt_of_lt_of_le (vin_lt hi1) (by decide)
  refine g_aald (j := x1.toNatClampNeg) hx hb hK hP (kk_CompArr) (ce_CompArr) 3 rfl rfl (vin_of hi1) rfl dX8_fix_20 ?_
  refine lv_iconst (v := (-1 : Int32)) hx hb dX8_fix_21 (by decide) ?_
  refine g_put (v := (-1 : Int32)) hx hb hts miX8_fix_X1 tyX1 tyX1_ok nmX1 hown hK hJ hP hS (kk_Comp hn2) (ce_Comp hn2) rfl 5 (by decide) mwX8_fix_1 rfl rfl rfl (Nat.le_of_ble_eq_true rfl) rfl dX8_fix_22 (fun H locs hP hS => ?_)
  refine lv_iload_n hx hb dX8_fix_25 rfl (lv_at hl 0 rfl) ?_
  obtain ⟨hz3, hp⟩ := o_chk hp
  obtain ⟨rfl, rfl⟩ := o_r hp
  refine W.widen (k := 1) (n := 6) (Nat.le_of_ble_eq_true rfl) (Nat.le_of_ble_eq_true rfl) ?_
  refine vx_ret ?_
  exact W.zret (v := sx0) hx hb hr (zok_n hz3).1 (fun t ht hW => ⟨⟨sx0, (), rfl, rfl, by subst ht; exact hP⟩, hS.F ht⟩) hS.2.2 dX8_fix_26
def sX8_fix_5 (x1 : Int32) (σ : TS) : Option XR := (if vin x1 3 = true then ((sX1_hasStuckBit (x1.toNatClampNeg) σ).bind (fun z => sX8_fix_14 x1 z.1 z.2)) else none)
set_option maxHeartbeats 4000000 in
set_option maxRecDepth 100000 in
theorem kX8_fix_5 {r : Int32 ⊕ Nat} {u : TS} (C0 : gC RX8 cX8_fix 3 ((some .boolean)) wsX8_fix p s m args meth c) (hlf : l.stackTraces = false) (hXP : xPre (gA 78 q) s) (hex : ∀ x ∈ c.exceptionTable.toList, False) (hK : va_K D vwCl (tyL cy) s) (hJ : gJ 78 q) {H : Heap} {locs : List Loc} {σ : TS} {x1 : Int32} (hP : va_P D vwCl (gS 78 q (TX cy q) σ) H) (hS : va_S (gA 78 q) s.heap H locs) {ls : Array Slot} (hl : lv_has ls 3 [(0, .ref (q (0))), (1, .int x1)]) (hp : sX8_fix_5 x1 σ = some (r, u)) : W p l e rmX8_fix s m args below meth c H locs 1 6 (vx_MQ below (gQx D vwCl r (gS 78 q (TX cy q) u) (gA 78 q)) (gXx D vwCl r (gS 78 q (TX cy q) u) (gA 78 q)) args s 1 6 (gA 78 q)) (F0 m 5 ls []) := by
  obtain ⟨hx, hb, hr, hml, hown, hts, hlocks⟩ := id C0
  unfold sX8_fix_5 at hp
  refine lv_aload_n hx hb dX8_fix_5 rfl (lv_at hl 0 rfl) ?_
  refine g_get (v := .ref (q (1))) hx hb hts miX8_fix_X8 hown hK hP (kk_Tri) (ce_Tri) rfl 0 (by decide) mwX8_fix_0 rfl dX8_fix_6 ?_
  refine lv_iload_n hx hb dX8_fix_9 rfl (lv_at hl 1 rfl) ?_
  obtain ⟨hi4, hp⟩ := o_chk hp
  have hn5 : x1.toNatClampNeg < 4 := Nat.lt_of_lt_of_le (vin_lt hi4) (by decide)
  refine g_aald (j := x1.toNatClampNeg) hx hb hK hP (kk_CompArr) (ce_CompArr) 3 rfl rfl (vin_of hi4) rfl dX8_fix_10 ?_
  obtain ⟨⟨r6, u7⟩, hq8, hp⟩ := o_b hp
  refine g_cVi (As := []) (rest := []) hx hb hml hown hts hK hP hS (mX1_hasStuckBit l hJ hn5 hq8) (cwV 0 hts gX8_fix_X1_hasStuckBit rfl rfl rfl nVX1_hasStuckBit ⟨Nat.le_of_ble_eq_true rfl, Nat.le_of_ble_eq_true rfl⟩) (g_recv hK hP (kk_Comp hn5) (ce_Comp hn5) rfl) rfl hl.1 rfl (Nat.le_of_ble_eq_true rfl) dX8_fix_11 ⟨Nat.le_of_ble_eq_true rfl, Nat.le_of_ble_eq_true rfl⟩ (fun H locs hP hS => ?_)
  exact kX8_fix_14 C0 hlf hXP hex hK hJ  hP hS hl hp
def sX8_fix_0 (x1 : Int32) (σ : TS) : Option XR := ((sX8_requireIndex x1 ((3 : Int32)) σ).bind (fun z => o_x z (fun _ zs => sX8_fix_5 x1 zs)))
set_option maxHeartbeats 4000000 in
set_option maxRecDepth 100000 in
theorem kX8_fix_0 {r : Int32 ⊕ Nat} {u : TS} (C0 : gC RX8 cX8_fix 3 ((some .boolean)) wsX8_fix p s m args meth c) (hlf : l.stackTraces = false) (hXP : xPre (gA 78 q) s) (hex : ∀ x ∈ c.exceptionTable.toList, False) (hK : va_K D vwCl (tyL cy) s) (hJ : gJ 78 q) {H : Heap} {locs : List Loc} {σ : TS} {x1 : Int32} (hP : va_P D vwCl (gS 78 q (TX cy q) σ) H) (hS : va_S (gA 78 q) s.heap H locs) {ls : Array Slot} (hl : lv_has ls 3 [(0, .ref (q (0))), (1, .int x1)]) (hp : sX8_fix_0 x1 σ = some (r, u)) : W p l e rmX8_fix s m args below meth c H locs 0 0 (vx_MQ below (gQx D vwCl r (gS 78 q (TX cy q) u) (gA 78 q)) (gXx D vwCl r (gS 78 q (TX cy q) u) (gA 78 q)) args s 1 6 (gA 78 q)) (F0 m 0 ls []) := by
  obtain ⟨hx, hb, hr, hml, hown, hts, hlocks⟩ := id C0
  unfold sX8_fix_0 at hp
  refine lv_iload_n hx hb dX8_fix_0 rfl (lv_at hl 1 rfl) ?_
  refine lv_iconst (v := (3 : Int32)) hx hb dX8_fix_1 (by decide) ?_
  obtain ⟨⟨r9, u10⟩, hq11, hp⟩ := o_b hp
  rcases r9 with r9 | r9
  · refine g_xSv (As := [.int x1, .int ((3 : Int32))]) (rest := []) hx hb hml hown hts hK hXP hP hS (mX8_requireIndex l hlf hJ hq11) (va_cwS 2 hts gX8_fix_X8_requireIndex rfl rfl rfl nVX8_requireIndex ⟨Nat.le_of_ble_eq_true rfl, Nat.le_of_ble_eq_true rfl⟩) rfl hl.1 rfl (Nat.le_of_ble_eq_true rfl) dX8_fix_2 ⟨Nat.le_of_ble_eq_true rfl, Nat.le_of_ble_eq_true rfl⟩ (fun H locs hP hS => ?_)
    exact kX8_fix_5 C0 hlf hXP hex hK hJ  hP hS hl hp
  · obtain ⟨rfl, rfl⟩ := o_r (a := (Sum.inr r9 : Int32 ⊕ Nat)) (b := u10) hp
    exact g_xSt (As := [.int x1, .int ((3 : Int32))]) (rest := []) hx hb hml hown hts hK hXP hP hS (mX8_requireIndex l hlf hJ hq11) (va_cwS 2 hts gX8_fix_X8_requireIndex rfl rfl rfl nVX8_requireIndex ⟨Nat.le_of_ble_eq_true rfl, Nat.le_of_ble_eq_true rfl⟩) rfl hl.1 rfl (Nat.le_of_ble_eq_true rfl) dX8_fix_2 ⟨Nat.le_of_ble_eq_true rfl, Nat.le_of_ble_eq_true rfl⟩ hex hlocks (Nat.le_of_ble_eq_true rfl) (Nat.le_of_ble_eq_true rfl)
def sX8_fix (x1 : Int32) (σ : TS) : Option XR := sX8_fix_0 x1 σ
theorem nVX8_fix : yX8_fix.cls = RX8 ∧ yX8_fix.cls ≠ "java/lang/invoke/MethodHandle" ∧ yX8_fix.cls ≠ "java/lang/invoke/VarHandle" ∧ (parseMethodDescriptor yX8_fix.desc).map (fun d => d.parameters.length) = some 1 := by decide +kernel
set_option maxHeartbeats 4000000 in
set_option maxRecDepth 100000 in
theorem mX8_fix (l : Launch) (hlf : l.stackTraces = false) (hJ : gJ 78 q) {x1 : Int32} {σ : TS} {r : Int32 ⊕ Nat} {u : TS} (hp : sX8_fix x1 σ = some (r, u)) : vx_Met l yX8_fix wsX8_fix rmX8_fix (va_Pc [.ref (q (0)), .int x1] (gPreX D vwCl (tyL cy) (gS 78 q (TX cy q) σ) (gA 78 q))) (gQx D vwCl r (gS 78 q (TX cy q) u) (gA 78 q)) (gXx D vwCl r (gS 78 q (TX cy q) u) (gA 78 q)) 1 6 (gA 78 q) := by
  refine vx_ofW (cc := cX8_fix) (maxL := 3) (ret := (some .boolean)) (by decide +kernel) rfl ?_
  intro p e s m args below meth c s₁ B hml hex hv
  obtain ⟨rfl, ⟨hP, hK⟩, hXP⟩ := hv
  have hl := lv_entry ([.ref (q (0)), .int x1]) (n := 3) (Nat.le_of_ble_eq_true rfl)
  rw [lg_entry_eq]
  generalize (lg_sl ([.ref (q (0)), .int x1]) ++ List.replicate (3 - (lg_sl ([.ref (q (0)), .int x1])).length) Slot.unset).toArray = ls at hl ⊢
  have hl : lv_has ls 3 [(0, .ref (q (0))), (1, .int x1)] := hl
  exact kX8_fix_0 ⟨B.exec, B.bytes, B.returns, hml, findClass_of_methodNamed B.named, atoms_spec (ws := wsX8_fix) B.pre, B.notSynchronized⟩ hlf hXP hex hK hJ  hP va_S.rf hl hp
theorem miX8_isOn_X1 : ∀ w ∈ u_ws RX1 TX1 14, w ∈ wsX8_isOn := by decide +kernel
theorem miX8_isOn_X8 : ∀ w ∈ u_ws RX8 TX8 16, w ∈ wsX8_isOn := by decide +kernel
theorem mwX8_isOn_0 : Cond.fieldLink RX8 11 "Triplane" "computers" "[LTriplane$Computer;" ∈ wsX8_isOn := by decide +kernel
theorem mwX8_isOn_1 : Cond.fieldLink RX8 162 "Triplane$Computer" "isRunning" "Z" ∈ wsX8_isOn := by decide +kernel
abbrev rmX8_isOn : Room := { frames := 7, cells := 1, slots := 6, locals := 111 }
def sX8_isOn_5 (x1 : Int32) (σ : TS) : Option XR := (if vin x1 3 = true then (if zok (σ (15+6*(x1.toNatClampNeg)) 6) = true then some (Sum.inl (σ (15+6*(x1.toNatClampNeg)) 6), σ) else none) else none)
set_option maxHeartbeats 4000000 in
set_option maxRecDepth 100000 in
theorem kX8_isOn_5 {r : Int32 ⊕ Nat} {u : TS} (C0 : gC RX8 cX8_isOn 2 ((some .boolean)) wsX8_isOn p s m args meth c) (hlf : l.stackTraces = false) (hXP : xPre (gA 78 q) s) (hex : ∀ x ∈ c.exceptionTable.toList, False) (hK : va_K D vwCl (tyL cy) s) (hJ : gJ 78 q) {H : Heap} {locs : List Loc} {σ : TS} {x1 : Int32} (hP : va_P D vwCl (gS 78 q (TX cy q) σ) H) (hS : va_S (gA 78 q) s.heap H locs) {ls : Array Slot} (hl : lv_has ls 2 [(0, .ref (q (0))), (1, .int x1)]) (hp : sX8_isOn_5 x1 σ = some (r, u)) : W p l e rmX8_isOn s m args below meth c H locs 1 6 (vx_MQ below (gQx D vwCl r (gS 78 q (TX cy q) u) (gA 78 q)) (gXx D vwCl r (gS 78 q (TX cy q) u) (gA 78 q)) args s 1 6 (gA 78 q)) (F0 m 5 ls []) := by
  obtain ⟨hx, hb, hr, hml, hown, hts, hlocks⟩ := id C0
  unfold sX8_isOn_5 at hp
  refine lv_aload_n hx hb dX8_isOn_5 rfl (lv_at hl 0 rfl) ?_
  refine g_get (v := .ref (q (1))) hx hb hts miX8_isOn_X8 hown hK hP (kk_Tri) (ce_Tri) rfl 0 (by decide) mwX8_isOn_0 rfl dX8_isOn_6 ?_
  refine lv_iload_n hx hb dX8_isOn_9 rfl (lv_at hl 1 rfl) ?_
  obtain ⟨hi1, hp⟩ := o_chk hp
  have hn2 : x1.toNatClampNeg < 4 := Nat.lt_of_lt_of_le (vin_lt hi1) (by decide)
  refine g_aald (j := x1.toNatClampNeg) hx hb hK hP (kk_CompArr) (ce_CompArr) 3 rfl rfl (vin_of hi1) rfl dX8_isOn_10 ?_
  refine g_get (v := .int (σ (15+6*(x1.toNatClampNeg)) 6)) hx hb hts miX8_isOn_X1 hown hK hP (kk_Comp hn2) (ce_Comp hn2) rfl 6 (by decide) mwX8_isOn_1 rfl dX8_isOn_11 ?_
  obtain ⟨hz3, hp⟩ := o_chk hp
  obtain ⟨rfl, rfl⟩ := o_r hp
  refine W.widen (k := 1) (n := 6) (Nat.le_of_ble_eq_true rfl) (Nat.le_of_ble_eq_true rfl) ?_
  refine vx_ret ?_
  exact W.zret (v := σ (15+6*(x1.toNatClampNeg)) 6) hx hb hr (zok_n hz3).1 (fun t ht hW => ⟨⟨σ (15+6*(x1.toNatClampNeg)) 6, (), rfl, rfl, by subst ht; exact hP⟩, hS.F ht⟩) hS.2.2 dX8_isOn_14
def sX8_isOn_0 (x1 : Int32) (σ : TS) : Option XR := ((sX8_requireIndex x1 ((3 : Int32)) σ).bind (fun z => o_x z (fun _ zs => sX8_isOn_5 x1 zs)))
set_option maxHeartbeats 4000000 in
set_option maxRecDepth 100000 in
theorem kX8_isOn_0 {r : Int32 ⊕ Nat} {u : TS} (C0 : gC RX8 cX8_isOn 2 ((some .boolean)) wsX8_isOn p s m args meth c) (hlf : l.stackTraces = false) (hXP : xPre (gA 78 q) s) (hex : ∀ x ∈ c.exceptionTable.toList, False) (hK : va_K D vwCl (tyL cy) s) (hJ : gJ 78 q) {H : Heap} {locs : List Loc} {σ : TS} {x1 : Int32} (hP : va_P D vwCl (gS 78 q (TX cy q) σ) H) (hS : va_S (gA 78 q) s.heap H locs) {ls : Array Slot} (hl : lv_has ls 2 [(0, .ref (q (0))), (1, .int x1)]) (hp : sX8_isOn_0 x1 σ = some (r, u)) : W p l e rmX8_isOn s m args below meth c H locs 0 0 (vx_MQ below (gQx D vwCl r (gS 78 q (TX cy q) u) (gA 78 q)) (gXx D vwCl r (gS 78 q (TX cy q) u) (gA 78 q)) args s 1 6 (gA 78 q)) (F0 m 0 ls []) := by
  obtain ⟨hx, hb, hr, hml, hown, hts, hlocks⟩ := id C0
  unfold sX8_isOn_0 at hp
  refine lv_iload_n hx hb dX8_isOn_0 rfl (lv_at hl 1 rfl) ?_
  refine lv_iconst (v := (3 : Int32)) hx hb dX8_isOn_1 (by decide) ?_
  obtain ⟨⟨r4, u5⟩, hq6, hp⟩ := o_b hp
  rcases r4 with r4 | r4
  · refine g_xSv (As := [.int x1, .int ((3 : Int32))]) (rest := []) hx hb hml hown hts hK hXP hP hS (mX8_requireIndex l hlf hJ hq6) (va_cwS 2 hts gX8_isOn_X8_requireIndex rfl rfl rfl nVX8_requireIndex ⟨Nat.le_of_ble_eq_true rfl, Nat.le_of_ble_eq_true rfl⟩) rfl hl.1 rfl (Nat.le_of_ble_eq_true rfl) dX8_isOn_2 ⟨Nat.le_of_ble_eq_true rfl, Nat.le_of_ble_eq_true rfl⟩ (fun H locs hP hS => ?_)
    exact kX8_isOn_5 C0 hlf hXP hex hK hJ  hP hS hl hp
  · obtain ⟨rfl, rfl⟩ := o_r (a := (Sum.inr r4 : Int32 ⊕ Nat)) (b := u5) hp
    exact g_xSt (As := [.int x1, .int ((3 : Int32))]) (rest := []) hx hb hml hown hts hK hXP hP hS (mX8_requireIndex l hlf hJ hq6) (va_cwS 2 hts gX8_isOn_X8_requireIndex rfl rfl rfl nVX8_requireIndex ⟨Nat.le_of_ble_eq_true rfl, Nat.le_of_ble_eq_true rfl⟩) rfl hl.1 rfl (Nat.le_of_ble_eq_true rfl) dX8_isOn_2 ⟨Nat.le_of_ble_eq_true rfl, Nat.le_of_ble_eq_true rfl⟩ hex hlocks (Nat.le_of_ble_eq_true rfl) (Nat.le_of_ble_eq_true rfl)
def sX8_isOn (x1 : Int32) (σ : TS) : Option XR := sX8_isOn_0 x1 σ
theorem nVX8_isOn : yX8_isOn.cls = RX8 ∧ yX8_isOn.cls ≠ "java/lang/invoke/MethodHandle" ∧ yX8_isOn.cls ≠ "java/lang/invoke/VarHandle" ∧ (parseMethodDescriptor yX8_isOn.desc).map (fun d => d.parameters.length) = some 1 := by decide +kernel
set_option maxHeartbeats 4000000 in
set_option maxRecDepth 100000 in
theorem mX8_isOn (l : Launch) (hlf : l.stackTraces = false) (hJ : gJ 78 q) {x1 : Int32} {σ : TS} {r : Int32 ⊕ Nat} {u : TS} (hp : sX8_isOn x1 σ = some (r, u)) : vx_Met l yX8_isOn wsX8_isOn rmX8_isOn (va_Pc [.ref (q (0)), .int x1] (gPreX D vwCl (tyL cy) (gS 78 q (TX cy q) σ) (gA 78 q))) (gQx D vwCl r (gS 78 q (TX cy q) u) (gA 78 q)) (gXx D vwCl r (gS 78 q (TX cy q) u) (gA 78 q)) 1 6 (gA 78 q) := by
  refine vx_ofW (cc := cX8_isOn) (maxL := 2) (ret := (some .boolean)) (by decide +kernel) rfl ?_
  intro p e s m args below meth c s₁ B hml hex hv
  obtain ⟨rfl, ⟨hP, hK⟩, hXP⟩ := hv
  have hl := lv_entry ([.ref (q (0)), .int x1]) (n := 2) (Nat.le_of_ble_eq_true rfl)
  rw [lg_entry_eq]
  generalize (lg_sl ([.ref (q (0)), .int x1]) ++ List.replicate (2 - (lg_sl ([.ref (q (0)), .int x1])).length) Slot.unset).toArray = ls at hl ⊢
  have hl : lv_has ls 2 [(0, .ref (q (0))), (1, .int x1)] := hl
  exact kX8_isOn_0 ⟨B.exec, B.bytes, B.returns, hml, findClass_of_methodNamed B.named, atoms_spec (ws := wsX8_isOn) B.pre, B.notSynchronized⟩ hlf hXP hex hK hJ  hP va_S.rf hl hp
theorem miX8_strikes_X1 : ∀ w ∈ u_ws RX1 TX1 14, w ∈ wsX8_strikes := by decide +kernel
theorem miX8_strikes_X8 : ∀ w ∈ u_ws RX8 TX8 16, w ∈ wsX8_strikes := by decide +kernel
theorem mwX8_strikes_0 : Cond.fieldLink RX8 11 "Triplane" "computers" "[LTriplane$Computer;" ∈ wsX8_strikes := by decide +kernel
theorem mwX8_strikes_1 : Cond.fieldLink RX8 165 "Triplane$Computer" "strikeCount" "I" ∈ wsX8_strikes := by decide +kernel
abbrev rmX8_strikes : Room := { frames := 7, cells := 1, slots := 6, locals := 111 }
def sX8_strikes_5 (x1 : Int32) (σ : TS) : Option XR := (if vin x1 3 = true then some (Sum.inl (σ (15+6*(x1.toNatClampNeg)) 4), σ) else none)
set_option maxHeartbeats 4000000 in
set_option maxRecDepth 100000 in
theorem kX8_strikes_5 {r : Int32 ⊕ Nat} {u : TS} (C0 : gC RX8 cX8_strikes 2 ((some .int)) wsX8_strikes p s m args meth c) (hlf : l.stackTraces = false) (hXP : xPre (gA 78 q) s) (hex : ∀ x ∈ c.exceptionTable.toList, False) (hK : va_K D vwCl (tyL cy) s) (hJ : gJ 78 q) {H : Heap} {locs : List Loc} {σ : TS} {x1 : Int32} (hP : va_P D vwCl (gS 78 q (TX cy q) σ) H) (hS : va_S (gA 78 q) s.heap H locs) {ls : Array Slot} (hl : lv_has ls 2 [(0, .ref (q (0))), (1, .int x1)]) (hp : sX8_strikes_5 x1 σ = some (r, u)) : W p l e rmX8_strikes s m args below meth c H locs 1 6 (vx_MQ below (gQx D vwCl r (gS 78 q (TX cy q) u) (gA 78 q)) (gXx D vwCl r (gS 78 q (TX cy q) u) (gA 78 q)) args s 1 6 (gA 78 q)) (F0 m 5 ls []) := by
  obtain ⟨hx, hb, hr, hml, hown, hts, hlocks⟩ := id C0
  unfold sX8_strikes_5 at hp
  refine lv_aload_n hx hb dX8_strikes_5 rfl (lv_at hl 0 rfl) ?_
  refine g_get (v := .ref (q (1))) hx hb hts miX8_strikes_X8 hown hK hP (kk_Tri) (ce_Tri) rfl 0 (by decide) mwX8_strikes_0 rfl dX8_strikes_6 ?_
  refine lv_iload_n hx hb dX8_strikes_9 rfl (lv_at hl 1 rfl) ?_
  obtain ⟨hi1, hp⟩ := o_chk hp
  have hn2 : x1.toNatClampNeg < 4 := Nat.lt_of_lt_of_le (vin_lt hi1) (by decide)
  refine g_aald (j := x1.toNatClampNeg) hx hb hK hP (kk_CompArr) (ce_CompArr) 3 rfl rfl (vin_of hi1) rfl dX8_strikes_10 ?_
  refine g_get (v := .int (σ (15+6*(x1.toNatClampNeg)) 4)) hx hb hts miX8_strikes_X1 hown hK hP (kk_Comp hn2) (ce_Comp hn2) rfl 4 (by decide) mwX8_strikes_1 rfl dX8_strikes_11 ?_
  obtain ⟨rfl, rfl⟩ := o_r hp
  refine W.widen (k := 1) (n := 6) (Nat.le_of_ble_eq_true rfl) (Nat.le_of_ble_eq_true rfl) ?_
  refine vx_ret ?_
  exact W.iret (v := σ (15+6*(x1.toNatClampNeg)) 4) hx hb hr (fun t ht hW => ⟨⟨σ (15+6*(x1.toNatClampNeg)) 4, (), rfl, rfl, by subst ht; exact hP⟩, hS.F ht⟩) hS.2.2 dX8_strikes_14
def sX8_strikes_0 (x1 : Int32) (σ : TS) : Option XR := ((sX8_requireIndex x1 ((3 : Int32)) σ).bind (fun z => o_x z (fun _ zs => sX8_strikes_5 x1 zs)))
set_option maxHeartbeats 4000000 in
set_option maxRecDepth 100000 in
theorem kX8_strikes_0 {r : Int32 ⊕ Nat} {u : TS} (C0 : gC RX8 cX8_strikes 2 ((some .int)) wsX8_strikes p s m args meth c) (hlf : l.stackTraces = false) (hXP : xPre (gA 78 q) s) (hex : ∀ x ∈ c.exceptionTable.toList, False) (hK : va_K D vwCl (tyL cy) s) (hJ : gJ 78 q) {H : Heap} {locs : List Loc} {σ : TS} {x1 : Int32} (hP : va_P D vwCl (gS 78 q (TX cy q) σ) H) (hS : va_S (gA 78 q) s.heap H locs) {ls : Array Slot} (hl : lv_has ls 2 [(0, .ref (q (0))), (1, .int x1)]) (hp : sX8_strikes_0 x1 σ = some (r, u)) : W p l e rmX8_strikes s m args below meth c H locs 0 0 (vx_MQ below (gQx D vwCl r (gS 78 q (TX cy q) u) (gA 78 q)) (gXx D vwCl r (gS 78 q (TX cy q) u) (gA 78 q)) args s 1 6 (gA 78 q)) (F0 m 0 ls []) := by
  obtain ⟨hx, hb, hr, hml, hown, hts, hlocks⟩ := id C0
  unfold sX8_strikes_0 at hp
  refine lv_iload_n hx hb dX8_strikes_0 rfl (lv_at hl 1 rfl) ?_
  refine lv_iconst (v := (3 : Int32)) hx hb dX8_strikes_1 (by decide) ?_
  obtain ⟨⟨r3, u4⟩, hq5, hp⟩ := o_b hp
  rcases r3 with r3 | r3
  · refine g_xSv (As := [.int x1, .int ((3 : Int32))]) (rest := []) hx hb hml hown hts hK hXP hP hS (mX8_requireIndex l hlf hJ hq5) (va_cwS 2 hts gX8_strikes_X8_requireIndex rfl rfl rfl nVX8_requireIndex ⟨Nat.le_of_ble_eq_true rfl, Nat.le_of_ble_eq_true rfl⟩) rfl hl.1 rfl (Nat.le_of_ble_eq_true rfl) dX8_strikes_2 ⟨Nat.le_of_ble_eq_true rfl, Nat.le_of_ble_eq_true rfl⟩ (fun H locs hP hS => ?_)
    exact kX8_strikes_5 C0 hlf hXP hex hK hJ  hP hS hl hp
  · obtain ⟨rfl, rfl⟩ := o_r (a := (Sum.inr r3 : Int32 ⊕ Nat)) (b := u4) hp
    exact g_xSt (As := [.int x1, .int ((3 : Int32))]) (rest := []) hx hb hml hown hts hK hXP hP hS (mX8_requireIndex l hlf hJ hq5) (va_cwS 2 hts gX8_strikes_X8_requireIndex rfl rfl rfl nVX8_requireIndex ⟨Nat.le_of_ble_eq_true rfl, Nat.le_of_ble_eq_true rfl⟩) rfl hl.1 rfl (Nat.le_of_ble_eq_true rfl) dX8_strikes_2 ⟨Nat.le_of_ble_eq_true rfl, Nat.le_of_ble_eq_true rfl⟩ hex hlocks (Nat.le_of_ble_eq_true rfl) (Nat.le_of_ble_eq_true rfl)
def sX8_strikes (x1 : Int32) (σ : TS) : Option XR := sX8_strikes_0 x1 σ
theorem nVX8_strikes : yX8_strikes.cls = RX8 ∧ yX8_strikes.cls ≠ "java/lang/invoke/MethodHandle" ∧ yX8_strikes.cls ≠ "java/lang/invoke/VarHandle" ∧ (parseMethodDescriptor yX8_strikes.desc).map (fun d => d.parameters.length) = some 1 := by decide +kernel
set_option maxHeartbeats 4000000 in
set_option maxRecDepth 100000 in
theorem mX8_strikes (l : Launch) (hlf : l.stackTraces = false) (hJ : gJ 78 q) {x1 : Int32} {σ : TS} {r : Int32 ⊕ Nat} {u : TS} (hp : sX8_strikes x1 σ = some (r, u)) : vx_Met l yX8_strikes wsX8_strikes rmX8_strikes (va_Pc [.ref (q (0)), .int x1] (gPreX D vwCl (tyL cy) (gS 78 q (TX cy q) σ) (gA 78 q))) (gQx D vwCl r (gS 78 q (TX cy q) u) (gA 78 q)) (gXx D vwCl r (gS 78 q (TX cy q) u) (gA 78 q)) 1 6 (gA 78 q) := by
  refine vx_ofW (cc := cX8_strikes) (maxL := 2) (ret := (some .int)) (by decide +kernel) rfl ?_
  intro p e s m args below meth c s₁ B hml hex hv
  obtain ⟨rfl, ⟨hP, hK⟩, hXP⟩ := hv
  have hl := lv_entry ([.ref (q (0)), .int x1]) (n := 2) (Nat.le_of_ble_eq_true rfl)
  rw [lg_entry_eq]
  generalize (lg_sl ([.ref (q (0)), .int x1]) ++ List.replicate (2 - (lg_sl ([.ref (q (0)), .int x1])).length) Slot.unset).toArray = ls at hl ⊢
  have hl : lv_has ls 2 [(0, .ref (q (0))), (1, .int x1)] := hl
  exact kX8_strikes_0 ⟨B.exec, B.bytes, B.returns, hml, findClass_of_methodNamed B.named, atoms_spec (ws := wsX8_strikes) B.pre, B.notSynchronized⟩ hlf hXP hex hK hJ  hP va_S.rf hl hp
theorem mwX8_requireState_0 : Cond.classLink RX8 305 (xn 4) ∈ wsX8_requireState := by decide +kernel
theorem mwX8_requireState_1 : Cond.initialized (xn 4) ∈ wsX8_requireState := by decide +kernel
abbrev rmX8_requireState : Room := { frames := 6, cells := 1, slots := 6, locals := 90 }
theorem mxX8_requireState_309 : ∀ w ∈ (vx_atS RX8 309 (xn 4) xNames).filter goodWord, w ∈ wsX8_requireState := by decide +kernel
def sX8_requireState_0 (x0 : Int32) (σ : TS) : Option XR := (if x0 = 0 then some (Sum.inr 4, σ) else some (Sum.inl 0, σ))
set_option maxHeartbeats 4000000 in
set_option maxRecDepth 100000 in
theorem kX8_requireState_0 {r : Int32 ⊕ Nat} {u : TS} (C0 : gC RX8 cX8_requireState 1 none wsX8_requireState p s m args meth c) (hlf : l.stackTraces = false) (hXP : xPre (gA 78 q) s) (hex : ∀ x ∈ c.exceptionTable.toList, False) (hK : va_K D vwCl (tyL cy) s) (hJ : gJ 78 q) {H : Heap} {locs : List Loc} {σ : TS} {x0 : Int32} (hP : va_P D vwCl (gS 78 q (TX cy q) σ) H) (hS : va_S (gA 78 q) s.heap H locs) {ls : Array Slot} (hl : lv_has ls 1 [(0, .int x0)]) (hp : sX8_requireState_0 x0 σ = some (r, u)) : W p l e rmX8_requireState s m args below meth c H locs 0 0 (vx_MQ below (gQxv D vwCl r (gS 78 q (TX cy q) u) (gA 78 q)) (gXx D vwCl r (gS 78 q (TX cy q) u) (gA 78 q)) args s 1 6 (gA 78 q)) (F0 m 0 ls []) := by
  obtain ⟨hx, hb, hr, hml, hown, hts, hlocks⟩ := id C0
  unfold sX8_requireState_0 at hp
  refine lv_iload_n hx hb dX8_requireState_0 rfl (lv_at hl 0 rfl) ?_
  refine lv_if_ne (tgt := 15) hx hb dX8_requireState_1 (by decide) (fun hcd1 => ?_) (fun hcd1 => ?_)
  · have hp := o_f hp hcd1
    obtain ⟨rfl, rfl⟩ := o_r hp
    refine W.widen (k := 1) (n := 6) (Nat.le_of_ble_eq_true rfl) (Nat.le_of_ble_eq_true rfl) ?_
    refine vx_ret ?_
    exact W.vret hx hb hr (fun t ht hW => ⟨⟨(), rfl, ⟨_, rfl⟩, by subst ht; exact hP⟩, hS.F ht⟩) hS.2.2 dX8_requireState_15
  · have hp := o_t hp hcd1
    obtain ⟨rfl, rfl⟩ := o_r hp
    exact g_throwW (text := "not as things stand") hx hb hlf hown hts hXP mxX8_requireState_309 hxc_309 (by decide +kernel) (by decide +kernel) mwX8_requireState_0 mwX8_requireState_1 (by decide +kernel) hxg_309 hP hS (hl.1.trans hml.symm) dX8_requireState_4 dX8_requireState_7 dX8_requireState_8 dX8_requireState_11 dX8_requireState_14 hex (Nat.le_of_ble_eq_true rfl) (Nat.le_of_ble_eq_true rfl) (Nat.le_of_ble_eq_true rfl) (Nat.le_of_ble_eq_true rfl) hlocks (Nat.le_of_ble_eq_true rfl) (Nat.le_of_ble_eq_true rfl)
def sX8_requireState (x0 : Int32) (σ : TS) : Option XR := sX8_requireState_0 x0 σ
theorem nVX8_requireState : yX8_requireState.cls ≠ "java/lang/invoke/MethodHandle" ∧ yX8_requireState.cls ≠ "java/lang/invoke/VarHandle" ∧ (parseMethodDescriptor yX8_requireState.desc).map (fun d => d.parameters.length) = some 1 := by decide +kernel
set_option maxHeartbeats 4000000 in
set_option maxRecDepth 100000 in
theorem mX8_requireState (l : Launch) (hlf : l.stackTraces = false) (hJ : gJ 78 q) {x0 : Int32} {σ : TS} {r : Int32 ⊕ Nat} {u : TS} (hp : sX8_requireState x0 σ = some (r, u)) : vx_Met l yX8_requireState wsX8_requireState rmX8_requireState (va_Pc [.int x0] (gPreX D vwCl (tyL cy) (gS 78 q (TX cy q) σ) (gA 78 q))) (gQxv D vwCl r (gS 78 q (TX cy q) u) (gA 78 q)) (gXx D vwCl r (gS 78 q (TX cy q) u) (gA 78 q)) 1 6 (gA 78 q) := by
  refine vx_ofW (cc := cX8_requireState) (maxL := 1) (ret := none) (by decide +kernel) rfl ?_
  intro p e s m args below meth c s₁ B hml hex hv
  obtain ⟨rfl, ⟨hP, hK⟩, hXP⟩ := hv
  have hl := lv_entry ([.int x0]) (n := 1) (Nat.le_of_ble_eq_true rfl)
  rw [lg_entry_eq]
  generalize (lg_sl ([.int x0]) ++ List.replicate (1 - (lg_sl ([.int x0])).length) Slot.unset).toArray = ls at hl ⊢
  have hl : lv_has ls 1 [(0, .int x0)] := hl
  exact kX8_requireState_0 ⟨B.exec, B.bytes, B.returns, hml, findClass_of_methodNamed B.named, atoms_spec (ws := wsX8_requireState) B.pre, B.notSynchronized⟩ hlf hXP hex hK hJ  hP va_S.rf hl hp
theorem miX8_shut_X1 : ∀ w ∈ u_ws RX1 TX1 14, w ∈ wsX8_shut := by decide +kernel
theorem miX8_shut_X8 : ∀ w ∈ u_ws RX8 TX8 16, w ∈ wsX8_shut := by decide +kernel
theorem mwX8_shut_0 : Cond.fieldLink RX8 11 "Triplane" "computers" "[LTriplane$Computer;" ∈ wsX8_shut := by decide +kernel
theorem mwX8_shut_1 : Cond.fieldLink RX8 162 "Triplane$Computer" "isRunning" "Z" ∈ wsX8_shut := by decide +kernel
abbrev rmX8_shut : Room := { frames := 7, cells := 2, slots := 12, locals := 111 }
def sX8_shut_28 (sx0 : Int32) (σ : TS) : Option XR := some (Sum.inl sx0, σ)
set_option maxHeartbeats 4000000 in
set_option maxRecDepth 100000 in
theorem kX8_shut_28 {r : Int32 ⊕ Nat} {u : TS} (C0 : gC RX8 cX8_shut 2 ((some .int)) wsX8_shut p s m args meth c) (hlf : l.stackTraces = false) (hXP : xPre (gA 78 q) s) (hex : ∀ x ∈ c.exceptionTable.toList, False) (hK : va_K D vwCl (tyL cy) s) (hJ : gJ 78 q) {H : Heap} {locs : List Loc} {σ : TS} {sx0 : Int32} (hP : va_P D vwCl (gS 78 q (TX cy q) σ) H) (hS : va_S (gA 78 q) s.heap H locs) {ls : Array Slot} (hl : lv_has ls 2 []) (hp : sX8_shut_28 sx0 σ = some (r, u)) : W p l e rmX8_shut s m args below meth c H locs 2 12 (vx_MQ below (gQx D vwCl r (gS 78 q (TX cy q) u) (gA 78 q)) (gXx D vwCl r (gS 78 q (TX cy q) u) (gA 78 q)) args s 2 12 (gA 78 q)) (F0 m 28 ls [.int sx0]) := by
  obtain ⟨hx, hb, hr, hml, hown, hts, hlocks⟩ := id C0
  unfold sX8_shut_28 at hp
  obtain ⟨rfl, rfl⟩ := o_r hp
  refine W.widen (k := 2) (n := 12) (Nat.le_of_ble_eq_true rfl) (Nat.le_of_ble_eq_true rfl) ?_
  refine vx_ret ?_
  exact W.iret (v := sx0) hx hb hr (fun t ht hW => ⟨⟨sx0, (), rfl, rfl, by subst ht; exact hP⟩, hS.F ht⟩) hS.2.2 dX8_shut_28
def sX8_shut_24 (σ : TS) : Option XR := ((sX8_countOn σ).bind (fun z => sX8_shut_28 z.1 z.2))
set_option maxHeartbeats 4000000 in
set_option maxRecDepth 100000 in
theorem kX8_shut_24 {r : Int32 ⊕ Nat} {u : TS} (C0 : gC RX8 cX8_shut 2 ((some .int)) wsX8_shut p s m args meth c) (hlf : l.stackTraces = false) (hXP : xPre (gA 78 q) s) (hex : ∀ x ∈ c.exceptionTable.toList, False) (hK : va_K D vwCl (tyL cy) s) (hJ : gJ 78 q) {H : Heap} {locs : List Loc} {σ : TS} (hP : va_P D vwCl (gS 78 q (TX cy q) σ) H) (hS : va_S (gA 78 q) s.heap H locs) {ls : Array Slot} (hl : lv_has ls 2 [(0, .ref (q (0)))]) (hp : sX8_shut_24 σ = some (r, u)) : W p l e rmX8_shut s m args below meth c H locs 2 12 (vx_MQ below (gQx D vwCl r (gS 78 q (TX cy q) u) (gA 78 q)) (gXx D vwCl r (gS 78 q (TX cy q) u) (gA 78 q)) args s 2 12 (gA 78 q)) (F0 m 24 ls []) := by
  obtain ⟨hx, hb, hr, hml, hown, hts, hlocks⟩ := id C0
  unfold sX8_shut_24 at hp
  refine lv_aload_n hx hb dX8_shut_24 rfl (lv_at hl 0 rfl) ?_
  obtain ⟨⟨r1, u2⟩, hq3, hp⟩ := o_b hp
  refine g_cVi (As := []) (rest := []) hx hb hml hown hts hK hP hS (mX8_countOn l hJ hq3) (cwV 0 hts gX8_shut_X8_countOn rfl rfl rfl nVX8_countOn ⟨Nat.le_of_ble_eq_true rfl, Nat.le_of_ble_eq_true rfl⟩) (g_recv hK hP (kk_Tri) (ce_Tri) rfl) rfl hl.1 rfl (Nat.le_of_ble_eq_true rfl) dX8_shut_25 ⟨Nat.le_of_ble_eq_true rfl, Nat.le_of_ble_eq_true rfl⟩ (fun H locs hP hS => ?_)
  exact kX8_shut_28 C0 hlf hXP hex hK hJ  hP hS (lv_sub hl [] rfl) hp
def sX8_shut_17 (x1 : Int32) (σ : TS) : Option XR := ((sX8_shutOff x1 ((104 : Int32)) σ).bind (fun z => sX8_shut_24 z.2))
set_option maxHeartbeats 4000000 in
set_option maxRecDepth 100000 in
theorem kX8_shut_17 {r : Int32 ⊕ Nat} {u : TS} (C0 : gC RX8 cX8_shut 2 ((some .int)) wsX8_shut p s m args meth c) (hlf : l.stackTraces = false) (hXP : xPre (gA 78 q) s) (hex : ∀ x ∈ c.exceptionTable.toList, False) (hK : va_K D vwCl (tyL cy) s) (hJ : gJ 78 q) {H : Heap} {locs : List Loc} {σ : TS} {x1 : Int32} (hP : va_P D vwCl (gS 78 q (TX cy q) σ) H) (hS : va_S (gA 78 q) s.heap H locs) {ls : Array Slot} (hl : lv_has ls 2 [(0, .ref (q (0))), (1, .int x1)]) (hp : sX8_shut_17 x1 σ = some (r, u)) : W p l e rmX8_shut s m args below meth c H locs 2 12 (vx_MQ below (gQx D vwCl r (gS 78 q (TX cy q) u) (gA 78 q)) (gXx D vwCl r (gS 78 q (TX cy q) u) (gA 78 q)) args s 2 12 (gA 78 q)) (F0 m 17 ls []) := by
  obtain ⟨hx, hb, hr, hml, hown, hts, hlocks⟩ := id C0
  unfold sX8_shut_17 at hp
  refine lv_aload_n hx hb dX8_shut_17 rfl (lv_at hl 0 rfl) ?_
  refine lv_iload_n hx hb dX8_shut_18 rfl (lv_at hl 1 rfl) ?_
  refine lv_bipush (v := (104 : Int32)) hx hb dX8_shut_19 (by decide) ?_
  obtain ⟨⟨r4, u5⟩, hq6, hp⟩ := o_b hp
  refine g_cVv (As := [.int x1, .int ((104 : Int32))]) (rest := []) hx hb hml hown hts hK hP hS (mX8_shutOff l hJ hq6) (cwV 2 hts gX8_shut_X8_shutOff rfl rfl rfl nVX8_shutOff ⟨Nat.le_of_ble_eq_true rfl, Nat.le_of_ble_eq_true rfl⟩) (g_recv hK hP (kk_Tri) (ce_Tri) rfl) rfl hl.1 rfl (Nat.le_of_ble_eq_true rfl) dX8_shut_21 ⟨Nat.le_of_ble_eq_true rfl, Nat.le_of_ble_eq_true rfl⟩ (fun H locs hP hS => ?_)
  exact kX8_shut_24 C0 hlf hXP hex hK hJ  hP hS (lv_sub hl [0] rfl) hp
def sX8_shut_5 (x1 : Int32) (σ : TS) : Option XR := (if vin x1 3 = true then ((sX8_requireState (σ (15+6*(x1.toNatClampNeg)) 6) σ).bind (fun z => o_x z (fun _ zs => sX8_shut_17 x1 zs))) else none)
set_option maxHeartbeats 4000000 in
set_option maxRecDepth 100000 in
theorem kX8_shut_5 {r : Int32 ⊕ Nat} {u : TS} (C0 : gC RX8 cX8_shut 2 ((some .int)) wsX8_shut p s m args meth c) (hlf : l.stackTraces = false) (hXP : xPre (gA 78 q) s) (hex : ∀ x ∈ c.exceptionTable.toList, False) (hK : va_K D vwCl (tyL cy) s) (hJ : gJ 78 q) {H : Heap} {locs : List Loc} {σ : TS} {x1 : Int32} (hP : va_P D vwCl (gS 78 q (TX cy q) σ) H) (hS : va_S (gA 78 q) s.heap H locs) {ls : Array Slot} (hl : lv_has ls 2 [(0, .ref (q (0))), (1, .int x1)]) (hp : sX8_shut_5 x1 σ = some (r, u)) : W p l e rmX8_shut s m args below meth c H locs 1 6 (vx_MQ below (gQx D vwCl r (gS 78 q (TX cy q) u) (gA 78 q)) (gXx D vwCl r (gS 78 q (TX cy q) u) (gA 78 q)) args s 2 12 (gA 78 q)) (F0 m 5 ls []) := by
  obtain ⟨hx, hb, hr, hml, hown, hts, hlocks⟩ := id C0
  unfold sX8_shut_5 at hp
  refine lv_aload_n hx hb dX8_shut_5 rfl (lv_at hl 0 rfl) ?_
  refine g_get (v := .ref (q (1))) hx hb hts miX8_shut_X8 hown hK hP (kk_Tri) (ce_Tri) rfl 0 (by decide) mwX8_shut_0 rfl dX8_shut_6 ?_
  refine lv_iload_n hx hb dX8_shut_9 rfl (lv_at hl 1 rfl) ?_
  obtain ⟨hi7, hp⟩ := o_chk hp
  have hn8 : x1.toNatClampNeg < 4 := Nat.lt_of_lt_of_le (vin_lt hi7) (by decide)
  refine g_aald (j := x1.toNatClampNeg) hx hb hK hP (kk_CompArr) (ce_CompArr) 3 rfl rfl (vin_of hi7) rfl dX8_shut_10 ?_
  refine g_get (v := .int (σ (15+6*(x1.toNatClampNeg)) 6)) hx hb hts miX8_shut_X1 hown hK hP (kk_Comp hn8) (ce_Comp hn8) rfl 6 (by decide) mwX8_shut_1 rfl dX8_shut_11 ?_
  obtain ⟨⟨r9, u10⟩, hq11, hp⟩ := o_b hp
  rcases r9 with r9 | r9
  · refine g_xSv (As := [.int (σ (15+6*(x1.toNatClampNeg)) 6)]) (rest := []) hx hb hml hown hts hK hXP hP hS (mX8_requireState l hlf hJ hq11) (va_cwS 1 hts gX8_shut_X8_requireState rfl rfl rfl nVX8_requireState ⟨Nat.le_of_ble_eq_true rfl, Nat.le_of_ble_eq_true rfl⟩) rfl hl.1 rfl (Nat.le_of_ble_eq_true rfl) dX8_shut_14 ⟨Nat.le_of_ble_eq_true rfl, Nat.le_of_ble_eq_true rfl⟩ (fun H locs hP hS => ?_)
    exact kX8_shut_17 C0 hlf hXP hex hK hJ  hP hS hl hp
  · obtain ⟨rfl, rfl⟩ := o_r (a := (Sum.inr r9 : Int32 ⊕ Nat)) (b := u10) hp
    exact g_xSt (As := [.int (σ (15+6*(x1.toNatClampNeg)) 6)]) (rest := []) hx hb hml hown hts hK hXP hP hS (mX8_requireState l hlf hJ hq11) (va_cwS 1 hts gX8_shut_X8_requireState rfl rfl rfl nVX8_requireState ⟨Nat.le_of_ble_eq_true rfl, Nat.le_of_ble_eq_true rfl⟩) rfl hl.1 rfl (Nat.le_of_ble_eq_true rfl) dX8_shut_14 ⟨Nat.le_of_ble_eq_true rfl, Nat.le_of_ble_eq_true rfl⟩ hex hlocks (Nat.le_of_ble_eq_true rfl) (Nat.le_of_ble_eq_true rfl)
def sX8_shut_0 (x1 : Int32) (σ : TS) : Option XR := ((sX8_requireIndex x1 ((3 : Int32)) σ).bind (fun z => o_x z (fun _ zs => sX8_shut_5 x1 zs)))
set_option maxHeartbeats 4000000 in
set_option maxRecDepth 100000 in
theorem kX8_shut_0 {r : Int32 ⊕ Nat} {u : TS} (C0 : gC RX8 cX8_shut 2 ((some .int)) wsX8_shut p s m args meth c) (hlf : l.stackTraces = false) (hXP : xPre (gA 78 q) s) (hex : ∀ x ∈ c.exceptionTable.toList, False) (hK : va_K D vwCl (tyL cy) s) (hJ : gJ 78 q) {H : Heap} {locs : List Loc} {σ : TS} {x1 : Int32} (hP : va_P D vwCl (gS 78 q (TX cy q) σ) H) (hS : va_S (gA 78 q) s.heap H locs) {ls : Array Slot} (hl : lv_has ls 2 [(0, .ref (q (0))), (1, .int x1)]) (hp : sX8_shut_0 x1 σ = some (r, u)) : W p l e rmX8_shut s m args below meth c H locs 0 0 (vx_MQ below (gQx D vwCl r (gS 78 q (TX cy q) u) (gA 78 q)) (gXx D vwCl r (gS 78 q (TX cy q) u) (gA 78 q)) args s 2 12 (gA 78 q)) (F0 m 0 ls []) := by
  obtain ⟨hx, hb, hr, hml, hown, hts, hlocks⟩ := id C0
  unfold sX8_shut_0 at hp
  refine lv_iload_n hx hb dX8_shut_0 rfl (lv_at hl 1 rfl) ?_
  refine lv_iconst (v := (3 : Int32)) hx hb dX8_shut_1 (by decide) ?_
  obtain ⟨⟨r12, u13⟩, hq14, hp⟩ := o_b hp
  rcases r12 with r12 | r12
  · refine g_xSv (As := [.int x1, .int ((3 : Int32))]) (rest := []) hx hb hml hown hts hK hXP hP hS (mX8_requireIndex l hlf hJ hq14) (va_cwS 2 hts gX8_shut_X8_requireIndex rfl rfl rfl nVX8_requireIndex ⟨Nat.le_of_ble_eq_true rfl, Nat.le_of_ble_eq_true rfl⟩) rfl hl.1 rfl (Nat.le_of_ble_eq_true rfl) dX8_shut_2 ⟨Nat.le_of_ble_eq_true rfl, Nat.le_of_ble_eq_true rfl⟩ (fun H locs hP hS => ?_)
    exact kX8_shut_5 C0 hlf hXP hex hK hJ  hP hS hl hp
  · obtain ⟨rfl, rfl⟩ := o_r (a := (Sum.inr r12 : Int32 ⊕ Nat)) (b := u13) hp
    exact g_xSt (As := [.int x1, .int ((3 : Int32))]) (rest := []) hx hb hml hown hts hK hXP hP hS (mX8_requireIndex l hlf hJ hq14) (va_cwS 2 hts gX8_shut_X8_requireIndex rfl rfl rfl nVX8_requireIndex ⟨Nat.le_of_ble_eq_true rfl, Nat.le_of_ble_eq_true rfl⟩) rfl hl.1 rfl (Nat.le_of_ble_eq_true rfl) dX8_shut_2 ⟨Nat.le_of_ble_eq_true rfl, Nat.le_of_ble_eq_true rfl⟩ hex hlocks (Nat.le_of_ble_eq_true rfl) (Nat.le_of_ble_eq_true rfl)
def sX8_shut (x1 : Int32) (σ : TS) : Option XR := sX8_shut_0 x1 σ
theorem nVX8_shut : yX8_shut.cls = RX8 ∧ yX8_shut.cls ≠ "java/lang/invoke/MethodHandle" ∧ yX8_shut.cls ≠ "java/lang/invoke/VarHandle" ∧ (parseMethodDescriptor yX8_shut.desc).map (fun d => d.parameters.length) = some 1 := by decide +kernel
set_option maxHeartbeats 4000000 in
set_option maxRecDepth 100000 in
theorem mX8_shut (l : Launch) (hlf : l.stackTraces = false) (hJ : gJ 78 q) {x1 : Int32} {σ : TS} {r : Int32 ⊕ Nat} {u : TS} (hp : sX8_shut x1 σ = some (r, u)) : vx_Met l yX8_shut wsX8_shut rmX8_shut (va_Pc [.ref (q (0)), .int x1] (gPreX D vwCl (tyL cy) (gS 78 q (TX cy q) σ) (gA 78 q))) (gQx D vwCl r (gS 78 q (TX cy q) u) (gA 78 q)) (gXx D vwCl r (gS 78 q (TX cy q) u) (gA 78 q)) 2 12 (gA 78 q) := by
  refine vx_ofW (cc := cX8_shut) (maxL := 2) (ret := (some .int)) (by decide +kernel) rfl ?_
  intro p e s m args below meth c s₁ B hml hex hv
  obtain ⟨rfl, ⟨hP, hK⟩, hXP⟩ := hv
  have hl := lv_entry ([.ref (q (0)), .int x1]) (n := 2) (Nat.le_of_ble_eq_true rfl)
  rw [lg_entry_eq]
  generalize (lg_sl ([.ref (q (0)), .int x1]) ++ List.replicate (2 - (lg_sl ([.ref (q (0)), .int x1])).length) Slot.unset).toArray = ls at hl ⊢
  have hl : lv_has ls 2 [(0, .ref (q (0))), (1, .int x1)] := hl
  exact kX8_shut_0 ⟨B.exec, B.bytes, B.returns, hml, findClass_of_methodNamed B.named, atoms_spec (ws := wsX8_shut) B.pre, B.notSynchronized⟩ hlf hXP hex hK hJ  hP va_S.rf hl hp
theorem miX8_test_X1 : ∀ w ∈ u_ws RX1 TX1 14, w ∈ wsX8_test := by decide +kernel
theorem miX8_test_X8 : ∀ w ∈ u_ws RX8 TX8 16, w ∈ wsX8_test := by decide +kernel
theorem mwX8_test_0 : Cond.fieldLink RX8 175 "Triplane$Computer" "isTested" "Z" ∈ wsX8_test := by decide +kernel
theorem mwX8_test_1 : Cond.fieldLink RX8 11 "Triplane" "computers" "[LTriplane$Computer;" ∈ wsX8_test := by decide +kernel
theorem mwX8_test_2 : Cond.fieldLink RX8 162 "Triplane$Computer" "isRunning" "Z" ∈ wsX8_test := by decide +kernel
abbrev rmX8_test : Room := { frames := 7, cells := 2, slots := 12, locals := 111 }
def sX8_test_31 (c2 : Nat) (sx0 : Int32) (σ : TS) : Option XR := (if sx0 = 0 then some (Sum.inl ((1 : Int32)), st2 σ (15+6*c2) 7 ((1 : Int32))) else some (Sum.inl ((0 : Int32)), σ))
set_option maxHeartbeats 4000000 in
set_option maxRecDepth 100000 in
theorem kX8_test_31 {r : Int32 ⊕ Nat} {u : TS} (C0 : gC RX8 cX8_test 3 ((some .boolean)) wsX8_test p s m args meth c) (hlf : l.stackTraces = false) (hXP : xPre (gA 78 q) s) (hex : ∀ x ∈ c.exceptionTable.toList, False) (hK : va_K D vwCl (tyL cy) s) (hJ : gJ 78 q) {H : Heap} {locs : List Loc} {σ : TS} {c2 : Nat} {sx0 : Int32} (hc2 : c2 < 4) (hP : va_P D vwCl (gS 78 q (TX cy q) σ) H) (hS : va_S (gA 78 q) s.heap H locs) {ls : Array Slot} (hl : lv_has ls 3 [(2, .ref (q (15+6*c2)))]) (hp : sX8_test_31 c2 sx0 σ = some (r, u)) : W p l e rmX8_test s m args below meth c H locs 2 12 (vx_MQ below (gQx D vwCl r (gS 78 q (TX cy q) u) (gA 78 q)) (gXx D vwCl r (gS 78 q (TX cy q) u) (gA 78 q)) args s 2 12 (gA 78 q)) (F0 m 31 ls [.int sx0]) := by
  obtain ⟨hx, hb, hr, hml, hown, hts, hlocks⟩ := id C0
  unfold sX8_test_31 at hp
  refine lv_if_eq (tgt := 36) hx hb dX8_test_31 (by decide) (fun hcd1 => ?_) (fun hcd1 => ?_)
  · have hp := o_t hp hcd1
    refine lv_aload_n hx hb dX8_test_36 rfl (lv_at hl 0 rfl) ?_
    refine lv_iconst (v := (1 : Int32)) hx hb dX8_test_37 (by decide) ?_
    refine g_put (v := (1 : Int32)) hx hb hts miX8_test_X1 tyX1 tyX1_ok nmX1 hown hK hJ hP hS (kk_Comp hc2) (ce_Comp hc2) rfl 7 (by decide) mwX8_test_0 rfl (zok_n (by decide)).1 (zok_n (by decide)).2 (Nat.le_of_ble_eq_true rfl) rfl dX8_test_38 (fun H locs hP hS => ?_)
    refine lv_iconst (v := (1 : Int32)) hx hb dX8_test_41 (by decide) ?_
    obtain ⟨rfl, rfl⟩ := o_r hp
    refine W.widen (k := 2) (n := 12) (Nat.le_of_ble_eq_true rfl) (Nat.le_of_ble_eq_true rfl) ?_
    refine vx_ret ?_
    exact W.zret (v := (1 : Int32)) hx hb hr (zok_n (by decide)).1 (fun t ht hW => ⟨⟨(1 : Int32), (), rfl, rfl, by subst ht; exact hP⟩, hS.F ht⟩) hS.2.2 dX8_test_42
  · have hp := o_f hp hcd1
    refine lv_iconst (v := (0 : Int32)) hx hb dX8_test_34 (by decide) ?_
    obtain ⟨rfl, rfl⟩ := o_r hp
    refine W.widen (k := 2) (n := 12) (Nat.le_of_ble_eq_true rfl) (Nat.le_of_ble_eq_true rfl) ?_
    refine vx_ret ?_
    exact W.zret (v := (0 : Int32)) hx hb hr (zok_n (by decide)).1 (fun t ht hW => ⟨⟨(0 : Int32), (), rfl, rfl, by subst ht; exact hP⟩, hS.F ht⟩) hS.2.2 dX8_test_35
def sX8_test_27 (c2 : Nat) (σ : TS) : Option XR := ((sX1_hasStuckBit c2 σ).bind (fun z => sX8_test_31 c2 z.1 z.2))
set_option maxHeartbeats 4000000 in
set_option maxRecDepth 100000 in
theorem kX8_test_27 {r : Int32 ⊕ Nat} {u : TS} (C0 : gC RX8 cX8_test 3 ((some .boolean)) wsX8_test p s m args meth c) (hlf : l.stackTraces = false) (hXP : xPre (gA 78 q) s) (hex : ∀ x ∈ c.exceptionTable.toList, False) (hK : va_K D vwCl (tyL cy) s) (hJ : gJ 78 q) {H : Heap} {locs : List Loc} {σ : TS} {c2 : Nat} (hc2 : c2 < 4) (hP : va_P D vwCl (gS 78 q (TX cy q) σ) H) (hS : va_S (gA 78 q) s.heap H locs) {ls : Array Slot} (hl : lv_has ls 3 [(2, .ref (q (15+6*c2)))]) (hp : sX8_test_27 c2 σ = some (r, u)) : W p l e rmX8_test s m args below meth c H locs 2 12 (vx_MQ below (gQx D vwCl r (gS 78 q (TX cy q) u) (gA 78 q)) (gXx D vwCl r (gS 78 q (TX cy q) u) (gA 78 q)) args s 2 12 (gA 78 q)) (F0 m 27 ls []) := by
  obtain ⟨hx, hb, hr, hml, hown, hts, hlocks⟩ := id C0
  unfold sX8_test_27 at hp
  refine lv_aload_n hx hb dX8_test_27 rfl (lv_at hl 0 rfl) ?_
  obtain ⟨⟨r2, u3⟩, hq4, hp⟩ := o_b hp
  refine g_cVi (As := []) (rest := []) hx hb hml hown hts hK hP hS (mX1_hasStuckBit l hJ hc2 hq4) (cwV 0 hts gX8_test_X1_hasStuckBit rfl rfl rfl nVX1_hasStuckBit ⟨Nat.le_of_ble_eq_true rfl, Nat.le_of_ble_eq_true rfl⟩) (g_recv hK hP (kk_Comp hc2) (ce_Comp hc2) rfl) rfl hl.1 rfl (Nat.le_of_ble_eq_true rfl) dX8_test_28 ⟨Nat.le_of_ble_eq_true rfl, Nat.le_of_ble_eq_true rfl⟩ (fun H locs hP hS => ?_)
  exact kX8_test_31 C0 hlf hXP hex hK hJ hc2 hP hS hl hp
def sX8_test_24 (c2 : Nat) (sx0 : Int32) (σ : TS) : Option XR := ((sX8_requireState sx0 σ).bind (fun z => o_x z (fun _ zs => sX8_test_27 c2 zs)))
set_option maxHeartbeats 4000000 in
set_option maxRecDepth 100000 in
theorem kX8_test_24 {r : Int32 ⊕ Nat} {u : TS} (C0 : gC RX8 cX8_test 3 ((some .boolean)) wsX8_test p s m args meth c) (hlf : l.stackTraces = false) (hXP : xPre (gA 78 q) s) (hex : ∀ x ∈ c.exceptionTable.toList, False) (hK : va_K D vwCl (tyL cy) s) (hJ : gJ 78 q) {H : Heap} {locs : List Loc} {σ : TS} {c2 : Nat} {sx0 : Int32} (hc2 : c2 < 4) (hP : va_P D vwCl (gS 78 q (TX cy q) σ) H) (hS : va_S (gA 78 q) s.heap H locs) {ls : Array Slot} (hl : lv_has ls 3 [(2, .ref (q (15+6*c2)))]) (hp : sX8_test_24 c2 sx0 σ = some (r, u)) : W p l e rmX8_test s m args below meth c H locs 1 6 (vx_MQ below (gQx D vwCl r (gS 78 q (TX cy q) u) (gA 78 q)) (gXx D vwCl r (gS 78 q (TX cy q) u) (gA 78 q)) args s 2 12 (gA 78 q)) (F0 m 24 ls [.int sx0]) := by
  obtain ⟨hx, hb, hr, hml, hown, hts, hlocks⟩ := id C0
  unfold sX8_test_24 at hp
  obtain ⟨⟨r5, u6⟩, hq7, hp⟩ := o_b hp
  rcases r5 with r5 | r5
  · refine g_xSv (As := [.int sx0]) (rest := []) hx hb hml hown hts hK hXP hP hS (mX8_requireState l hlf hJ hq7) (va_cwS 1 hts gX8_test_X8_requireState rfl rfl rfl nVX8_requireState ⟨Nat.le_of_ble_eq_true rfl, Nat.le_of_ble_eq_true rfl⟩) rfl hl.1 rfl (Nat.le_of_ble_eq_true rfl) dX8_test_24 ⟨Nat.le_of_ble_eq_true rfl, Nat.le_of_ble_eq_true rfl⟩ (fun H locs hP hS => ?_)
    exact kX8_test_27 C0 hlf hXP hex hK hJ hc2 hP hS hl hp
  · obtain ⟨rfl, rfl⟩ := o_r (a := (Sum.inr r5 : Int32 ⊕ Nat)) (b := u6) hp
    exact g_xSt (As := [.int sx0]) (rest := []) hx hb hml hown hts hK hXP hP hS (mX8_requireState l hlf hJ hq7) (va_cwS 1 hts gX8_test_X8_requireState rfl rfl rfl nVX8_requireState ⟨Nat.le_of_ble_eq_true rfl, Nat.le_of_ble_eq_true rfl⟩) rfl hl.1 rfl (Nat.le_of_ble_eq_true rfl) dX8_test_24 ⟨Nat.le_of_ble_eq_true rfl, Nat.le_of_ble_eq_true rfl⟩ hex hlocks (Nat.le_of_ble_eq_true rfl) (Nat.le_of_ble_eq_true rfl)
def sX8_test_5 (x1 : Int32) (σ : TS) : Option XR := (if vin x1 3 = true then (if (σ (15+6*(x1.toNatClampNeg)) 6) = 0 then sX8_test_24 (x1.toNatClampNeg) ((1 : Int32)) σ else sX8_test_24 (x1.toNatClampNeg) ((0 : Int32)) σ) else none)
set_option maxHeartbeats 4000000 in
set_option maxRecDepth 100000 in
theorem kX8_test_5 {r : Int32 ⊕ Nat} {u : TS} (C0 : gC RX8 cX8_test 3 ((some .boolean)) wsX8_test p s m args meth c) (hlf : l.stackTraces = false) (hXP : xPre (gA 78 q) s) (hex : ∀ x ∈ c.exceptionTable.toList, False) (hK : va_K D vwCl (tyL cy) s) (hJ : gJ 78 q) {H : Heap} {locs : List Loc} {σ : TS} {x1 : Int32} (hP : va_P D vwCl (gS 78 q (TX cy q) σ) H) (hS : va_S (gA 78 q) s.heap H locs) {ls : Array Slot} (hl : lv_has ls 3 [(0, .ref (q (0))), (1, .int x1)]) (hp : sX8_test_5 x1 σ = some (r, u)) : W p l e rmX8_test s m args below meth c H locs 1 6 (vx_MQ below (gQx D vwCl r (gS 78 q (TX cy q) u) (gA 78 q)) (gXx D vwCl r (gS 78 q (TX cy q) u) (gA 78 q)) args s 2 12 (gA 78 q)) (F0 m 5 ls []) := by
  obtain ⟨hx, hb, hr, hml, hown, hts, hlocks⟩ := id C0
  unfold sX8_test_5 at hp
  refine lv_aload_n hx hb dX8_test_5 rfl (lv_at hl 0 rfl) ?_
  refine g_get (v := .ref (q (1))) hx hb hts miX8_test_X8 hown hK hP (kk_Tri) (ce_Tri) rfl 0 (by decide) mwX8_test_1 rfl dX8_test_6 ?_
  refine lv_iload_n hx hb dX8_test_9 rfl (lv_at hl 1 rfl) ?_
  obtain ⟨hi8, hp⟩ := o_chk hp
  have hn9 : x1.toNatClampNeg < 4 := Nat.lt_of_lt_of_le (vin_lt hi8) (by decide)
  refine g_aald (j := x1.toNatClampNeg) hx hb hK hP (kk_CompArr) (ce_CompArr) 3 rfl rfl (vin_of hi8) rfl dX8_test_10 ?_
  refine lv_astore_n (lv' := [(2, .ref (q (15+6*x1.toNatClampNeg))), (0, .ref (q (0))), (1, .int x1)]) hx hb dX8_test_11 rfl hl (by decide) rfl (fun ls hl => ?_)
  refine lv_aload_n hx hb dX8_test_12 rfl (lv_at hl 0 rfl) ?_
  refine g_get (v := .int (σ (15+6*(x1.toNatClampNeg)) 6)) hx hb hts miX8_test_X1 hown hK hP (kk_Comp hn9) (ce_Comp hn9) rfl 6 (by decide) mwX8_test_2 rfl dX8_test_13 ?_
  refine lv_if_ne (tgt := 23) hx hb dX8_test_16 (by decide) (fun hcd10 => ?_) (fun hcd10 => ?_)
  · have hp := o_f hp hcd10
    refine lv_iconst (v := (0 : Int32)) hx hb dX8_test_23 (by decide) ?_
    exact kX8_test_24 C0 hlf hXP hex hK hJ hn9 hP hS (lv_sub hl [0] rfl) hp
  · have hp := o_t hp hcd10
    refine lv_iconst (v := (1 : Int32)) hx hb dX8_test_19 (by decide) ?_
    refine lv_goto (tgt := 24) hx hb dX8_test_20 (by decide) ?_
    exact kX8_test_24 C0 hlf hXP hex hK hJ hn9 hP hS (lv_sub hl [0] rfl) hp
def sX8_test_0 (x1 : Int32) (σ : TS) : Option XR := ((sX8_requireIndex x1 ((3 : Int32)) σ).bind (fun z => o_x z (fun _ zs => sX8_test_5 x1 zs)))
set_option maxHeartbeats 4000000 in
set_option maxRecDepth 100000 in
theorem kX8_test_0 {r : Int32 ⊕ Nat} {u : TS} (C0 : gC RX8 cX8_test 3 ((some .boolean)) wsX8_test p s m args meth c) (hlf : l.stackTraces = false) (hXP : xPre (gA 78 q) s) (hex : ∀ x ∈ c.exceptionTable.toList, False) (hK : va_K D vwCl (tyL cy) s) (hJ : gJ 78 q) {H : Heap} {locs : List Loc} {σ : TS} {x1 : Int32} (hP : va_P D vwCl (gS 78 q (TX cy q) σ) H) (hS : va_S (gA 78 q) s.heap H locs) {ls : Array Slot} (hl : lv_has ls 3 [(0, .ref (q (0))), (1, .int x1)]) (hp : sX8_test_0 x1 σ = some (r, u)) : W p l e rmX8_test s m args below meth c H locs 0 0 (vx_MQ below (gQx D vwCl r (gS 78 q (TX cy q) u) (gA 78 q)) (gXx D vwCl r (gS 78 q (TX cy q) u) (gA 78 q)) args s 2 12 (gA 78 q)) (F0 m 0 ls []) := by
  obtain ⟨hx, hb, hr, hml, hown, hts, hlocks⟩ := id C0
  unfold sX8_test_0 at hp
  refine lv_iload_n hx hb dX8_test_0 rfl (lv_at hl 1 rfl) ?_
  refine lv_iconst (v := (3 : Int32)) hx hb dX8_test_1 (by decide) ?_
  obtain ⟨⟨r11, u12⟩, hq13, hp⟩ := o_b hp
  rcases r11 with r11 | r11
  · refine g_xSv (As := [.int x1, .int ((3 : Int32))]) (rest := []) hx hb hml hown hts hK hXP hP hS (mX8_requireIndex l hlf hJ hq13) (va_cwS 2 hts gX8_test_X8_requireIndex rfl rfl rfl nVX8_requireIndex ⟨Nat.le_of_ble_eq_true rfl, Nat.le_of_ble_eq_true rfl⟩) rfl hl.1 rfl (Nat.le_of_ble_eq_true rfl) dX8_test_2 ⟨Nat.le_of_ble_eq_true rfl, Nat.le_of_ble_eq_true rfl⟩ (fun H locs hP hS => ?_)
    exact kX8_test_5 C0 hlf hXP hex hK hJ  hP hS hl hp
  · obtain ⟨rfl, rfl⟩ := o_r (a := (Sum.inr r11 : Int32 ⊕ Nat)) (b := u12) hp
    exact g_xSt (As := [.int x1, .int ((3 : Int32))]) (rest := []) hx hb hml hown hts hK hXP hP hS (mX8_requireIndex l hlf hJ hq13) (va_cwS 2 hts gX8_test_X8_requireIndex rfl rfl rfl nVX8_requireIndex ⟨Nat.le_of_ble_eq_true rfl, Nat.le_of_ble_eq_true rfl⟩) rfl hl.1 rfl (Nat.le_of_ble_eq_true rfl) dX8_test_2 ⟨Nat.le_of_ble_eq_true rfl, Nat.le_of_ble_eq_true rfl⟩ hex hlocks (Nat.le_of_ble_eq_true rfl) (Nat.le_of_ble_eq_true rfl)
def sX8_test (x1 : Int32) (σ : TS) : Option XR := sX8_test_0 x1 σ
theorem nVX8_test : yX8_test.cls = RX8 ∧ yX8_test.cls ≠ "java/lang/invoke/MethodHandle" ∧ yX8_test.cls ≠ "java/lang/invoke/VarHandle" ∧ (parseMethodDescriptor yX8_test.desc).map (fun d => d.parameters.length) = some 1 := by decide +kernel
set_option maxHeartbeats 4000000 in
set_option maxRecDepth 100000 in
theorem mX8_test (l : Launch) (hlf : l.stackTraces = false) (hJ : gJ 78 q) {x1 : Int32} {σ : TS} {r : Int32 ⊕ Nat} {u : TS} (hp : sX8_test x1 σ = some (r, u)) : vx_Met l yX8_test wsX8_test rmX8_test (va_Pc [.ref (q (0)), .int x1] (gPreX D vwCl (tyL cy) (gS 78 q (TX cy q) σ) (gA 78 q))) (gQx D vwCl r (gS 78 q (TX cy q) u) (gA 78 q)) (gXx D vwCl r (gS 78 q (TX cy q) u) (gA 78 q)) 2 12 (gA 78 q) := by
  refine vx_ofW (cc := cX8_test) (maxL := 3) (ret := (some .boolean)) (by decide +kernel) rfl ?_
  intro p e s m args below meth c s₁ B hml hex hv
  obtain ⟨rfl, ⟨hP, hK⟩, hXP⟩ := hv
  have hl := lv_entry ([.ref (q (0)), .int x1]) (n := 3) (Nat.le_of_ble_eq_true rfl)
  rw [lg_entry_eq]
  generalize (lg_sl ([.ref (q (0)), .int x1]) ++ List.replicate (3 - (lg_sl ([.ref (q (0)), .int x1])).length) Slot.unset).toArray = ls at hl ⊢
  have hl : lv_has ls 3 [(0, .ref (q (0))), (1, .int x1)] := hl
  exact kX8_test_0 ⟨B.exec, B.bytes, B.returns, hml, findClass_of_methodNamed B.named, atoms_spec (ws := wsX8_test) B.pre, B.notSynchronized⟩ hlf hXP hex hK hJ  hP va_S.rf hl hp
theorem miX8_back_X1 : ∀ w ∈ u_ws RX1 TX1 14, w ∈ wsX8_back := by decide +kernel
theorem miX8_back_X8 : ∀ w ∈ u_ws RX8 TX8 16, w ∈ wsX8_back := by decide +kernel
theorem mwX8_back_0 : Cond.fieldLink RX8 59 "Triplane" "log" "LTriplane$Log;" ∈ wsX8_back := by decide +kernel
theorem mwX8_back_1 : Cond.fieldLink RX8 63 "Triplane" "frames" "I" ∈ wsX8_back := by decide +kernel
theorem mwX8_back_2 : Cond.fieldLink RX8 11 "Triplane" "computers" "[LTriplane$Computer;" ∈ wsX8_back := by decide +kernel
theorem mwX8_back_3 : Cond.fieldLink RX8 162 "Triplane$Computer" "isRunning" "Z" ∈ wsX8_back := by decide +kernel
theorem mwX8_back_4 : Cond.fieldLink RX8 175 "Triplane$Computer" "isTested" "Z" ∈ wsX8_back := by decide +kernel
abbrev rmX8_back : Room := { frames := 7, cells := 2, slots := 12, locals := 111 }
def sX8_back_72 (sx0 : Int32) (σ : TS) : Option XR := some (Sum.inl sx0, σ)
set_option maxHeartbeats 4000000 in
set_option maxRecDepth 100000 in
theorem kX8_back_72 {r : Int32 ⊕ Nat} {u : TS} (C0 : gC RX8 cX8_back 4 ((some .int)) wsX8_back p s m args meth c) (hlf : l.stackTraces = false) (hXP : xPre (gA 78 q) s) (hex : ∀ x ∈ c.exceptionTable.toList, False) (hK : va_K D vwCl (tyL cy) s) (hJ : gJ 78 q) {H : Heap} {locs : List Loc} {σ : TS} {sx0 : Int32} (hP : va_P D vwCl (gS 78 q (TX cy q) σ) H) (hS : va_S (gA 78 q) s.heap H locs) {ls : Array Slot} (hl : lv_has ls 4 []) (hp : sX8_back_72 sx0 σ = some (r, u)) : W p l e rmX8_back s m args below meth c H locs 2 12 (vx_MQ below (gQx D vwCl r (gS 78 q (TX cy q) u) (gA 78 q)) (gXx D vwCl r (gS 78 q (TX cy q) u) (gA 78 q)) args s 2 12 (gA 78 q)) (F0 m 72 ls [.int sx0]) := by
  obtain ⟨hx, hb, hr, hml, hown, hts, hlocks⟩ := id C0
  unfold sX8_back_72 at hp
  obtain ⟨rfl, rfl⟩ := o_r hp
  refine W.widen (k := 2) (n := 12) (Nat.le_of_ble_eq_true rfl) (Nat.le_of_ble_eq_true rfl) ?_
  refine vx_ret ?_
  exact W.iret (v := sx0) hx hb hr (fun t ht hW => ⟨⟨sx0, (), rfl, rfl, by subst ht; exact hP⟩, hS.F ht⟩) hS.2.2 dX8_back_72
def sX8_back_68 (σ : TS) : Option XR := ((sX8_countOn σ).bind (fun z => sX8_back_72 z.1 z.2))
set_option maxHeartbeats 4000000 in
set_option maxRecDepth 100000 in
theorem kX8_back_68 {r : Int32 ⊕ Nat} {u : TS} (C0 : gC RX8 cX8_back 4 ((some .int)) wsX8_back p s m args meth c) (hlf : l.stackTraces = false) (hXP : xPre (gA 78 q) s) (hex : ∀ x ∈ c.exceptionTable.toList, False) (hK : va_K D vwCl (tyL cy) s) (hJ : gJ 78 q) {H : Heap} {locs : List Loc} {σ : TS} (hP : va_P D vwCl (gS 78 q (TX cy q) σ) H) (hS : va_S (gA 78 q) s.heap H locs) {ls : Array Slot} (hl : lv_has ls 4 [(0, .ref (q (0)))]) (hp : sX8_back_68 σ = some (r, u)) : W p l e rmX8_back s m args below meth c H locs 2 12 (vx_MQ below (gQx D vwCl r (gS 78 q (TX cy q) u) (gA 78 q)) (gXx D vwCl r (gS 78 q (TX cy q) u) (gA 78 q)) args s 2 12 (gA 78 q)) (F0 m 68 ls []) := by
  obtain ⟨hx, hb, hr, hml, hown, hts, hlocks⟩ := id C0
  unfold sX8_back_68 at hp
  refine lv_aload_n hx hb dX8_back_68 rfl (lv_at hl 0 rfl) ?_
  obtain ⟨⟨r1, u2⟩, hq3, hp⟩ := o_b hp
  refine g_cVi (As := []) (rest := []) hx hb hml hown hts hK hP hS (mX8_countOn l hJ hq3) (cwV 0 hts gX8_back_X8_countOn rfl rfl rfl nVX8_countOn ⟨Nat.le_of_ble_eq_true rfl, Nat.le_of_ble_eq_true rfl⟩) (g_recv hK hP (kk_Tri) (ce_Tri) rfl) rfl hl.1 rfl (Nat.le_of_ble_eq_true rfl) dX8_back_69 ⟨Nat.le_of_ble_eq_true rfl, Nat.le_of_ble_eq_true rfl⟩ (fun H locs hP hS => ?_)
  exact kX8_back_72 C0 hlf hXP hex hK hJ  hP hS (lv_sub hl [] rfl) hp
def sX8_back_54 (x1 : Int32) (σ : TS) : Option XR := ((sX3_append (σ 0 10) x1 ((98 : Int32)) σ).bind (fun z => sX8_back_68 z.2))
set_option maxHeartbeats 4000000 in
set_option maxRecDepth 100000 in
theorem kX8_back_54 {r : Int32 ⊕ Nat} {u : TS} (C0 : gC RX8 cX8_back 4 ((some .int)) wsX8_back p s m args meth c) (hlf : l.stackTraces = false) (hXP : xPre (gA 78 q) s) (hex : ∀ x ∈ c.exceptionTable.toList, False) (hK : va_K D vwCl (tyL cy) s) (hJ : gJ 78 q) {H : Heap} {locs : List Loc} {σ : TS} {x1 : Int32} (hP : va_P D vwCl (gS 78 q (TX cy q) σ) H) (hS : va_S (gA 78 q) s.heap H locs) {ls : Array Slot} (hl : lv_has ls 4 [(0, .ref (q (0))), (1, .int x1)]) (hp : sX8_back_54 x1 σ = some (r, u)) : W p l e rmX8_back s m args below meth c H locs 2 12 (vx_MQ below (gQx D vwCl r (gS 78 q (TX cy q) u) (gA 78 q)) (gXx D vwCl r (gS 78 q (TX cy q) u) (gA 78 q)) args s 2 12 (gA 78 q)) (F0 m 54 ls []) := by
  obtain ⟨hx, hb, hr, hml, hown, hts, hlocks⟩ := id C0
  unfold sX8_back_54 at hp
  refine lv_aload_n hx hb dX8_back_54 rfl (lv_at hl 0 rfl) ?_
  refine g_get (v := .ref (q (11))) hx hb hts miX8_back_X8 hown hK hP (kk_Tri) (ce_Tri) rfl 9 (by decide) mwX8_back_0 rfl dX8_back_55 ?_
  refine lv_aload_n hx hb dX8_back_58 rfl (lv_at hl 0 rfl) ?_
  refine g_get (v := .int (σ 0 10)) hx hb hts miX8_back_X8 hown hK hP (kk_Tri) (ce_Tri) rfl 10 (by decide) mwX8_back_1 rfl dX8_back_59 ?_
  refine lv_iload_n hx hb dX8_back_62 rfl (lv_at hl 1 rfl) ?_
  refine lv_bipush (v := (98 : Int32)) hx hb dX8_back_63 (by decide) ?_
  obtain ⟨⟨r4, u5⟩, hq6, hp⟩ := o_b hp
  refine g_cVv (As := [.int (σ 0 10), .int x1, .int ((98 : Int32))]) (rest := []) hx hb hml hown hts hK hP hS (mX3_append l hJ hq6) (cwV 3 hts gX8_back_X3_append rfl rfl rfl nVX3_append ⟨Nat.le_of_ble_eq_true rfl, Nat.le_of_ble_eq_true rfl⟩) (g_recv hK hP (kk_Log) (ce_Log) rfl) rfl hl.1 rfl (Nat.le_of_ble_eq_true rfl) dX8_back_65 ⟨Nat.le_of_ble_eq_true rfl, Nat.le_of_ble_eq_true rfl⟩ (fun H locs hP hS => ?_)
  exact kX8_back_68 C0 hlf hXP hex hK hJ  hP hS (lv_sub hl [0] rfl) hp
def sX8_back_44 (c2 : Nat) (x1 : Int32) (x3 : Int32) (σ : TS) : Option XR := (if vin x3 3 = true then ((sX1_resumeLike c2 (x3.toNatClampNeg) σ).bind (fun z => sX8_back_54 x1 z.2)) else none)
set_option maxHeartbeats 4000000 in
set_option maxRecDepth 100000 in
theorem kX8_back_44 {r : Int32 ⊕ Nat} {u : TS} (C0 : gC RX8 cX8_back 4 ((some .int)) wsX8_back p s m args meth c) (hlf : l.stackTraces = false) (hXP : xPre (gA 78 q) s) (hex : ∀ x ∈ c.exceptionTable.toList, False) (hK : va_K D vwCl (tyL cy) s) (hJ : gJ 78 q) {H : Heap} {locs : List Loc} {σ : TS} {c2 : Nat} {x1 : Int32} {x3 : Int32} (hc2 : c2 < 4) (hP : va_P D vwCl (gS 78 q (TX cy q) σ) H) (hS : va_S (gA 78 q) s.heap H locs) {ls : Array Slot} (hl : lv_has ls 4 [(0, .ref (q (0))), (1, .int x1), (2, .ref (q (15+6*c2))), (3, .int x3)]) (hp : sX8_back_44 c2 x1 x3 σ = some (r, u)) : W p l e rmX8_back s m args below meth c H locs 2 12 (vx_MQ below (gQx D vwCl r (gS 78 q (TX cy q) u) (gA 78 q)) (gXx D vwCl r (gS 78 q (TX cy q) u) (gA 78 q)) args s 2 12 (gA 78 q)) (F0 m 44 ls []) := by
  obtain ⟨hx, hb, hr, hml, hown, hts, hlocks⟩ := id C0
  unfold sX8_back_44 at hp
  refine lv_aload_n hx hb dX8_back_44 rfl (lv_at hl 2 rfl) ?_
  refine lv_aload_n hx hb dX8_back_45 rfl (lv_at hl 0 rfl) ?_
  refine g_get (v := .ref (q (1))) hx hb hts miX8_back_X8 hown hK hP (kk_Tri) (ce_Tri) rfl 0 (by decide) mwX8_back_2 rfl dX8_back_46 ?_
  refine lv_iload_n hx hb dX8_back_49 rfl (lv_at hl 3 rfl) ?_
  obtain ⟨hi7, hp⟩ := o_chk hp
  have hn8 : x3.toNatClampNeg < 4 := Nat.lt_of_lt_of_le (vin_lt hi7) (by decide)
  refine g_aald (j := x3.toNatClampNeg) hx hb hK hP (kk_CompArr) (ce_CompArr) 3 rfl rfl (vin_of hi7) rfl dX8_back_50 ?_
  obtain ⟨⟨r9, u10⟩, hq11, hp⟩ := o_b hp
  refine g_cVv (As := [.ref (q (15+6*x3.toNatClampNeg))]) (rest := []) hx hb hml hown hts hK hP hS (mX1_resumeLike l hJ hc2 hn8 hq11) (cwV 1 hts gX8_back_X1_resumeLike rfl rfl rfl nVX1_resumeLike ⟨Nat.le_of_ble_eq_true rfl, Nat.le_of_ble_eq_true rfl⟩) (g_recv hK hP (kk_Comp hc2) (ce_Comp hc2) rfl) rfl hl.1 rfl (Nat.le_of_ble_eq_true rfl) dX8_back_51 ⟨Nat.le_of_ble_eq_true rfl, Nat.le_of_ble_eq_true rfl⟩ (fun H locs hP hS => ?_)
  exact kX8_back_54 C0 hlf hXP hex hK hJ  hP hS (lv_sub hl [0, 1] rfl) hp
def sX8_back_41 (c2 : Nat) (x1 : Int32) (x3 : Int32) (sx0 : Int32) (σ : TS) : Option XR := ((sX8_requireState sx0 σ).bind (fun z => o_x z (fun _ zs => sX8_back_44 c2 x1 x3 zs)))
set_option maxHeartbeats 4000000 in
set_option maxRecDepth 100000 in
theorem kX8_back_41 {r : Int32 ⊕ Nat} {u : TS} (C0 : gC RX8 cX8_back 4 ((some .int)) wsX8_back p s m args meth c) (hlf : l.stackTraces = false) (hXP : xPre (gA 78 q) s) (hex : ∀ x ∈ c.exceptionTable.toList, False) (hK : va_K D vwCl (tyL cy) s) (hJ : gJ 78 q) {H : Heap} {locs : List Loc} {σ : TS} {c2 : Nat} {x1 : Int32} {x3 : Int32} {sx0 : Int32} (hc2 : c2 < 4) (hP : va_P D vwCl (gS 78 q (TX cy q) σ) H) (hS : va_S (gA 78 q) s.heap H locs) {ls : Array Slot} (hl : lv_has ls 4 [(0, .ref (q (0))), (1, .int x1), (2, .ref (q (15+6*c2))), (3, .int x3)]) (hp : sX8_back_41 c2 x1 x3 sx0 σ = some (r, u)) : W p l e rmX8_back s m args below meth c H locs 1 6 (vx_MQ below (gQx D vwCl r (gS 78 q (TX cy q) u) (gA 78 q)) (gXx D vwCl r (gS 78 q (TX cy q) u) (gA 78 q)) args s 2 12 (gA 78 q)) (F0 m 41 ls [.int sx0]) := by
  obtain ⟨hx, hb, hr, hml, hown, hts, hlocks⟩ := id C0
  unfold sX8_back_41 at hp
  obtain ⟨⟨r12, u13⟩, hq14, hp⟩ := o_b hp
  rcases r12 with r12 | r12
  · refine g_xSv (As := [.int sx0]) (rest := []) hx hb hml hown hts hK hXP hP hS (mX8_requireState l hlf hJ hq14) (va_cwS 1 hts gX8_back_X8_requireState rfl rfl rfl nVX8_requireState ⟨Nat.le_of_ble_eq_true rfl, Nat.le_of_ble_eq_true rfl⟩) rfl hl.1 rfl (Nat.le_of_ble_eq_true rfl) dX8_back_41 ⟨Nat.le_of_ble_eq_true rfl, Nat.le_of_ble_eq_true rfl⟩ (fun H locs hP hS => ?_)
    exact kX8_back_44 C0 hlf hXP hex hK hJ hc2 hP hS hl hp
  · obtain ⟨rfl, rfl⟩ := o_r (a := (Sum.inr r12 : Int32 ⊕ Nat)) (b := u13) hp
    exact g_xSt (As := [.int sx0]) (rest := []) hx hb hml hown hts hK hXP hP hS (mX8_requireState l hlf hJ hq14) (va_cwS 1 hts gX8_back_X8_requireState rfl rfl rfl nVX8_requireState ⟨Nat.le_of_ble_eq_true rfl, Nat.le_of_ble_eq_true rfl⟩) rfl hl.1 rfl (Nat.le_of_ble_eq_true rfl) dX8_back_41 ⟨Nat.le_of_ble_eq_true rfl, Nat.le_of_ble_eq_true rfl⟩ hex hlocks (Nat.le_of_ble_eq_true rfl) (Nat.le_of_ble_eq_true rfl)
def sX8_back_40 (c2 : Nat) (x1 : Int32) (x3 : Int32) (σ : TS) : Option XR := sX8_back_41 c2 x1 x3 ((0 : Int32)) σ
set_option maxHeartbeats 4000000 in
set_option maxRecDepth 100000 in
theorem kX8_back_40 {r : Int32 ⊕ Nat} {u : TS} (C0 : gC RX8 cX8_back 4 ((some .int)) wsX8_back p s m args meth c) (hlf : l.stackTraces = false) (hXP : xPre (gA 78 q) s) (hex : ∀ x ∈ c.exceptionTable.toList, False) (hK : va_K D vwCl (tyL cy) s) (hJ : gJ 78 q) {H : Heap} {locs : List Loc} {σ : TS} {c2 : Nat} {x1 : Int32} {x3 : Int32} (hc2 : c2 < 4) (hP : va_P D vwCl (gS 78 q (TX cy q) σ) H) (hS : va_S (gA 78 q) s.heap H locs) {ls : Array Slot} (hl : lv_has ls 4 [(0, .ref (q (0))), (1, .int x1), (2, .ref (q (15+6*c2))), (3, .int x3)]) (hp : sX8_back_40 c2 x1 x3 σ = some (r, u)) : W p l e rmX8_back s m args below meth c H locs 1 6 (vx_MQ below (gQx D vwCl r (gS 78 q (TX cy q) u) (gA 78 q)) (gXx D vwCl r (gS 78 q (TX cy q) u) (gA 78 q)) args s 2 12 (gA 78 q)) (F0 m 40 ls []) := by
  obtain ⟨hx, hb, hr, hml, hown, hts, hlocks⟩ := id C0
  unfold sX8_back_40 at hp
  refine lv_iconst (v := (0 : Int32)) hx hb dX8_back_40 (by decide) ?_
  exact kX8_back_41 C0 hlf hXP hex hK hJ hc2 hP hS hl hp
def sX8_back_16 (c2 : Nat) (x1 : Int32) (sx0 : Int32) (σ : TS) : Option XR := (if (σ (15+6*c2) 6) = 0 then (if (σ (15+6*c2) 7) = 0 then sX8_back_40 c2 x1 sx0 σ else (if sx0 = ((-1 : Int32)) then sX8_back_40 c2 x1 sx0 σ else sX8_back_41 c2 x1 sx0 ((1 : Int32)) σ)) else sX8_back_40 c2 x1 sx0 σ)
set_option maxHeartbeats 4000000 in
set_option maxRecDepth 100000 in
theorem kX8_back_16 {r : Int32 ⊕ Nat} {u : TS} (C0 : gC RX8 cX8_back 4 ((some .int)) wsX8_back p s m args meth c) (hlf : l.stackTraces = false) (hXP : xPre (gA 78 q) s) (hex : ∀ x ∈ c.exceptionTable.toList, False) (hK : va_K D vwCl (tyL cy) s) (hJ : gJ 78 q) {H : Heap} {locs : List Loc} {σ : TS} {c2 : Nat} {x1 : Int32} {sx0 : Int32} (hc2 : c2 < 4) (hP : va_P D vwCl (gS 78 q (TX cy q) σ) H) (hS : va_S (gA 78 q) s.heap H locs) {ls : Array Slot} (hl : lv_has ls 4 [(0, .ref (q (0))), (1, .int x1), (2, .ref (q (15+6*c2)))]) (hp : sX8_back_16 c2 x1 sx0 σ = some (r, u)) : W p l e rmX8_back s m args below meth c H locs 1 6 (vx_MQ below (gQx D vwCl r (gS 78 q (TX cy q) u) (gA 78 q)) (gXx D vwCl r (gS 78 q (TX cy q) u) (gA 78 q)) args s 2 12 (gA 78 q)) (F0 m 16 ls [.int sx0]) := by
  obtain ⟨hx, hb, hr, hml, hown, hts, hlocks⟩ := id C0
  unfold sX8_back_16 at hp
  refine lv_istore_n (lv' := [(3, .int sx0), (0, .ref (q (0))), (1, .int x1), (2, .ref (q (15+6*c2)))]) hx hb dX8_back_16 rfl hl (by decide) rfl (fun ls hl => ?_)
  refine lv_aload_n hx hb dX8_back_17 rfl (lv_at hl 3 rfl) ?_
  refine g_get (v := .int (σ (15+6*c2) 6)) hx hb hts miX8_back_X1 hown hK hP (kk_Comp hc2) (ce_Comp hc2) rfl 6 (by decide) mwX8_back_3 rfl dX8_back_18 ?_
  refine lv_if_ne (tgt := 40) hx hb dX8_back_21 (by decide) (fun hcd15 => ?_) (fun hcd15 => ?_)
  · have hp := o_f hp hcd15
    exact kX8_back_40 C0 hlf hXP hex hK hJ hc2 hP hS (lv_sub hl [1, 2, 3, 0] rfl) hp
  · have hp := o_t hp hcd15
    refine lv_aload_n hx hb dX8_back_24 rfl (lv_at hl 3 rfl) ?_
    refine g_get (v := .int (σ (15+6*c2) 7)) hx hb hts miX8_back_X1 hown hK hP (kk_Comp hc2) (ce_Comp hc2) rfl 7 (by decide) mwX8_back_4 rfl dX8_back_25 ?_
    refine lv_if_eq (tgt := 40) hx hb dX8_back_28 (by decide) (fun hcd16 => ?_) (fun hcd16 => ?_)
    · have hp := o_t hp hcd16
      exact kX8_back_40 C0 hlf hXP hex hK hJ hc2 hP hS (lv_sub hl [1, 2, 3, 0] rfl) hp
    · have hp := o_f hp hcd16
      refine lv_iload_n hx hb dX8_back_31 rfl (lv_at hl 0 rfl) ?_
      refine lv_iconst (v := (-1 : Int32)) hx hb dX8_back_32 (by decide) ?_
      refine lv_icmp_eq (tgt := 40) hx hb dX8_back_33 (by decide) (fun hcd17 => ?_) (fun hcd17 => ?_)
      · have hp := o_t hp hcd17
        exact kX8_back_40 C0 hlf hXP hex hK hJ hc2 hP hS (lv_sub hl [1, 2, 3, 0] rfl) hp
      · have hp := o_f hp hcd17
        refine lv_iconst (v := (1 : Int32)) hx hb dX8_back_36 (by decide) ?_
        refine lv_goto (tgt := 41) hx hb dX8_back_37 (by decide) ?_
        exact kX8_back_41 C0 hlf hXP hex hK hJ hc2 hP hS (lv_sub hl [1, 2, 3, 0] rfl) hp
def sX8_back_5 (x1 : Int32) (σ : TS) : Option XR := (if vin x1 3 = true then ((sX8_lowestOn σ).bind (fun z => sX8_back_16 (x1.toNatClampNeg) x1 z.1 z.2)) else none)
set_option maxHeartbeats 4000000 in
set_option maxRecDepth 100000 in
theorem kX8_back_5 {r : Int32 ⊕ Nat} {u : TS} (C0 : gC RX8 cX8_back 4 ((some .int)) wsX8_back p s m args meth c) (hlf : l.stackTraces = false) (hXP : xPre (gA 78 q) s) (hex : ∀ x ∈ c.exceptionTable.toList, False) (hK : va_K D vwCl (tyL cy) s) (hJ : gJ 78 q) {H : Heap} {locs : List Loc} {σ : TS} {x1 : Int32} (hP : va_P D vwCl (gS 78 q (TX cy q) σ) H) (hS : va_S (gA 78 q) s.heap H locs) {ls : Array Slot} (hl : lv_has ls 4 [(0, .ref (q (0))), (1, .int x1)]) (hp : sX8_back_5 x1 σ = some (r, u)) : W p l e rmX8_back s m args below meth c H locs 1 6 (vx_MQ below (gQx D vwCl r (gS 78 q (TX cy q) u) (gA 78 q)) (gXx D vwCl r (gS 78 q (TX cy q) u) (gA 78 q)) args s 2 12 (gA 78 q)) (F0 m 5 ls []) := by
  obtain ⟨hx, hb, hr, hml, hown, hts, hlocks⟩ := id C0
  unfold sX8_back_5 at hp
  refine lv_aload_n hx hb dX8_back_5 rfl (lv_at hl 0 rfl) ?_
  refine g_get (v := .ref (q (1))) hx hb hts miX8_back_X8 hown hK hP (kk_Tri) (ce_Tri) rfl 0 (by decide) mwX8_back_2 rfl dX8_back_6 ?_
  refine lv_iload_n hx hb dX8_back_9 rfl (lv_at hl 1 rfl) ?_
  obtain ⟨hi18, hp⟩ := o_chk hp
  have hn19 : x1.toNatClampNeg < 4 := Nat.lt_of_lt_of_le (vin_lt hi18) (by decide)
  refine g_aald (j := x1.toNatClampNeg) hx hb hK hP (kk_CompArr) (ce_CompArr) 3 rfl rfl (vin_of hi18) rfl dX8_back_10 ?_
  refine lv_astore_n (lv' := [(2, .ref (q (15+6*x1.toNatClampNeg))), (0, .ref (q (0))), (1, .int x1)]) hx hb dX8_back_11 rfl hl (by decide) rfl (fun ls hl => ?_)
  refine lv_aload_n hx hb dX8_back_12 rfl (lv_at hl 1 rfl) ?_
  obtain ⟨⟨r20, u21⟩, hq22, hp⟩ := o_b hp
  refine g_cVi (As := []) (rest := []) hx hb hml hown hts hK hP hS (mX8_lowestOn l hJ hq22) (cwV 0 hts gX8_back_X8_lowestOn rfl rfl rfl nVX8_lowestOn ⟨Nat.le_of_ble_eq_true rfl, Nat.le_of_ble_eq_true rfl⟩) (g_recv hK hP (kk_Tri) (ce_Tri) rfl) rfl hl.1 rfl (Nat.le_of_ble_eq_true rfl) dX8_back_13 ⟨Nat.le_of_ble_eq_true rfl, Nat.le_of_ble_eq_true rfl⟩ (fun H locs hP hS => ?_)
  exact kX8_back_16 C0 hlf hXP hex hK hJ hn19 hP hS (lv_sub hl [1, 2, 0] rfl) hp
def sX8_back_0 (x1 : Int32) (σ : TS) : Option XR := ((sX8_requireIndex x1 ((3 : Int32)) σ).bind (fun z => o_x z (fun _ zs => sX8_back_5 x1 zs)))
set_option maxHeartbeats 4000000 in
set_option maxRecDepth 100000 in
theorem kX8_back_0 {r : Int32 ⊕ Nat} {u : TS} (C0 : gC RX8 cX8_back 4 ((some .int)) wsX8_back p s m args meth c) (hlf : l.stackTraces = false) (hXP : xPre (gA 78 q) s) (hex : ∀ x ∈ c.exceptionTable.toList, False) (hK : va_K D vwCl (tyL cy) s) (hJ : gJ 78 q) {H : Heap} {locs : List Loc} {σ : TS} {x1 : Int32} (hP : va_P D vwCl (gS 78 q (TX cy q) σ) H) (hS : va_S (gA 78 q) s.heap H locs) {ls : Array Slot} (hl : lv_has ls 4 [(0, .ref (q (0))), (1, .int x1)]) (hp : sX8_back_0 x1 σ = some (r, u)) : W p l e rmX8_back s m args below meth c H locs 0 0 (vx_MQ below (gQx D vwCl r (gS 78 q (TX cy q) u) (gA 78 q)) (gXx D vwCl r (gS 78 q (TX cy q) u) (gA 78 q)) args s 2 12 (gA 78 q)) (F0 m 0 ls []) := by
  obtain ⟨hx, hb, hr, hml, hown, hts, hlocks⟩ := id C0
  unfold sX8_back_0 at hp
  refine lv_iload_n hx hb dX8_back_0 rfl (lv_at hl 1 rfl) ?_
  refine lv_iconst (v := (3 : Int32)) hx hb dX8_back_1 (by decide) ?_
  obtain ⟨⟨r23, u24⟩, hq25, hp⟩ := o_b hp
  rcases r23 with r23 | r23
  · refine g_xSv (As := [.int x1, .int ((3 : Int32))]) (rest := []) hx hb hml hown hts hK hXP hP hS (mX8_requireIndex l hlf hJ hq25) (va_cwS 2 hts gX8_back_X8_requireIndex rfl rfl rfl nVX8_requireIndex ⟨Nat.le_of_ble_eq_true rfl, Nat.le_of_ble_eq_true rfl⟩) rfl hl.1 rfl (Nat.le_of_ble_eq_true rfl) dX8_back_2 ⟨Nat.le_of_ble_eq_true rfl, Nat.le_of_ble_eq_true rfl⟩ (fun H locs hP hS => ?_)
    exact kX8_back_5 C0 hlf hXP hex hK hJ  hP hS hl hp
  · obtain ⟨rfl, rfl⟩ := o_r (a := (Sum.inr r23 : Int32 ⊕ Nat)) (b := u24) hp
    exact g_xSt (As := [.int x1, .int ((3 : Int32))]) (rest := []) hx hb hml hown hts hK hXP hP hS (mX8_requireIndex l hlf hJ hq25) (va_cwS 2 hts gX8_back_X8_requireIndex rfl rfl rfl nVX8_requireIndex ⟨Nat.le_of_ble_eq_true rfl, Nat.le_of_ble_eq_true rfl⟩) rfl hl.1 rfl (Nat.le_of_ble_eq_true rfl) dX8_back_2 ⟨Nat.le_of_ble_eq_true rfl, Nat.le_of_ble_eq_true rfl⟩ hex hlocks (Nat.le_of_ble_eq_true rfl) (Nat.le_of_ble_eq_true rfl)
def sX8_back (x1 : Int32) (σ : TS) : Option XR := sX8_back_0 x1 σ
theorem nVX8_back : yX8_back.cls = RX8 ∧ yX8_back.cls ≠ "java/lang/invoke/MethodHandle" ∧ yX8_back.cls ≠ "java/lang/invoke/VarHandle" ∧ (parseMethodDescriptor yX8_back.desc).map (fun d => d.parameters.length) = some 1 := by decide +kernel
set_option maxHeartbeats 4000000 in
set_option maxRecDepth 100000 in
theorem mX8_back (l : Launch) (hlf : l.stackTraces = false) (hJ : gJ 78 q) {x1 : Int32} {σ : TS} {r : Int32 ⊕ Nat} {u : TS} (hp : sX8_back x1 σ = some (r, u)) : vx_Met l yX8_back wsX8_back rmX8_back (va_Pc [.ref (q (0)), .int x1] (gPreX D vwCl (tyL cy) (gS 78 q (TX cy q) σ) (gA 78 q))) (gQx D vwCl r (gS 78 q (TX cy q) u) (gA 78 q)) (gXx D vwCl r (gS 78 q (TX cy q) u) (gA 78 q)) 2 12 (gA 78 q) := by
  refine vx_ofW (cc := cX8_back) (maxL := 4) (ret := (some .int)) (by decide +kernel) rfl ?_
  intro p e s m args below meth c s₁ B hml hex hv
  obtain ⟨rfl, ⟨hP, hK⟩, hXP⟩ := hv
  have hl := lv_entry ([.ref (q (0)), .int x1]) (n := 4) (Nat.le_of_ble_eq_true rfl)
  rw [lg_entry_eq]
  generalize (lg_sl ([.ref (q (0)), .int x1]) ++ List.replicate (4 - (lg_sl ([.ref (q (0)), .int x1])).length) Slot.unset).toArray = ls at hl ⊢
  have hl : lv_has ls 4 [(0, .ref (q (0))), (1, .int x1)] := hl
  exact kX8_back_0 ⟨B.exec, B.bytes, B.returns, hml, findClass_of_methodNamed B.named, atoms_spec (ws := wsX8_back) B.pre, B.notSynchronized⟩ hlf hXP hex hK hJ  hP va_S.rf hl hp
theorem miX8_mended_X1 : ∀ w ∈ u_ws RX1 TX1 14, w ∈ wsX8_mended := by decide +kernel
theorem miX8_mended_X4 : ∀ w ∈ u_ws RX4 TX4 3, w ∈ wsX8_mended := by decide +kernel
theorem miX8_mended_X8 : ∀ w ∈ u_ws RX8 TX8 16, w ∈ wsX8_mended := by decide +kernel
theorem mwX8_mended_0 : Cond.fieldLink RX8 11 "Triplane" "computers" "[LTriplane$Computer;" ∈ wsX8_mended := by decide +kernel
theorem mwX8_mended_1 : Cond.fieldLink RX8 137 "Triplane$Computer" "memory" "LTriplane$Memory;" ∈ wsX8_mended := by decide +kernel
theorem mwX8_mended_2 : Cond.fieldLink RX8 188 "Triplane$Memory" "mendedBits" "I" ∈ wsX8_mended := by decide +kernel
abbrev rmX8_mended : Room := { frames := 7, cells := 1, slots := 6, locals := 111 }
def sX8_mended_5 (x1 : Int32) (σ : TS) : Option XR := (if vin x1 3 = true then some (Sum.inl (σ (16+6*((x1.toNatClampNeg))) 2), σ) else none)
set_option maxHeartbeats 4000000 in
set_option maxRecDepth 100000 in
theorem kX8_mended_5 {r : Int32 ⊕ Nat} {u : TS} (C0 : gC RX8 cX8_mended 2 ((some .int)) wsX8_mended p s m args meth c) (hlf : l.stackTraces = false) (hXP : xPre (gA 78 q) s) (hex : ∀ x ∈ c.exceptionTable.toList, False) (hK : va_K D vwCl (tyL cy) s) (hJ : gJ 78 q) {H : Heap} {locs : List Loc} {σ : TS} {x1 : Int32} (hP : va_P D vwCl (gS 78 q (TX cy q) σ) H) (hS : va_S (gA 78 q) s.heap H locs) {ls : Array Slot} (hl : lv_has ls 2 [(0, .ref (q (0))), (1, .int x1)]) (hp : sX8_mended_5 x1 σ = some (r, u)) : W p l e rmX8_mended s m args below meth c H locs 1 6 (vx_MQ below (gQx D vwCl r (gS 78 q (TX cy q) u) (gA 78 q)) (gXx D vwCl r (gS 78 q (TX cy q) u) (gA 78 q)) args s 1 6 (gA 78 q)) (F0 m 5 ls []) := by
  obtain ⟨hx, hb, hr, hml, hown, hts, hlocks⟩ := id C0
  unfold sX8_mended_5 at hp
  refine lv_aload_n hx hb dX8_mended_5 rfl (lv_at hl 0 rfl) ?_
  refine g_get (v := .ref (q (1))) hx hb hts miX8_mended_X8 hown hK hP (kk_Tri) (ce_Tri) rfl 0 (by decide) mwX8_mended_0 rfl dX8_mended_6 ?_
  refine lv_iload_n hx hb dX8_mended_9 rfl (lv_at hl 1 rfl) ?_
  obtain ⟨hi1, hp⟩ := o_chk hp
  have hn2 : x1.toNatClampNeg < 4 := Nat.lt_of_lt_of_le (vin_lt hi1) (by decide)
  refine g_aald (j := x1.toNatClampNeg) hx hb hK hP (kk_CompArr) (ce_CompArr) 3 rfl rfl (vin_of hi1) rfl dX8_mended_10 ?_
  refine g_get (v := .ref (q (16+6*(x1.toNatClampNeg)))) hx hb hts miX8_mended_X1 hown hK hP (kk_Comp hn2) (ce_Comp hn2) rfl 0 (by decide) mwX8_mended_1 rfl dX8_mended_11 ?_
  refine g_get (v := .int (σ (16+6*((x1.toNatClampNeg))) 2)) hx hb hts miX8_mended_X4 hown hK hP (kk_Mem hn2) (ce_Mem hn2) rfl 2 (by decide) mwX8_mended_2 rfl dX8_mended_14 ?_
  obtain ⟨rfl, rfl⟩ := o_r hp
  refine W.widen (k := 1) (n := 6) (Nat.le_of_ble_eq_true rfl) (Nat.le_of_ble_eq_true rfl) ?_
  refine vx_ret ?_
  exact W.iret (v := σ (16+6*((x1.toNatClampNeg))) 2) hx hb hr (fun t ht hW => ⟨⟨σ (16+6*((x1.toNatClampNeg))) 2, (), rfl, rfl, by subst ht; exact hP⟩, hS.F ht⟩) hS.2.2 dX8_mended_17
def sX8_mended_0 (x1 : Int32) (σ : TS) : Option XR := ((sX8_requireIndex x1 ((3 : Int32)) σ).bind (fun z => o_x z (fun _ zs => sX8_mended_5 x1 zs)))
set_option maxHeartbeats 4000000 in
set_option maxRecDepth 100000 in
theorem kX8_mended_0 {r : Int32 ⊕ Nat} {u : TS} (C0 : gC RX8 cX8_mended 2 ((some .int)) wsX8_mended p s m args meth c) (hlf : l.stackTraces = false) (hXP : xPre (gA 78 q) s) (hex : ∀ x ∈ c.exceptionTable.toList, False) (hK : va_K D vwCl (tyL cy) s) (hJ : gJ 78 q) {H : Heap} {locs : List Loc} {σ : TS} {x1 : Int32} (hP : va_P D vwCl (gS 78 q (TX cy q) σ) H) (hS : va_S (gA 78 q) s.heap H locs) {ls : Array Slot} (hl : lv_has ls 2 [(0, .ref (q (0))), (1, .int x1)]) (hp : sX8_mended_0 x1 σ = some (r, u)) : W p l e rmX8_mended s m args below meth c H locs 0 0 (vx_MQ below (gQx D vwCl r (gS 78 q (TX cy q) u) (gA 78 q)) (gXx D vwCl r (gS 78 q (TX cy q) u) (gA 78 q)) args s 1 6 (gA 78 q)) (F0 m 0 ls []) := by
  obtain ⟨hx, hb, hr, hml, hown, hts, hlocks⟩ := id C0
  unfold sX8_mended_0 at hp
  refine lv_iload_n hx hb dX8_mended_0 rfl (lv_at hl 1 rfl) ?_
  refine lv_iconst (v := (3 : Int32)) hx hb dX8_mended_1 (by decide) ?_
  obtain ⟨⟨r3, u4⟩, hq5, hp⟩ := o_b hp
  rcases r3 with r3 | r3
  · refine g_xSv (As := [.int x1, .int ((3 : Int32))]) (rest := []) hx hb hml hown hts hK hXP hP hS (mX8_requireIndex l hlf hJ hq5) (va_cwS 2 hts gX8_mended_X8_requireIndex rfl rfl rfl nVX8_requireIndex ⟨Nat.le_of_ble_eq_true rfl, Nat.le_of_ble_eq_true rfl⟩) rfl hl.1 rfl (Nat.le_of_ble_eq_true rfl) dX8_mended_2 ⟨Nat.le_of_ble_eq_true rfl, Nat.le_of_ble_eq_true rfl⟩ (fun H locs hP hS => ?_)
    exact kX8_mended_5 C0 hlf hXP hex hK hJ  hP hS hl hp
  · obtain ⟨rfl, rfl⟩ := o_r (a := (Sum.inr r3 : Int32 ⊕ Nat)) (b := u4) hp
    exact g_xSt (As := [.int x1, .int ((3 : Int32))]) (rest := []) hx hb hml hown hts hK hXP hP hS (mX8_requireIndex l hlf hJ hq5) (va_cwS 2 hts gX8_mended_X8_requireIndex rfl rfl rfl nVX8_requireIndex ⟨Nat.le_of_ble_eq_true rfl, Nat.le_of_ble_eq_true rfl⟩) rfl hl.1 rfl (Nat.le_of_ble_eq_true rfl) dX8_mended_2 ⟨Nat.le_of_ble_eq_true rfl, Nat.le_of_ble_eq_true rfl⟩ hex hlocks (Nat.le_of_ble_eq_true rfl) (Nat.le_of_ble_eq_true rfl)
def sX8_mended (x1 : Int32) (σ : TS) : Option XR := sX8_mended_0 x1 σ
theorem nVX8_mended : yX8_mended.cls = RX8 ∧ yX8_mended.cls ≠ "java/lang/invoke/MethodHandle" ∧ yX8_mended.cls ≠ "java/lang/invoke/VarHandle" ∧ (parseMethodDescriptor yX8_mended.desc).map (fun d => d.parameters.length) = some 1 := by decide +kernel
set_option maxHeartbeats 4000000 in
set_option maxRecDepth 100000 in
theorem mX8_mended (l : Launch) (hlf : l.stackTraces = false) (hJ : gJ 78 q) {x1 : Int32} {σ : TS} {r : Int32 ⊕ Nat} {u : TS} (hp : sX8_mended x1 σ = some (r, u)) : vx_Met l yX8_mended wsX8_mended rmX8_mended (va_Pc [.ref (q (0)), .int x1] (gPreX D vwCl (tyL cy) (gS 78 q (TX cy q) σ) (gA 78 q))) (gQx D vwCl r (gS 78 q (TX cy q) u) (gA 78 q)) (gXx D vwCl r (gS 78 q (TX cy q) u) (gA 78 q)) 1 6 (gA 78 q) := by
  refine vx_ofW (cc := cX8_mended) (maxL := 2) (ret := (some .int)) (by decide +kernel) rfl ?_
  intro p e s m args below meth c s₁ B hml hex hv
  obtain ⟨rfl, ⟨hP, hK⟩, hXP⟩ := hv
  have hl := lv_entry ([.ref (q (0)), .int x1]) (n := 2) (Nat.le_of_ble_eq_true rfl)
  rw [lg_entry_eq]
  generalize (lg_sl ([.ref (q (0)), .int x1]) ++ List.replicate (2 - (lg_sl ([.ref (q (0)), .int x1])).length) Slot.unset).toArray = ls at hl ⊢
  have hl : lv_has ls 2 [(0, .ref (q (0))), (1, .int x1)] := hl
  exact kX8_mended_0 ⟨B.exec, B.bytes, B.returns, hml, findClass_of_methodNamed B.named, atoms_spec (ws := wsX8_mended) B.pre, B.notSynchronized⟩ hlf hXP hex hK hJ  hP va_S.rf hl hp
theorem miX8_overruns_X6 : ∀ w ∈ u_ws RX6 TX6 5, w ∈ wsX8_overruns := by decide +kernel
theorem miX8_overruns_X8 : ∀ w ∈ u_ws RX8 TX8 16, w ∈ wsX8_overruns := by decide +kernel
theorem mwX8_overruns_0 : Cond.fieldLink RX8 22 "Triplane" "programs" "[LTriplane$Program;" ∈ wsX8_overruns := by decide +kernel
theorem mwX8_overruns_1 : Cond.fieldLink RX8 191 "Triplane$Program" "overrunCount" "I" ∈ wsX8_overruns := by decide +kernel
abbrev rmX8_overruns : Room := { frames := 7, cells := 1, slots := 6, locals := 111 }
def sX8_overruns_5 (x1 : Int32) (σ : TS) : Option XR := (if vin x1 3 = true then some (Sum.inl (σ (39+4*(x1.toNatClampNeg)) 4), σ) else none)
set_option maxHeartbeats 4000000 in
set_option maxRecDepth 100000 in
theorem kX8_overruns_5 {r : Int32 ⊕ Nat} {u : TS} (C0 : gC RX8 cX8_overruns 2 ((some .int)) wsX8_overruns p s m args meth c) (hlf : l.stackTraces = false) (hXP : xPre (gA 78 q) s) (hex : ∀ x ∈ c.exceptionTable.toList, False) (hK : va_K D vwCl (tyL cy) s) (hJ : gJ 78 q) {H : Heap} {locs : List Loc} {σ : TS} {x1 : Int32} (hP : va_P D vwCl (gS 78 q (TX cy q) σ) H) (hS : va_S (gA 78 q) s.heap H locs) {ls : Array Slot} (hl : lv_has ls 2 [(0, .ref (q (0))), (1, .int x1)]) (hp : sX8_overruns_5 x1 σ = some (r, u)) : W p l e rmX8_overruns s m args below meth c H locs 1 6 (vx_MQ below (gQx D vwCl r (gS 78 q (TX cy q) u) (gA 78 q)) (gXx D vwCl r (gS 78 q (TX cy q) u) (gA 78 q)) args s 1 6 (gA 78 q)) (F0 m 5 ls []) := by
  obtain ⟨hx, hb, hr, hml, hown, hts, hlocks⟩ := id C0
  unfold sX8_overruns_5 at hp
  refine lv_aload_n hx hb dX8_overruns_5 rfl (lv_at hl 0 rfl) ?_
  refine g_get (v := .ref (q (5))) hx hb hts miX8_overruns_X8 hown hK hP (kk_Tri) (ce_Tri) rfl 2 (by decide) mwX8_overruns_0 rfl dX8_overruns_6 ?_
  refine lv_iload_n hx hb dX8_overruns_9 rfl (lv_at hl 1 rfl) ?_
  obtain ⟨hi1, hp⟩ := o_chk hp
  have hn2 : x1.toNatClampNeg < 3 := Nat.lt_of_lt_of_le (vin_lt hi1) (by decide)
  refine g_aald (j := x1.toNatClampNeg) hx hb hK hP (kk_ProgArr) (ce_ProgArr) 4 rfl rfl (vin_of hi1) rfl dX8_overruns_10 ?_
  refine g_get (v := .int (σ (39+4*(x1.toNatClampNeg)) 4)) hx hb hts miX8_overruns_X6 hown hK hP (kk_Prog hn2) (ce_Prog hn2) rfl 4 (by decide) mwX8_overruns_1 rfl dX8_overruns_11 ?_
  obtain ⟨rfl, rfl⟩ := o_r hp
  refine W.widen (k := 1) (n := 6) (Nat.le_of_ble_eq_true rfl) (Nat.le_of_ble_eq_true rfl) ?_
  refine vx_ret ?_
  exact W.iret (v := σ (39+4*(x1.toNatClampNeg)) 4) hx hb hr (fun t ht hW => ⟨⟨σ (39+4*(x1.toNatClampNeg)) 4, (), rfl, rfl, by subst ht; exact hP⟩, hS.F ht⟩) hS.2.2 dX8_overruns_14
def sX8_overruns_0 (x1 : Int32) (σ : TS) : Option XR := ((sX8_requireIndex x1 ((3 : Int32)) σ).bind (fun z => o_x z (fun _ zs => sX8_overruns_5 x1 zs)))
set_option maxHeartbeats 4000000 in
set_option maxRecDepth 100000 in
theorem kX8_overruns_0 {r : Int32 ⊕ Nat} {u : TS} (C0 : gC RX8 cX8_overruns 2 ((some .int)) wsX8_overruns p s m args meth c) (hlf : l.stackTraces = false) (hXP : xPre (gA 78 q) s) (hex : ∀ x ∈ c.exceptionTable.toList, False) (hK : va_K D vwCl (tyL cy) s) (hJ : gJ 78 q) {H : Heap} {locs : List Loc} {σ : TS} {x1 : Int32} (hP : va_P D vwCl (gS 78 q (TX cy q) σ) H) (hS : va_S (gA 78 q) s.heap H locs) {ls : Array Slot} (hl : lv_has ls 2 [(0, .ref (q (0))), (1, .int x1)]) (hp : sX8_overruns_0 x1 σ = some (r, u)) : W p l e rmX8_overruns s m args below meth c H locs 0 0 (vx_MQ below (gQx D vwCl r (gS 78 q (TX cy q) u) (gA 78 q)) (gXx D vwCl r (gS 78 q (TX cy q) u) (gA 78 q)) args s 1 6 (gA 78 q)) (F0 m 0 ls []) := by
  obtain ⟨hx, hb, hr, hml, hown, hts, hlocks⟩ := id C0
  unfold sX8_overruns_0 at hp
  refine lv_iload_n hx hb dX8_overruns_0 rfl (lv_at hl 1 rfl) ?_
  refine lv_iconst (v := (3 : Int32)) hx hb dX8_overruns_1 (by decide) ?_
  obtain ⟨⟨r3, u4⟩, hq5, hp⟩ := o_b hp
  rcases r3 with r3 | r3
  · refine g_xSv (As := [.int x1, .int ((3 : Int32))]) (rest := []) hx hb hml hown hts hK hXP hP hS (mX8_requireIndex l hlf hJ hq5) (va_cwS 2 hts gX8_overruns_X8_requireIndex rfl rfl rfl nVX8_requireIndex ⟨Nat.le_of_ble_eq_true rfl, Nat.le_of_ble_eq_true rfl⟩) rfl hl.1 rfl (Nat.le_of_ble_eq_true rfl) dX8_overruns_2 ⟨Nat.le_of_ble_eq_true rfl, Nat.le_of_ble_eq_true rfl⟩ (fun H locs hP hS => ?_)
    exact kX8_overruns_5 C0 hlf hXP hex hK hJ  hP hS hl hp
  · obtain ⟨rfl, rfl⟩ := o_r (a := (Sum.inr r3 : Int32 ⊕ Nat)) (b := u4) hp
    exact g_xSt (As := [.int x1, .int ((3 : Int32))]) (rest := []) hx hb hml hown hts hK hXP hP hS (mX8_requireIndex l hlf hJ hq5) (va_cwS 2 hts gX8_overruns_X8_requireIndex rfl rfl rfl nVX8_requireIndex ⟨Nat.le_of_ble_eq_true rfl, Nat.le_of_ble_eq_true rfl⟩) rfl hl.1 rfl (Nat.le_of_ble_eq_true rfl) dX8_overruns_2 ⟨Nat.le_of_ble_eq_true rfl, Nat.le_of_ble_eq_true rfl⟩ hex hlocks (Nat.le_of_ble_eq_true rfl) (Nat.le_of_ble_eq_true rfl)
def sX8_overruns (x1 : Int32) (σ : TS) : Option XR := sX8_overruns_0 x1 σ
theorem nVX8_overruns : yX8_overruns.cls = RX8 ∧ yX8_overruns.cls ≠ "java/lang/invoke/MethodHandle" ∧ yX8_overruns.cls ≠ "java/lang/invoke/VarHandle" ∧ (parseMethodDescriptor yX8_overruns.desc).map (fun d => d.parameters.length) = some 1 := by decide +kernel
set_option maxHeartbeats 4000000 in
set_option maxRecDepth 100000 in
theorem mX8_overruns (l : Launch) (hlf : l.stackTraces = false) (hJ : gJ 78 q) {x1 : Int32} {σ : TS} {r : Int32 ⊕ Nat} {u : TS} (hp : sX8_overruns x1 σ = some (r, u)) : vx_Met l yX8_overruns wsX8_overruns rmX8_overruns (va_Pc [.ref (q (0)), .int x1] (gPreX D vwCl (tyL cy) (gS 78 q (TX cy q) σ) (gA 78 q))) (gQx D vwCl r (gS 78 q (TX cy q) u) (gA 78 q)) (gXx D vwCl r (gS 78 q (TX cy q) u) (gA 78 q)) 1 6 (gA 78 q) := by
  refine vx_ofW (cc := cX8_overruns) (maxL := 2) (ret := (some .int)) (by decide +kernel) rfl ?_
  intro p e s m args below meth c s₁ B hml hex hv
  obtain ⟨rfl, ⟨hP, hK⟩, hXP⟩ := hv
  have hl := lv_entry ([.ref (q (0)), .int x1]) (n := 2) (Nat.le_of_ble_eq_true rfl)
  rw [lg_entry_eq]
  generalize (lg_sl ([.ref (q (0)), .int x1]) ++ List.replicate (2 - (lg_sl ([.ref (q (0)), .int x1])).length) Slot.unset).toArray = ls at hl ⊢
  have hl : lv_has ls 2 [(0, .ref (q (0))), (1, .int x1)] := hl
  exact kX8_overruns_0 ⟨B.exec, B.bytes, B.returns, hml, findClass_of_methodNamed B.named, atoms_spec (ws := wsX8_overruns) B.pre, B.notSynchronized⟩ hlf hXP hex hK hJ  hP va_S.rf hl hp
theorem miX8_read_X7 : ∀ w ∈ u_ws RX7 TX7 4, w ∈ wsX8_read := by decide +kernel
theorem miX8_read_X8 : ∀ w ∈ u_ws RX8 TX8 16, w ∈ wsX8_read := by decide +kernel
theorem mwX8_read_0 : Cond.fieldLink RX8 204 "Triplane$Sensor" "middle" "I" ∈ wsX8_read := by decide +kernel
theorem mwX8_read_1 : Cond.fieldLink RX8 39 "Triplane" "sensors" "[LTriplane$Sensor;" ∈ wsX8_read := by decide +kernel
abbrev rmX8_read : Room := { frames := 7, cells := 2, slots := 12, locals := 111 }
def sX8_read_48 (d0 : Nat) (x1 : Int32) (sx1 : Int32) (σ : TS) : Option XR := (if vin x1 4 = true then some (Sum.inl ((st2 σ (66+d0) 0 sx1) (66+(x1.toNatClampNeg)) 0), st2 σ (66+d0) 0 sx1) else none)
set_option maxHeartbeats 4000000 in
set_option maxRecDepth 100000 in
theorem kX8_read_48 {r : Int32 ⊕ Nat} {u : TS} (C0 : gC RX8 cX8_read 5 ((some .int)) wsX8_read p s m args meth c) (hlf : l.stackTraces = false) (hXP : xPre (gA 78 q) s) (hex : ∀ x ∈ c.exceptionTable.toList, False) (hK : va_K D vwCl (tyL cy) s) (hJ : gJ 78 q) {H : Heap} {locs : List Loc} {σ : TS} {d0 : Nat} {x1 : Int32} {sx1 : Int32} (hd0 : d0 < 4) (hP : va_P D vwCl (gS 78 q (TX cy q) σ) H) (hS : va_S (gA 78 q) s.heap H locs) {ls : Array Slot} (hl : lv_has ls 5 [(0, .ref (q (0))), (1, .int x1)]) (hp : sX8_read_48 d0 x1 sx1 σ = some (r, u)) : W p l e rmX8_read s m args below meth c H locs 2 12 (vx_MQ below (gQx D vwCl r (gS 78 q (TX cy q) u) (gA 78 q)) (gXx D vwCl r (gS 78 q (TX cy q) u) (gA 78 q)) args s 2 12 (gA 78 q)) (F0 m 48 ls [.int sx1, .ref (q (66+d0))]) := by
  obtain ⟨hx, hb, hr, hml, hown, hts, hlocks⟩ := id C0
  unfold sX8_read_48 at hp
  refine g_put (v := sx1) hx hb hts miX8_read_X7 tyX7 tyX7_ok nmX7 hown hK hJ hP hS (kk_Sens hd0) (ce_Sens hd0) rfl 0 (by decide) mwX8_read_0 rfl rfl rfl (Nat.le_of_ble_eq_true rfl) rfl dX8_read_48 (fun H locs hP hS => ?_)
  refine lv_aload_n hx hb dX8_read_51 rfl (lv_at hl 0 rfl) ?_
  refine g_get (v := .ref (q (7))) hx hb hts miX8_read_X8 hown hK hP (kk_Tri) (ce_Tri) rfl 5 (by decide) mwX8_read_1 rfl dX8_read_52 ?_
  refine lv_iload_n hx hb dX8_read_55 rfl (lv_at hl 1 rfl) ?_
  obtain ⟨hi1, hp⟩ := o_chk hp
  have hn2 : x1.toNatClampNeg < 4 := Nat.lt_of_lt_of_le (vin_lt hi1) (by decide)
  refine g_aald (j := x1.toNatClampNeg) hx hb hK hP (kk_SensArr) (ce_SensArr) 7 rfl rfl (vin_of hi1) rfl dX8_read_56 ?_
  refine g_get (v := .int ((st2 σ (66+d0) 0 sx1) (66+(x1.toNatClampNeg)) 0)) hx hb hts miX8_read_X7 hown hK hP (kk_Sens hn2) (ce_Sens hn2) rfl 0 (by decide) mwX8_read_0 rfl dX8_read_57 ?_
  obtain ⟨rfl, rfl⟩ := o_r hp
  refine W.widen (k := 2) (n := 12) (Nat.le_of_ble_eq_true rfl) (Nat.le_of_ble_eq_true rfl) ?_
  refine vx_ret ?_
  exact W.iret (v := (st2 σ (66+d0) 0 sx1) (66+(x1.toNatClampNeg)) 0) hx hb hr (fun t ht hW => ⟨⟨(st2 σ (66+d0) 0 sx1) (66+(x1.toNatClampNeg)) 0, (), rfl, rfl, by subst ht; exact hP⟩, hS.F ht⟩) hS.2.2 dX8_read_60
def sX8_read_35 (x1 : Int32) (x2 : Int32) (x3 : Int32) (x4 : Int32) (σ : TS) : Option XR := (if vin x1 4 = true then ((sX5_middle x2 x3 x4 σ).bind (fun z => sX8_read_48 (x1.toNatClampNeg) x1 z.1 z.2)) else none)
set_option maxHeartbeats 4000000 in
set_option maxRecDepth 100000 in
theorem kX8_read_35 {r : Int32 ⊕ Nat} {u : TS} (C0 : gC RX8 cX8_read 5 ((some .int)) wsX8_read p s m args meth c) (hlf : l.stackTraces = false) (hXP : xPre (gA 78 q) s) (hex : ∀ x ∈ c.exceptionTable.toList, False) (hK : va_K D vwCl (tyL cy) s) (hJ : gJ 78 q) {H : Heap} {locs : List Loc} {σ : TS} {x1 : Int32} {x2 : Int32} {x3 : Int32} {x4 : Int32} (hP : va_P D vwCl (gS 78 q (TX cy q) σ) H) (hS : va_S (gA 78 q) s.heap H locs) {ls : Array Slot} (hl : lv_has ls 5 [(0, .ref (q (0))), (1, .int x1), (2, .int x2), (3, .int x3), (4, .int x4)]) (hp : sX8_read_35 x1 x2 x3 x4 σ = some (r, u)) : W p l e rmX8_read s m args below meth c H locs 2 12 (vx_MQ below (gQx D vwCl r (gS 78 q (TX cy q) u) (gA 78 q)) (gXx D vwCl r (gS 78 q (TX cy q) u) (gA 78 q)) args s 2 12 (gA 78 q)) (F0 m 35 ls []) := by
  obtain ⟨hx, hb, hr, hml, hown, hts, hlocks⟩ := id C0
  unfold sX8_read_35 at hp
  refine lv_aload_n hx hb dX8_read_35 rfl (lv_at hl 0 rfl) ?_
  refine g_get (v := .ref (q (7))) hx hb hts miX8_read_X8 hown hK hP (kk_Tri) (ce_Tri) rfl 5 (by decide) mwX8_read_1 rfl dX8_read_36 ?_
  refine lv_iload_n hx hb dX8_read_39 rfl (lv_at hl 1 rfl) ?_
  obtain ⟨hi3, hp⟩ := o_chk hp
  have hn4 : x1.toNatClampNeg < 4 := Nat.lt_of_lt_of_le (vin_lt hi3) (by decide)
  refine g_aald (j := x1.toNatClampNeg) hx hb hK hP (kk_SensArr) (ce_SensArr) 7 rfl rfl (vin_of hi3) rfl dX8_read_40 ?_
  refine lv_iload_n hx hb dX8_read_41 rfl (lv_at hl 2 rfl) ?_
  refine lv_iload_n hx hb dX8_read_42 rfl (lv_at hl 3 rfl) ?_
  refine lv_iload hx hb dX8_read_43 (lv_at hl 4 rfl) ?_
  obtain ⟨⟨r5, u6⟩, hq7, hp⟩ := o_b hp
  refine g_cSi (As := [.int x2, .int x3, .int x4]) (rest := [.ref (q (66+x1.toNatClampNeg))]) hx hb hml hown hts hK hP hS (mX5_middle l hJ hq7) (va_cwS 3 hts gX8_read_X5_middle rfl rfl rfl nVX5_middle ⟨Nat.le_of_ble_eq_true rfl, Nat.le_of_ble_eq_true rfl⟩) rfl hl.1 rfl (Nat.le_of_ble_eq_true rfl) dX8_read_45 ⟨Nat.le_of_ble_eq_true rfl, Nat.le_of_ble_eq_true rfl⟩ (fun H locs hP hS => ?_)
  exact kX8_read_48 C0 hlf hXP hex hK hJ hn4 hP hS (lv_sub hl [0, 1] rfl) hp
def sX8_read_32 (x1 : Int32) (x2 : Int32) (x3 : Int32) (x4 : Int32) (sx0 : Int32) (σ : TS) : Option XR := ((sX8_requireFit sx0 σ).bind (fun z => o_x z (fun _ zs => sX8_read_35 x1 x2 x3 x4 zs)))
set_option maxHeartbeats 4000000 in
set_option maxRecDepth 100000 in
theorem kX8_read_32 {r : Int32 ⊕ Nat} {u : TS} (C0 : gC RX8 cX8_read 5 ((some .int)) wsX8_read p s m args meth c) (hlf : l.stackTraces = false) (hXP : xPre (gA 78 q) s) (hex : ∀ x ∈ c.exceptionTable.toList, False) (hK : va_K D vwCl (tyL cy) s) (hJ : gJ 78 q) {H : Heap} {locs : List Loc} {σ : TS} {x1 : Int32} {x2 : Int32} {x3 : Int32} {x4 : Int32} {sx0 : Int32} (hP : va_P D vwCl (gS 78 q (TX cy q) σ) H) (hS : va_S (gA 78 q) s.heap H locs) {ls : Array Slot} (hl : lv_has ls 5 [(0, .ref (q (0))), (1, .int x1), (2, .int x2), (3, .int x3), (4, .int x4)]) (hp : sX8_read_32 x1 x2 x3 x4 sx0 σ = some (r, u)) : W p l e rmX8_read s m args below meth c H locs 1 6 (vx_MQ below (gQx D vwCl r (gS 78 q (TX cy q) u) (gA 78 q)) (gXx D vwCl r (gS 78 q (TX cy q) u) (gA 78 q)) args s 2 12 (gA 78 q)) (F0 m 32 ls [.int sx0]) := by
  obtain ⟨hx, hb, hr, hml, hown, hts, hlocks⟩ := id C0
  unfold sX8_read_32 at hp
  obtain ⟨⟨r8, u9⟩, hq10, hp⟩ := o_b hp
  rcases r8 with r8 | r8
  · refine g_xSv (As := [.int sx0]) (rest := []) hx hb hml hown hts hK hXP hP hS (mX8_requireFit l hlf hJ hq10) (va_cwS 1 hts gX8_read_X8_requireFit rfl rfl rfl nVX8_requireFit ⟨Nat.le_of_ble_eq_true rfl, Nat.le_of_ble_eq_true rfl⟩) rfl hl.1 rfl (Nat.le_of_ble_eq_true rfl) dX8_read_32 ⟨Nat.le_of_ble_eq_true rfl, Nat.le_of_ble_eq_true rfl⟩ (fun H locs hP hS => ?_)
    exact kX8_read_35 C0 hlf hXP hex hK hJ  hP hS hl hp
  · obtain ⟨rfl, rfl⟩ := o_r (a := (Sum.inr r8 : Int32 ⊕ Nat)) (b := u9) hp
    exact g_xSt (As := [.int sx0]) (rest := []) hx hb hml hown hts hK hXP hP hS (mX8_requireFit l hlf hJ hq10) (va_cwS 1 hts gX8_read_X8_requireFit rfl rfl rfl nVX8_requireFit ⟨Nat.le_of_ble_eq_true rfl, Nat.le_of_ble_eq_true rfl⟩) rfl hl.1 rfl (Nat.le_of_ble_eq_true rfl) dX8_read_32 ⟨Nat.le_of_ble_eq_true rfl, Nat.le_of_ble_eq_true rfl⟩ hex hlocks (Nat.le_of_ble_eq_true rfl) (Nat.le_of_ble_eq_true rfl)
def sX8_read_31 (x1 : Int32) (x2 : Int32) (x3 : Int32) (x4 : Int32) (σ : TS) : Option XR := sX8_read_32 x1 x2 x3 x4 ((0 : Int32)) σ
set_option maxHeartbeats 4000000 in
set_option maxRecDepth 100000 in
theorem kX8_read_31 {r : Int32 ⊕ Nat} {u : TS} (C0 : gC RX8 cX8_read 5 ((some .int)) wsX8_read p s m args meth c) (hlf : l.stackTraces = false) (hXP : xPre (gA 78 q) s) (hex : ∀ x ∈ c.exceptionTable.toList, False) (hK : va_K D vwCl (tyL cy) s) (hJ : gJ 78 q) {H : Heap} {locs : List Loc} {σ : TS} {x1 : Int32} {x2 : Int32} {x3 : Int32} {x4 : Int32} (hP : va_P D vwCl (gS 78 q (TX cy q) σ) H) (hS : va_S (gA 78 q) s.heap H locs) {ls : Array Slot} (hl : lv_has ls 5 [(0, .ref (q (0))), (1, .int x1), (2, .int x2), (3, .int x3), (4, .int x4)]) (hp : sX8_read_31 x1 x2 x3 x4 σ = some (r, u)) : W p l e rmX8_read s m args below meth c H locs 1 6 (vx_MQ below (gQx D vwCl r (gS 78 q (TX cy q) u) (gA 78 q)) (gXx D vwCl r (gS 78 q (TX cy q) u) (gA 78 q)) args s 2 12 (gA 78 q)) (F0 m 31 ls []) := by
  obtain ⟨hx, hb, hr, hml, hown, hts, hlocks⟩ := id C0
  unfold sX8_read_31 at hp
  refine lv_iconst (v := (0 : Int32)) hx hb dX8_read_31 (by decide) ?_
  exact kX8_read_32 C0 hlf hXP hex hK hJ  hP hS hl hp
def sX8_read_24 (x1 : Int32) (x2 : Int32) (x3 : Int32) (x4 : Int32) (sx0 : Int32) (σ : TS) : Option XR := (if sx0 = 0 then sX8_read_31 x1 x2 x3 x4 σ else sX8_read_32 x1 x2 x3 x4 ((1 : Int32)) σ)
set_option maxHeartbeats 4000000 in
set_option maxRecDepth 100000 in
theorem kX8_read_24 {r : Int32 ⊕ Nat} {u : TS} (C0 : gC RX8 cX8_read 5 ((some .int)) wsX8_read p s m args meth c) (hlf : l.stackTraces = false) (hXP : xPre (gA 78 q) s) (hex : ∀ x ∈ c.exceptionTable.toList, False) (hK : va_K D vwCl (tyL cy) s) (hJ : gJ 78 q) {H : Heap} {locs : List Loc} {σ : TS} {x1 : Int32} {x2 : Int32} {x3 : Int32} {x4 : Int32} {sx0 : Int32} (hP : va_P D vwCl (gS 78 q (TX cy q) σ) H) (hS : va_S (gA 78 q) s.heap H locs) {ls : Array Slot} (hl : lv_has ls 5 [(0, .ref (q (0))), (1, .int x1), (2, .int x2), (3, .int x3), (4, .int x4)]) (hp : sX8_read_24 x1 x2 x3 x4 sx0 σ = some (r, u)) : W p l e rmX8_read s m args below meth c H locs 1 6 (vx_MQ below (gQx D vwCl r (gS 78 q (TX cy q) u) (gA 78 q)) (gXx D vwCl r (gS 78 q (TX cy q) u) (gA 78 q)) args s 2 12 (gA 78 q)) (F0 m 24 ls [.int sx0]) := by
  obtain ⟨hx, hb, hr, hml, hown, hts, hlocks⟩ := id C0
  unfold sX8_read_24 at hp
  refine lv_if_eq (tgt := 31) hx hb dX8_read_24 (by decide) (fun hcd11 => ?_) (fun hcd11 => ?_)
  · have hp := o_t hp hcd11
    exact kX8_read_31 C0 hlf hXP hex hK hJ  hP hS hl hp
  · have hp := o_f hp hcd11
    refine lv_iconst (v := (1 : Int32)) hx hb dX8_read_27 (by decide) ?_
    refine lv_goto (tgt := 32) hx hb dX8_read_28 (by decide) ?_
    exact kX8_read_32 C0 hlf hXP hex hK hJ  hP hS hl hp
def sX8_read_16 (x1 : Int32) (x2 : Int32) (x3 : Int32) (x4 : Int32) (sx0 : Int32) (σ : TS) : Option XR := (if sx0 = 0 then sX8_read_31 x1 x2 x3 x4 σ else ((sX5_isNumber x4 σ).bind (fun z => sX8_read_24 x1 x2 x3 x4 z.1 z.2)))
set_option maxHeartbeats 4000000 in
set_option maxRecDepth 100000 in
theorem kX8_read_16 {r : Int32 ⊕ Nat} {u : TS} (C0 : gC RX8 cX8_read 5 ((some .int)) wsX8_read p s m args meth c) (hlf : l.stackTraces = false) (hXP : xPre (gA 78 q) s) (hex : ∀ x ∈ c.exceptionTable.toList, False) (hK : va_K D vwCl (tyL cy) s) (hJ : gJ 78 q) {H : Heap} {locs : List Loc} {σ : TS} {x1 : Int32} {x2 : Int32} {x3 : Int32} {x4 : Int32} {sx0 : Int32} (hP : va_P D vwCl (gS 78 q (TX cy q) σ) H) (hS : va_S (gA 78 q) s.heap H locs) {ls : Array Slot} (hl : lv_has ls 5 [(0, .ref (q (0))), (1, .int x1), (2, .int x2), (3, .int x3), (4, .int x4)]) (hp : sX8_read_16 x1 x2 x3 x4 sx0 σ = some (r, u)) : W p l e rmX8_read s m args below meth c H locs 1 6 (vx_MQ below (gQx D vwCl r (gS 78 q (TX cy q) u) (gA 78 q)) (gXx D vwCl r (gS 78 q (TX cy q) u) (gA 78 q)) args s 2 12 (gA 78 q)) (F0 m 16 ls [.int sx0]) := by
  obtain ⟨hx, hb, hr, hml, hown, hts, hlocks⟩ := id C0
  unfold sX8_read_16 at hp
  refine lv_if_eq (tgt := 31) hx hb dX8_read_16 (by decide) (fun hcd12 => ?_) (fun hcd12 => ?_)
  · have hp := o_t hp hcd12
    exact kX8_read_31 C0 hlf hXP hex hK hJ  hP hS hl hp
  · have hp := o_f hp hcd12
    refine lv_iload hx hb dX8_read_19 (lv_at hl 4 rfl) ?_
    obtain ⟨⟨r13, u14⟩, hq15, hp⟩ := o_b hp
    refine g_cSi (As := [.int x4]) (rest := []) hx hb hml hown hts hK hP hS (mX5_isNumber l hJ hq15) (va_cwS 1 hts gX8_read_X5_isNumber rfl rfl rfl nVX5_isNumber ⟨Nat.le_of_ble_eq_true rfl, Nat.le_of_ble_eq_true rfl⟩) rfl hl.1 rfl (Nat.le_of_ble_eq_true rfl) dX8_read_21 ⟨Nat.le_of_ble_eq_true rfl, Nat.le_of_ble_eq_true rfl⟩ (fun H locs hP hS => ?_)
    exact kX8_read_24 C0 hlf hXP hex hK hJ  hP hS hl hp
def sX8_read_9 (x1 : Int32) (x2 : Int32) (x3 : Int32) (x4 : Int32) (sx0 : Int32) (σ : TS) : Option XR := (if sx0 = 0 then sX8_read_31 x1 x2 x3 x4 σ else ((sX5_isNumber x3 σ).bind (fun z => sX8_read_16 x1 x2 x3 x4 z.1 z.2)))
set_option maxHeartbeats 4000000 in
set_option maxRecDepth 100000 in
theorem kX8_read_9 {r : Int32 ⊕ Nat} {u : TS} (C0 : gC RX8 cX8_read 5 ((some .int)) wsX8_read p s m args meth c) (hlf : l.stackTraces = false) (hXP : xPre (gA 78 q) s) (hex : ∀ x ∈ c.exceptionTable.toList, False) (hK : va_K D vwCl (tyL cy) s) (hJ : gJ 78 q) {H : Heap} {locs : List Loc} {σ : TS} {x1 : Int32} {x2 : Int32} {x3 : Int32} {x4 : Int32} {sx0 : Int32} (hP : va_P D vwCl (gS 78 q (TX cy q) σ) H) (hS : va_S (gA 78 q) s.heap H locs) {ls : Array Slot} (hl : lv_has ls 5 [(0, .ref (q (0))), (1, .int x1), (2, .int x2), (3, .int x3), (4, .int x4)]) (hp : sX8_read_9 x1 x2 x3 x4 sx0 σ = some (r, u)) : W p l e rmX8_read s m args below meth c H locs 1 6 (vx_MQ below (gQx D vwCl r (gS 78 q (TX cy q) u) (gA 78 q)) (gXx D vwCl r (gS 78 q (TX cy q) u) (gA 78 q)) args s 2 12 (gA 78 q)) (F0 m 9 ls [.int sx0]) := by
  obtain ⟨hx, hb, hr, hml, hown, hts, hlocks⟩ := id C0
  unfold sX8_read_9 at hp
  refine lv_if_eq (tgt := 31) hx hb dX8_read_9 (by decide) (fun hcd16 => ?_) (fun hcd16 => ?_)
  · have hp := o_t hp hcd16
    exact kX8_read_31 C0 hlf hXP hex hK hJ  hP hS hl hp
  · have hp := o_f hp hcd16
    refine lv_iload_n hx hb dX8_read_12 rfl (lv_at hl 3 rfl) ?_
    obtain ⟨⟨r17, u18⟩, hq19, hp⟩ := o_b hp
    refine g_cSi (As := [.int x3]) (rest := []) hx hb hml hown hts hK hP hS (mX5_isNumber l hJ hq19) (va_cwS 1 hts gX8_read_X5_isNumber rfl rfl rfl nVX5_isNumber ⟨Nat.le_of_ble_eq_true rfl, Nat.le_of_ble_eq_true rfl⟩) rfl hl.1 rfl (Nat.le_of_ble_eq_true rfl) dX8_read_13 ⟨Nat.le_of_ble_eq_true rfl, Nat.le_of_ble_eq_true rfl⟩ (fun H locs hP hS => ?_)
    exact kX8_read_16 C0 hlf hXP hex hK hJ  hP hS hl hp
def sX8_read_5 (x1 : Int32) (x2 : Int32) (x3 : Int32) (x4 : Int32) (σ : TS) : Option XR := ((sX5_isNumber x2 σ).bind (fun z => sX8_read_9 x1 x2 x3 x4 z.1 z.2))
set_option maxHeartbeats 4000000 in
set_option maxRecDepth 100000 in
theorem kX8_read_5 {r : Int32 ⊕ Nat} {u : TS} (C0 : gC RX8 cX8_read 5 ((some .int)) wsX8_read p s m args meth c) (hlf : l.stackTraces = false) (hXP : xPre (gA 78 q) s) (hex : ∀ x ∈ c.exceptionTable.toList, False) (hK : va_K D vwCl (tyL cy) s) (hJ : gJ 78 q) {H : Heap} {locs : List Loc} {σ : TS} {x1 : Int32} {x2 : Int32} {x3 : Int32} {x4 : Int32} (hP : va_P D vwCl (gS 78 q (TX cy q) σ) H) (hS : va_S (gA 78 q) s.heap H locs) {ls : Array Slot} (hl : lv_has ls 5 [(0, .ref (q (0))), (1, .int x1), (2, .int x2), (3, .int x3), (4, .int x4)]) (hp : sX8_read_5 x1 x2 x3 x4 σ = some (r, u)) : W p l e rmX8_read s m args below meth c H locs 1 6 (vx_MQ below (gQx D vwCl r (gS 78 q (TX cy q) u) (gA 78 q)) (gXx D vwCl r (gS 78 q (TX cy q) u) (gA 78 q)) args s 2 12 (gA 78 q)) (F0 m 5 ls []) := by
  obtain ⟨hx, hb, hr, hml, hown, hts, hlocks⟩ := id C0
  unfold sX8_read_5 at hp
  refine lv_iload_n hx hb dX8_read_5 rfl (lv_at hl 2 rfl) ?_
  obtain ⟨⟨r20, u21⟩, hq22, hp⟩ := o_b hp
  refine g_cSi (As := [.int x2]) (rest := []) hx hb hml hown hts hK hP hS (mX5_isNumber l hJ hq22) (va_cwS 1 hts gX8_read_X5_isNumber rfl rfl rfl nVX5_isNumber ⟨Nat.le_of_ble_eq_true rfl, Nat.le_of_ble_eq_true rfl⟩) rfl hl.1 rfl (Nat.le_of_ble_eq_true rfl) dX8_read_6 ⟨Nat.le_of_ble_eq_true rfl, Nat.le_of_ble_eq_true rfl⟩ (fun H locs hP hS => ?_)
  exact kX8_read_9 C0 hlf hXP hex hK hJ  hP hS hl hp
def sX8_read_0 (x1 : Int32) (x2 : Int32) (x3 : Int32) (x4 : Int32) (σ : TS) : Option XR := ((sX8_requireIndex x1 ((4 : Int32)) σ).bind (fun z => o_x z (fun _ zs => sX8_read_5 x1 x2 x3 x4 zs)))
set_option maxHeartbeats 4000000 in
set_option maxRecDepth 100000 in
theorem kX8_read_0 {r : Int32 ⊕ Nat} {u : TS} (C0 : gC RX8 cX8_read 5 ((some .int)) wsX8_read p s m args meth c) (hlf : l.stackTraces = false) (hXP : xPre (gA 78 q) s) (hex : ∀ x ∈ c.exceptionTable.toList, False) (hK : va_K D vwCl (tyL cy) s) (hJ : gJ 78 q) {H : Heap} {locs : List Loc} {σ : TS} {x1 : Int32} {x2 : Int32} {x3 : Int32} {x4 : Int32} (hP : va_P D vwCl (gS 78 q (TX cy q) σ) H) (hS : va_S (gA 78 q) s.heap H locs) {ls : Array Slot} (hl : lv_has ls 5 [(0, .ref (q (0))), (1, .int x1), (2, .int x2), (3, .int x3), (4, .int x4)]) (hp : sX8_read_0 x1 x2 x3 x4 σ = some (r, u)) : W p l e rmX8_read s m args below meth c H locs 0 0 (vx_MQ below (gQx D vwCl r (gS 78 q (TX cy q) u) (gA 78 q)) (gXx D vwCl r (gS 78 q (TX cy q) u) (gA 78 q)) args s 2 12 (gA 78 q)) (F0 m 0 ls []) := by
  obtain ⟨hx, hb, hr, hml, hown, hts, hlocks⟩ := id C0
  unfold sX8_read_0 at hp
  refine lv_iload_n hx hb dX8_read_0 rfl (lv_at hl 1 rfl) ?_
  refine lv_iconst (v := (4 : Int32)) hx hb dX8_read_1 (by decide) ?_
  obtain ⟨⟨r23, u24⟩, hq25, hp⟩ := o_b hp
  rcases r23 with r23 | r23
  · refine g_xSv (As := [.int x1, .int ((4 : Int32))]) (rest := []) hx hb hml hown hts hK hXP hP hS (mX8_requireIndex l hlf hJ hq25) (va_cwS 2 hts gX8_read_X8_requireIndex rfl rfl rfl nVX8_requireIndex ⟨Nat.le_of_ble_eq_true rfl, Nat.le_of_ble_eq_true rfl⟩) rfl hl.1 rfl (Nat.le_of_ble_eq_true rfl) dX8_read_2 ⟨Nat.le_of_ble_eq_true rfl, Nat.le_of_ble_eq_true rfl⟩ (fun H locs hP hS => ?_)
    exact kX8_read_5 C0 hlf hXP hex hK hJ  hP hS hl hp
  · obtain ⟨rfl, rfl⟩ := o_r (a := (Sum.inr r23 : Int32 ⊕ Nat)) (b := u24) hp
    exact g_xSt (As := [.int x1, .int ((4 : Int32))]) (rest := []) hx hb hml hown hts hK hXP hP hS (mX8_requireIndex l hlf hJ hq25) (va_cwS 2 hts gX8_read_X8_requireIndex rfl rfl rfl nVX8_requireIndex ⟨Nat.le_of_ble_eq_true rfl, Nat.le_of_ble_eq_true rfl⟩) rfl hl.1 rfl (Nat.le_of_ble_eq_true rfl) dX8_read_2 ⟨Nat.le_of_ble_eq_true rfl, Nat.le_of_ble_eq_true rfl⟩ hex hlocks (Nat.le_of_ble_eq_true rfl) (Nat.le_of_ble_eq_true rfl)
def sX8_read (x1 : Int32) (x2 : Int32) (x3 : Int32) (x4 : Int32) (σ : TS) : Option XR := sX8_read_0 x1 x2 x3 x4 σ
theorem nVX8_read : yX8_read.cls = RX8 ∧ yX8_read.cls ≠ "java/lang/invoke/MethodHandle" ∧ yX8_read.cls ≠ "java/lang/invoke/VarHandle" ∧ (parseMethodDescriptor yX8_read.desc).map (fun d => d.parameters.length) = some 4 := by decide +kernel
set_option maxHeartbeats 4000000 in
set_option maxRecDepth 100000 in
theorem mX8_read (l : Launch) (hlf : l.stackTraces = false) (hJ : gJ 78 q) {x1 : Int32} {x2 : Int32} {x3 : Int32} {x4 : Int32} {σ : TS} {r : Int32 ⊕ Nat} {u : TS} (hp : sX8_read x1 x2 x3 x4 σ = some (r, u)) : vx_Met l yX8_read wsX8_read rmX8_read (va_Pc [.ref (q (0)), .int x1, .int x2, .int x3, .int x4] (gPreX D vwCl (tyL cy) (gS 78 q (TX cy q) σ) (gA 78 q))) (gQx D vwCl r (gS 78 q (TX cy q) u) (gA 78 q)) (gXx D vwCl r (gS 78 q (TX cy q) u) (gA 78 q)) 2 12 (gA 78 q) := by
  refine vx_ofW (cc := cX8_read) (maxL := 5) (ret := (some .int)) (by decide +kernel) rfl ?_
  intro p e s m args below meth c s₁ B hml hex hv
  obtain ⟨rfl, ⟨hP, hK⟩, hXP⟩ := hv
  have hl := lv_entry ([.ref (q (0)), .int x1, .int x2, .int x3, .int x4]) (n := 5) (Nat.le_of_ble_eq_true rfl)
  rw [lg_entry_eq]
  generalize (lg_sl ([.ref (q (0)), .int x1, .int x2, .int x3, .int x4]) ++ List.replicate (5 - (lg_sl ([.ref (q (0)), .int x1, .int x2, .int x3, .int x4])).length) Slot.unset).toArray = ls at hl ⊢
  have hl : lv_has ls 5 [(0, .ref (q (0))), (1, .int x1), (2, .int x2), (3, .int x3), (4, .int x4)] := hl
  exact kX8_read_0 ⟨B.exec, B.bytes, B.returns, hml, findClass_of_methodNamed B.named, atoms_spec (ws := wsX8_read) B.pre, B.notSynchronized⟩ hlf hXP hex hK hJ  hP va_S.rf hl hp
theorem miX8_limit_X7 : ∀ w ∈ u_ws RX7 TX7 4, w ∈ wsX8_limit := by decide +kernel
theorem miX8_limit_X8 : ∀ w ∈ u_ws RX8 TX8 16, w ∈ wsX8_limit := by decide +kernel
theorem mwX8_limit_0 : Cond.fieldLink RX8 39 "Triplane" "sensors" "[LTriplane$Sensor;" ∈ wsX8_limit := by decide +kernel
theorem mwX8_limit_1 : Cond.fieldLink RX8 210 "Triplane$Sensor" "farthest" "I" ∈ wsX8_limit := by decide +kernel
abbrev rmX8_limit : Room := { frames := 7, cells := 2, slots := 12, locals := 111 }
def sX8_limit_16 (x1 : Int32) (x2 : Int32) (σ : TS) : Option XR := (if vin x1 4 = true then some (Sum.inl (σ (66+(x1.toNatClampNeg)) 1), st2 σ (66+(x1.toNatClampNeg)) 1 x2) else none)
set_option maxHeartbeats 4000000 in
set_option maxRecDepth 100000 in
theorem kX8_limit_16 {r : Int32 ⊕ Nat} {u : TS} (C0 : gC RX8 cX8_limit 4 ((some .int)) wsX8_limit p s m args meth c) (hlf : l.stackTraces = false) (hXP : xPre (gA 78 q) s) (hex : ∀ x ∈ c.exceptionTable.toList, False) (hK : va_K D vwCl (tyL cy) s) (hJ : gJ 78 q) {H : Heap} {locs : List Loc} {σ : TS} {x1 : Int32} {x2 : Int32} (hP : va_P D vwCl (gS 78 q (TX cy q) σ) H) (hS : va_S (gA 78 q) s.heap H locs) {ls : Array Slot} (hl : lv_has ls 4 [(0, .ref (q (0))), (1, .int x1), (2, .int x2)]) (hp : sX8_limit_16 x1 x2 σ = some (r, u)) : W p l e rmX8_limit s m args below meth c H locs 2 12 (vx_MQ below (gQx D vwCl r (gS 78 q (TX cy q) u) (gA 78 q)) (gXx D vwCl r (gS 78 q (TX cy q) u) (gA 78 q)) args s 2 12 (gA 78 q)) (F0 m 16 ls []) := by
  obtain ⟨hx, hb, hr, hml, hown, hts, hlocks⟩ := id C0
  unfold sX8_limit_16 at hp
  refine lv_aload_n hx hb dX8_limit_16 rfl (lv_at hl 0 rfl) ?_
  refine g_get (v := .ref (q (7))) hx hb hts miX8_limit_X8 hown hK hP (kk_Tri) (ce_Tri) rfl 5 (by decide) mwX8_limit_0 rfl dX8_limit_17 ?_
  refine lv_iload_n hx hb dX8_limit_20 rfl (lv_at hl 1 rfl) ?_
  obtain ⟨hi1, hp⟩ := o_chk hp
  have hn2 : x1.toNatClampNeg < 4 := Nat.lt_of_lt_of_le (vin_lt hi1) (by decide)
  refine g_aald (j := x1.toNatClampNeg) hx hb hK hP (kk_SensArr) (ce_SensArr) 7 rfl rfl (vin_of hi1) rfl dX8_limit_21 ?_
  refine g_get (v := .int (σ (66+(x1.toNatClampNeg)) 1)) hx hb hts miX8_limit_X7 hown hK hP (kk_Sens hn2) (ce_Sens hn2) rfl 1 (by decide) mwX8_limit_1 rfl dX8_limit_22 ?_
  refine lv_istore_n (lv' := [(3, .int (σ (66+(x1.toNatClampNeg)) 1)), (0, .ref (q (0))), (1, .int x1), (2, .int x2)]) hx hb dX8_limit_25 rfl hl (by decide) rfl (fun ls hl => ?_)
  refine lv_aload_n hx hb dX8_limit_26 rfl (lv_at hl 1 rfl) ?_
  refine g_get (v := .ref (q (7))) hx hb hts miX8_limit_X8 hown hK hP (kk_Tri) (ce_Tri) rfl 5 (by decide) mwX8_limit_0 rfl dX8_limit_27 ?_
  refine lv_iload_n hx hb dX8_limit_30 rfl (lv_at hl 2 rfl) ?_
  have hn3 : x1.toNatClampNeg < 4 := Nat.lt_of_lt_of_le (vin_lt hi1) (by decide)
  refine g_aald (j := x1.toNatClampNeg) hx hb hK hP (kk_SensArr) (ce_SensArr) 7 rfl rfl (vin_of hi1) rfl dX8_limit_31 ?_
  refine lv_iload_n hx hb dX8_limit_32 rfl (lv_at hl 3 rfl) ?_
  refine g_put (v := x2) hx hb hts miX8_limit_X7 tyX7 tyX7_ok nmX7 hown hK hJ hP hS (kk_Sens hn3) (ce_Sens hn3) rfl 1 (by decide) mwX8_limit_1 rfl rfl rfl (Nat.le_of_ble_eq_true rfl) rfl dX8_limit_33 (fun H locs hP hS => ?_)
  refine lv_iload_n hx hb dX8_limit_36 rfl (lv_at hl 0 rfl) ?_
  obtain ⟨rfl, rfl⟩ := o_r hp
  refine W.widen (k := 2) (n := 12) (Nat.le_of_ble_eq_true rfl) (Nat.le_of_ble_eq_true rfl) ?_
  refine vx_ret ?_
  exact W.iret (v := σ (66+(x1.toNatClampNeg)) 1) hx hb hr (fun t ht hW => ⟨⟨σ (66+(x1.toNatClampNeg)) 1, (), rfl, rfl, by subst ht; exact hP⟩, hS.F ht⟩) hS.2.2 dX8_limit_37
def sX8_limit_13 (x1 : Int32) (x2 : Int32) (sx0 : Int32) (σ : TS) : Option XR := ((sX8_requireFit sx0 σ).bind (fun z => o_x z (fun _ zs => sX8_limit_16 x1 x2 zs)))
set_option maxHeartbeats 4000000 in
set_option maxRecDepth 100000 in
theorem kX8_limit_13 {r : Int32 ⊕ Nat} {u : TS} (C0 : gC RX8 cX8_limit 4 ((some .int)) wsX8_limit p s m args meth c) (hlf : l.stackTraces = false) (hXP : xPre (gA 78 q) s) (hex : ∀ x ∈ c.exceptionTable.toList, False) (hK : va_K D vwCl (tyL cy) s) (hJ : gJ 78 q) {H : Heap} {locs : List Loc} {σ : TS} {x1 : Int32} {x2 : Int32} {sx0 : Int32} (hP : va_P D vwCl (gS 78 q (TX cy q) σ) H) (hS : va_S (gA 78 q) s.heap H locs) {ls : Array Slot} (hl : lv_has ls 4 [(0, .ref (q (0))), (1, .int x1), (2, .int x2)]) (hp : sX8_limit_13 x1 x2 sx0 σ = some (r, u)) : W p l e rmX8_limit s m args below meth c H locs 1 6 (vx_MQ below (gQx D vwCl r (gS 78 q (TX cy q) u) (gA 78 q)) (gXx D vwCl r (gS 78 q (TX cy q) u) (gA 78 q)) args s 2 12 (gA 78 q)) (F0 m 13 ls [.int sx0]) := by
  obtain ⟨hx, hb, hr, hml, hown, hts, hlocks⟩ := id C0
  unfold sX8_limit_13 at hp
  obtain ⟨⟨r4, u5⟩, hq6, hp⟩ := o_b hp
  rcases r4 with r4 | r4
  · refine g_xSv (As := [.int sx0]) (rest := []) hx hb hml hown hts hK hXP hP hS (mX8_requireFit l hlf hJ hq6) (va_cwS 1 hts gX8_limit_X8_requireFit rfl rfl rfl nVX8_requireFit ⟨Nat.le_of_ble_eq_true rfl, Nat.le_of_ble_eq_true rfl⟩) rfl hl.1 rfl (Nat.le_of_ble_eq_true rfl) dX8_limit_13 ⟨Nat.le_of_ble_eq_true rfl, Nat.le_of_ble_eq_true rfl⟩ (fun H locs hP hS => ?_)
    exact kX8_limit_16 C0 hlf hXP hex hK hJ  hP hS hl hp
  · obtain ⟨rfl, rfl⟩ := o_r (a := (Sum.inr r4 : Int32 ⊕ Nat)) (b := u5) hp
    exact g_xSt (As := [.int sx0]) (rest := []) hx hb hml hown hts hK hXP hP hS (mX8_requireFit l hlf hJ hq6) (va_cwS 1 hts gX8_limit_X8_requireFit rfl rfl rfl nVX8_requireFit ⟨Nat.le_of_ble_eq_true rfl, Nat.le_of_ble_eq_true rfl⟩) rfl hl.1 rfl (Nat.le_of_ble_eq_true rfl) dX8_limit_13 ⟨Nat.le_of_ble_eq_true rfl, Nat.le_of_ble_eq_true rfl⟩ hex hlocks (Nat.le_of_ble_eq_true rfl) (Nat.le_of_ble_eq_true rfl)
def sX8_limit_5 (x1 : Int32) (x2 : Int32) (σ : TS) : Option XR := ((sX5_isWithin x2 ((0 : Int32)) ((32767 : Int32)) σ).bind (fun z => sX8_limit_13 x1 x2 z.1 z.2))
set_option maxHeartbeats 4000000 in
set_option maxRecDepth 100000 in
theorem kX8_limit_5 {r : Int32 ⊕ Nat} {u : TS} (C0 : gC RX8 cX8_limit 4 ((some .int)) wsX8_limit p s m args meth c) (hlf : l.stackTraces = false) (hXP : xPre (gA 78 q) s) (hex : ∀ x ∈ c.exceptionTable.toList, False) (hK : va_K D vwCl (tyL cy) s) (hJ : gJ 78 q) {H : Heap} {locs : List Loc} {σ : TS} {x1 : Int32} {x2 : Int32} (hP : va_P D vwCl (gS 78 q (TX cy q) σ) H) (hS : va_S (gA 78 q) s.heap H locs) {ls : Array Slot} (hl : lv_has ls 4 [(0, .ref (q (0))), (1, .int x1), (2, .int x2)]) (hp : sX8_limit_5 x1 x2 σ = some (r, u)) : W p l e rmX8_limit s m args below meth c H locs 1 6 (vx_MQ below (gQx D vwCl r (gS 78 q (TX cy q) u) (gA 78 q)) (gXx D vwCl r (gS 78 q (TX cy q) u) (gA 78 q)) args s 2 12 (gA 78 q)) (F0 m 5 ls []) := by
  obtain ⟨hx, hb, hr, hml, hown, hts, hlocks⟩ := id C0
  unfold sX8_limit_5 at hp
  refine lv_iload_n hx hb dX8_limit_5 rfl (lv_at hl 2 rfl) ?_
  refine lv_iconst (v := (0 : Int32)) hx hb dX8_limit_6 (by decide) ?_
  refine lv_sipush (v := (32767 : Int32)) hx hb dX8_limit_7 (by decide) ?_
  obtain ⟨⟨r7, u8⟩, hq9, hp⟩ := o_b hp
  refine g_cSi (As := [.int x2, .int ((0 : Int32)), .int ((32767 : Int32))]) (rest := []) hx hb hml hown hts hK hP hS (mX5_isWithin l hJ hq9) (va_cwS 3 hts gX8_limit_X5_isWithin rfl rfl rfl nVX5_isWithin ⟨Nat.le_of_ble_eq_true rfl, Nat.le_of_ble_eq_true rfl⟩) rfl hl.1 rfl (Nat.le_of_ble_eq_true rfl) dX8_limit_10 ⟨Nat.le_of_ble_eq_true rfl, Nat.le_of_ble_eq_true rfl⟩ (fun H locs hP hS => ?_)
  exact kX8_limit_13 C0 hlf hXP hex hK hJ  hP hS hl hp
def sX8_limit_0 (x1 : Int32) (x2 : Int32) (σ : TS) : Option XR := ((sX8_requireIndex x1 ((4 : Int32)) σ).bind (fun z => o_x z (fun _ zs => sX8_limit_5 x1 x2 zs)))
set_option maxHeartbeats 4000000 in
set_option maxRecDepth 100000 in
theorem kX8_limit_0 {r : Int32 ⊕ Nat} {u : TS} (C0 : gC RX8 cX8_limit 4 ((some .int)) wsX8_limit p s m args meth c) (hlf : l.stackTraces = false) (hXP : xPre (gA 78 q) s) (hex : ∀ x ∈ c.exceptionTable.toList, False) (hK : va_K D vwCl (tyL cy) s) (hJ : gJ 78 q) {H : Heap} {locs : List Loc} {σ : TS} {x1 : Int32} {x2 : Int32} (hP : va_P D vwCl (gS 78 q (TX cy q) σ) H) (hS : va_S (gA 78 q) s.heap H locs) {ls : Array Slot} (hl : lv_has ls 4 [(0, .ref (q (0))), (1, .int x1), (2, .int x2)]) (hp : sX8_limit_0 x1 x2 σ = some (r, u)) : W p l e rmX8_limit s m args below meth c H locs 0 0 (vx_MQ below (gQx D vwCl r (gS 78 q (TX cy q) u) (gA 78 q)) (gXx D vwCl r (gS 78 q (TX cy q) u) (gA 78 q)) args s 2 12 (gA 78 q)) (F0 m 0 ls []) := by
  obtain ⟨hx, hb, hr, hml, hown, hts, hlocks⟩ := id C0
  unfold sX8_limit_0 at hp
  refine lv_iload_n hx hb dX8_limit_0 rfl (lv_at hl 1 rfl) ?_
  refine lv_iconst (v := (4 : Int32)) hx hb dX8_limit_1 (by decide) ?_
  obtain ⟨⟨r10, u11⟩, hq12, hp⟩ := o_b hp
  rcases r10 with r10 | r10
  · refine g_xSv (As := [.int x1, .int ((4 : Int32))]) (rest := []) hx hb hml hown hts hK hXP hP hS (mX8_requireIndex l hlf hJ hq12) (va_cwS 2 hts gX8_limit_X8_requireIndex rfl rfl rfl nVX8_requireIndex ⟨Nat.le_of_ble_eq_true rfl, Nat.le_of_ble_eq_true rfl⟩) rfl hl.1 rfl (Nat.le_of_ble_eq_true rfl) dX8_limit_2 ⟨Nat.le_of_ble_eq_true rfl, Nat.le_of_ble_eq_true rfl⟩ (fun H locs hP hS => ?_)
    exact kX8_limit_5 C0 hlf hXP hex hK hJ  hP hS hl hp
  · obtain ⟨rfl, rfl⟩ := o_r (a := (Sum.inr r10 : Int32 ⊕ Nat)) (b := u11) hp
    exact g_xSt (As := [.int x1, .int ((4 : Int32))]) (rest := []) hx hb hml hown hts hK hXP hP hS (mX8_requireIndex l hlf hJ hq12) (va_cwS 2 hts gX8_limit_X8_requireIndex rfl rfl rfl nVX8_requireIndex ⟨Nat.le_of_ble_eq_true rfl, Nat.le_of_ble_eq_true rfl⟩) rfl hl.1 rfl (Nat.le_of_ble_eq_true rfl) dX8_limit_2 ⟨Nat.le_of_ble_eq_true rfl, Nat.le_of_ble_eq_true rfl⟩ hex hlocks (Nat.le_of_ble_eq_true rfl) (Nat.le_of_ble_eq_true rfl)
def sX8_limit (x1 : Int32) (x2 : Int32) (σ : TS) : Option XR := sX8_limit_0 x1 x2 σ
theorem nVX8_limit : yX8_limit.cls = RX8 ∧ yX8_limit.cls ≠ "java/lang/invoke/MethodHandle" ∧ yX8_limit.cls ≠ "java/lang/invoke/VarHandle" ∧ (parseMethodDescriptor yX8_limit.desc).map (fun d => d.parameters.length) = some 2 := by decide +kernel
set_option maxHeartbeats 4000000 in
set_option maxRecDepth 100000 in
theorem mX8_limit (l : Launch) (hlf : l.stackTraces = false) (hJ : gJ 78 q) {x1 : Int32} {x2 : Int32} {σ : TS} {r : Int32 ⊕ Nat} {u : TS} (hp : sX8_limit x1 x2 σ = some (r, u)) : vx_Met l yX8_limit wsX8_limit rmX8_limit (va_Pc [.ref (q (0)), .int x1, .int x2] (gPreX D vwCl (tyL cy) (gS 78 q (TX cy q) σ) (gA 78 q))) (gQx D vwCl r (gS 78 q (TX cy q) u) (gA 78 q)) (gXx D vwCl r (gS 78 q (TX cy q) u) (gA 78 q)) 2 12 (gA 78 q) := by
  refine vx_ofW (cc := cX8_limit) (maxL := 4) (ret := (some .int)) (by decide +kernel) rfl ?_
  intro p e s m args below meth c s₁ B hml hex hv
  obtain ⟨rfl, ⟨hP, hK⟩, hXP⟩ := hv
  have hl := lv_entry ([.ref (q (0)), .int x1, .int x2]) (n := 4) (Nat.le_of_ble_eq_true rfl)
  rw [lg_entry_eq]
  generalize (lg_sl ([.ref (q (0)), .int x1, .int x2]) ++ List.replicate (4 - (lg_sl ([.ref (q (0)), .int x1, .int x2])).length) Slot.unset).toArray = ls at hl ⊢
  have hl : lv_has ls 4 [(0, .ref (q (0))), (1, .int x1), (2, .int x2)] := hl
  exact kX8_limit_0 ⟨B.exec, B.bytes, B.returns, hml, findClass_of_methodNamed B.named, atoms_spec (ws := wsX8_limit) B.pre, B.notSynchronized⟩ hlf hXP hex hK hJ  hP va_S.rf hl hp
theorem miX8_agreed_X7 : ∀ w ∈ u_ws RX7 TX7 4, w ∈ wsX8_agreed := by decide +kernel
theorem miX8_agreed_X8 : ∀ w ∈ u_ws RX8 TX8 16, w ∈ wsX8_agreed := by decide +kernel
theorem mwX8_agreed_0 : Cond.fieldLink RX8 39 "Triplane" "sensors" "[LTriplane$Sensor;" ∈ wsX8_agreed := by decide +kernel
theorem mwX8_agreed_1 : Cond.fieldLink RX8 213 "Triplane$Sensor" "agreedNumber" "I" ∈ wsX8_agreed := by decide +kernel
abbrev rmX8_agreed : Room := { frames := 7, cells := 1, slots := 6, locals := 111 }
def sX8_agreed_5 (x1 : Int32) (σ : TS) : Option XR := (if vin x1 4 = true then some (Sum.inl (σ (66+(x1.toNatClampNeg)) 2), σ) else none)
set_option maxHeartbeats 4000000 in
set_option maxRecDepth 100000 in
theorem kX8_agreed_5 {r : Int32 ⊕ Nat} {u : TS} (C0 : gC RX8 cX8_agreed 2 ((some .int)) wsX8_agreed p s m args meth c) (hlf : l.stackTraces = false) (hXP : xPre (gA 78 q) s) (hex : ∀ x ∈ c.exceptionTable.toList, False) (hK : va_K D vwCl (tyL cy) s) (hJ : gJ 78 q) {H : Heap} {locs : List Loc} {σ : TS} {x1 : Int32} (hP : va_P D vwCl (gS 78 q (TX cy q) σ) H) (hS : va_S (gA 78 q) s.heap H locs) {ls : Array Slot} (hl : lv_has ls 2 [(0, .ref (q (0))), (1, .int x1)]) (hp : sX8_agreed_5 x1 σ = some (r, u)) : W p l e rmX8_agreed s m args below meth c H locs 1 6 (vx_MQ below (gQx D vwCl r (gS 78 q (TX cy q) u) (gA 78 q)) (gXx D vwCl r (gS 78 q (TX cy q) u) (gA 78 q)) args s 1 6 (gA 78 q)) (F0 m 5 ls []) := by
  obtain ⟨hx, hb, hr, hml, hown, hts, hlocks⟩ := id C0
  unfold sX8_agreed_5 at hp
  refine lv_aload_n hx hb dX8_agreed_5 rfl (lv_at hl 0 rfl) ?_
  refine g_get (v := .ref (q (7))) hx hb hts miX8_agreed_X8 hown hK hP (kk_Tri) (ce_Tri) rfl 5 (by decide) mwX8_agreed_0 rfl dX8_agreed_6 ?_
  refine lv_iload_n hx hb dX8_agreed_9 rfl (lv_at hl 1 rfl) ?_
  obtain ⟨hi1, hp⟩ := o_chk hp
  have hn2 : x1.toNatClampNeg < 4 := Nat.lt_of_lt_of_le (vin_lt hi1) (by decide)
  refine g_aald (j := x1.toNatClampNeg) hx hb hK hP (kk_SensArr) (ce_SensArr) 7 rfl rfl (vin_of hi1) rfl dX8_agreed_10 ?_
  refine g_get (v := .int (σ (66+(x1.toNatClampNeg)) 2)) hx hb hts miX8_agreed_X7 hown hK hP (kk_Sens hn2) (ce_Sens hn2) rfl 2 (by decide) mwX8_agreed_1 rfl dX8_agreed_11 ?_
  obtain ⟨rfl, rfl⟩ := o_r hp
  refine W.widen (k := 1) (n := 6) (Nat.le_of_ble_eq_true rfl) (Nat.le_of_ble_eq_true rfl) ?_
  refine vx_ret ?_
  exact W.iret (v := σ (66+(x1.toNatClampNeg)) 2) hx hb hr (fun t ht hW => ⟨⟨σ (66+(x1.toNatClampNeg)) 2, (), rfl, rfl, by subst ht; exact hP⟩, hS.F ht⟩) hS.2.2 dX8_agreed_14
def sX8_agreed_0 (x1 : Int32) (σ : TS) : Option XR := ((sX8_requireIndex x1 ((4 : Int32)) σ).bind (fun z => o_x z (fun _ zs => sX8_agreed_5 x1 zs)))
set_option maxHeartbeats 4000000 in
set_option maxRecDepth 100000 in
theorem kX8_agreed_0 {r : Int32 ⊕ Nat} {u : TS} (C0 : gC RX8 cX8_agreed 2 ((some .int)) wsX8_agreed p s m args meth c) (hlf : l.stackTraces = false) (hXP : xPre (gA 78 q) s) (hex : ∀ x ∈ c.exceptionTable.toList, False) (hK : va_K D vwCl (tyL cy) s) (hJ : gJ 78 q) {H : Heap} {locs : List Loc} {σ : TS} {x1 : Int32} (hP : va_P D vwCl (gS 78 q (TX cy q) σ) H) (hS : va_S (gA 78 q) s.heap H locs) {ls : Array Slot} (hl : lv_has ls 2 [(0, .ref (q (0))), (1, .int x1)]) (hp : sX8_agreed_0 x1 σ = some (r, u)) : W p l e rmX8_agreed s m args below meth c H locs 0 0 (vx_MQ below (gQx D vwCl r (gS 78 q (TX cy q) u) (gA 78 q)) (gXx D vwCl r (gS 78 q (TX cy q) u) (gA 78 q)) args s 1 6 (gA 78 q)) (F0 m 0 ls []) := by
  obtain ⟨hx, hb, hr, hml, hown, hts, hlocks⟩ := id C0
  unfold sX8_agreed_0 at hp
  refine lv_iload_n hx hb dX8_agreed_0 rfl (lv_at hl 1 rfl) ?_
  refine lv_iconst (v := (4 : Int32)) hx hb dX8_agreed_1 (by decide) ?_
  obtain ⟨⟨r3, u4⟩, hq5, hp⟩ := o_b hp
  rcases r3 with r3 | r3
  · refine g_xSv (As := [.int x1, .int ((4 : Int32))]) (rest := []) hx hb hml hown hts hK hXP hP hS (mX8_requireIndex l hlf hJ hq5) (va_cwS 2 hts gX8_agreed_X8_requireIndex rfl rfl rfl nVX8_requireIndex ⟨Nat.le_of_ble_eq_true rfl, Nat.le_of_ble_eq_true rfl⟩) rfl hl.1 rfl (Nat.le_of_ble_eq_true rfl) dX8_agreed_2 ⟨Nat.le_of_ble_eq_true rfl, Nat.le_of_ble_eq_true rfl⟩ (fun H locs hP hS => ?_)
    exact kX8_agreed_5 C0 hlf hXP hex hK hJ  hP hS hl hp
  · obtain ⟨rfl, rfl⟩ := o_r (a := (Sum.inr r3 : Int32 ⊕ Nat)) (b := u4) hp
    exact g_xSt (As := [.int x1, .int ((4 : Int32))]) (rest := []) hx hb hml hown hts hK hXP hP hS (mX8_requireIndex l hlf hJ hq5) (va_cwS 2 hts gX8_agreed_X8_requireIndex rfl rfl rfl nVX8_requireIndex ⟨Nat.le_of_ble_eq_true rfl, Nat.le_of_ble_eq_true rfl⟩) rfl hl.1 rfl (Nat.le_of_ble_eq_true rfl) dX8_agreed_2 ⟨Nat.le_of_ble_eq_true rfl, Nat.le_of_ble_eq_true rfl⟩ hex hlocks (Nat.le_of_ble_eq_true rfl) (Nat.le_of_ble_eq_true rfl)
def sX8_agreed (x1 : Int32) (σ : TS) : Option XR := sX8_agreed_0 x1 σ
theorem nVX8_agreed : yX8_agreed.cls = RX8 ∧ yX8_agreed.cls ≠ "java/lang/invoke/MethodHandle" ∧ yX8_agreed.cls ≠ "java/lang/invoke/VarHandle" ∧ (parseMethodDescriptor yX8_agreed.desc).map (fun d => d.parameters.length) = some 1 := by decide +kernel
set_option maxHeartbeats 4000000 in
set_option maxRecDepth 100000 in
theorem mX8_agreed (l : Launch) (hlf : l.stackTraces = false) (hJ : gJ 78 q) {x1 : Int32} {σ : TS} {r : Int32 ⊕ Nat} {u : TS} (hp : sX8_agreed x1 σ = some (r, u)) : vx_Met l yX8_agreed wsX8_agreed rmX8_agreed (va_Pc [.ref (q (0)), .int x1] (gPreX D vwCl (tyL cy) (gS 78 q (TX cy q) σ) (gA 78 q))) (gQx D vwCl r (gS 78 q (TX cy q) u) (gA 78 q)) (gXx D vwCl r (gS 78 q (TX cy q) u) (gA 78 q)) 1 6 (gA 78 q) := by
  refine vx_ofW (cc := cX8_agreed) (maxL := 2) (ret := (some .int)) (by decide +kernel) rfl ?_
  intro p e s m args below meth c s₁ B hml hex hv
  obtain ⟨rfl, ⟨hP, hK⟩, hXP⟩ := hv
  have hl := lv_entry ([.ref (q (0)), .int x1]) (n := 2) (Nat.le_of_ble_eq_true rfl)
  rw [lg_entry_eq]
  generalize (lg_sl ([.ref (q (0)), .int x1]) ++ List.replicate (2 - (lg_sl ([.ref (q (0)), .int x1])).length) Slot.unset).toArray = ls at hl ⊢
  have hl : lv_has ls 2 [(0, .ref (q (0))), (1, .int x1)] := hl
  exact kX8_agreed_0 ⟨B.exec, B.bytes, B.returns, hml, findClass_of_methodNamed B.named, atoms_spec (ws := wsX8_agreed) B.pre, B.notSynchronized⟩ hlf hXP hex hK hJ  hP va_S.rf hl hp
theorem miX8_drift_X1 : ∀ w ∈ u_ws RX1 TX1 14, w ∈ wsX8_drift := by decide +kernel
theorem miX8_drift_X8 : ∀ w ∈ u_ws RX8 TX8 16, w ∈ wsX8_drift := by decide +kernel
theorem mwX8_drift_0 : Cond.fieldLink RX8 11 "Triplane" "computers" "[LTriplane$Computer;" ∈ wsX8_drift := by decide +kernel
theorem mwX8_drift_1 : Cond.fieldLink RX8 216 "Triplane$Computer" "driftPerFrame" "I" ∈ wsX8_drift := by decide +kernel
abbrev rmX8_drift : Room := { frames := 7, cells := 2, slots := 12, locals := 111 }
def sX8_drift_16 (x1 : Int32) (x2 : Int32) (σ : TS) : Option XR := (if vin x1 3 = true then some (Sum.inl (σ (15+6*(x1.toNatClampNeg)) 3), st2 σ (15+6*(x1.toNatClampNeg)) 3 x2) else none)
set_option maxHeartbeats 4000000 in
set_option maxRecDepth 100000 in
theorem kX8_drift_16 {r : Int32 ⊕ Nat} {u : TS} (C0 : gC RX8 cX8_drift 4 ((some .int)) wsX8_drift p s m args meth c) (hlf : l.stackTraces = false) (hXP : xPre (gA 78 q) s) (hex : ∀ x ∈ c.exceptionTable.toList, False) (hK : va_K D vwCl (tyL cy) s) (hJ : gJ 78 q) {H : Heap} {locs : List Loc} {σ : TS} {x1 : Int32} {x2 : Int32} (hP : va_P D vwCl (gS 78 q (TX cy q) σ) H) (hS : va_S (gA 78 q) s.heap H locs) {ls : Array Slot} (hl : lv_has ls 4 [(0, .ref (q (0))), (1, .int x1), (2, .int x2)]) (hp : sX8_drift_16 x1 x2 σ = some (r, u)) : W p l e rmX8_drift s m args below meth c H locs 2 12 (vx_MQ below (gQx D vwCl r (gS 78 q (TX cy q) u) (gA 78 q)) (gXx D vwCl r (gS 78 q (TX cy q) u) (gA 78 q)) args s 2 12 (gA 78 q)) (F0 m 16 ls []) := by
  obtain ⟨hx, hb, hr, hml, hown, hts, hlocks⟩ := id C0
  unfold sX8_drift_16 at hp
  refine lv_aload_n hx hb dX8_drift_16 rfl (lv_at hl 0 rfl) ?_
  refine g_get (v := .ref (q (1))) hx hb hts miX8_drift_X8 hown hK hP (kk_Tri) (ce_Tri) rfl 0 (by decide) mwX8_drift_0 rfl dX8_drift_17 ?_
  refine lv_iload_n hx hb dX8_drift_20 rfl (lv_at hl 1 rfl) ?_
  obtain ⟨hi1, hp⟩ := o_chk hp
  have hn2 : x1.toNatClampNeg < 4 := Nat.lt_of_lt_of_le (vin_lt hi1) (by decide)
  refine g_aald (j := x1.toNatClampNeg) hx hb hK hP (kk_CompArr) (ce_CompArr) 3 rfl rfl (vin_of hi1) rfl dX8_drift_21 ?_
  refine g_get (v := .int (σ (15+6*(x1.toNatClampNeg)) 3)) hx hb hts miX8_drift_X1 hown hK hP (kk_Comp hn2) (ce_Comp hn2) rfl 3 (by decide) mwX8_drift_1 rfl dX8_drift_22 ?_
  refine lv_istore_n (lv' := [(3, .int (σ (15+6*(x1.toNatClampNeg)) 3)), (0, .ref (q (0))), (1, .int x1), (2, .int x2)]) hx hb dX8_drift_25 rfl hl (by decide) rfl (fun ls hl => ?_)
  refine lv_aload_n hx hb dX8_drift_26 rfl (lv_at hl 1 rfl) ?_
  refine g_get (v := .ref (q (1))) hx hb hts miX8_drift_X8 hown hK hP (kk_Tri) (ce_Tri) rfl 0 (by decide) mwX8_drift_0 rfl dX8_drift_27 ?_
  refine lv_iload_n hx hb dX8_drift_30 rfl (lv_at hl 2 rfl) ?_
  have hn3 : x1.toNatClampNeg < 4 := Nat.lt_of_lt_of_le (vin_lt hi1) (by decide)
  refine g_aald (j := x1.toNatClampNeg) hx hb hK hP (kk_CompArr) (ce_CompArr) 3 rfl rfl (vin_of hi1) rfl dX8_drift_31 ?_
  refine lv_iload_n hx hb dX8_drift_32 rfl (lv_at hl 3 rfl) ?_
  refine g_put (v := x2) hx hb hts miX8_drift_X1 tyX1 tyX1_ok nmX1 hown hK hJ hP hS (kk_Comp hn3) (ce_Comp hn3) rfl 3 (by decide) mwX8_drift_1 rfl rfl rfl (Nat.le_of_ble_eq_true rfl) rfl dX8_drift_33 (fun H locs hP hS => ?_)
  refine lv_iload_n hx hb dX8_drift_36 rfl (lv_at hl 0 rfl) ?_
  obtain ⟨rfl, rfl⟩ := o_r hp
  refine W.widen (k := 2) (n := 12) (Nat.le_of_ble_eq_true rfl) (Nat.le_of_ble_eq_true rfl) ?_
  refine vx_ret ?_
  exact W.iret (v := σ (15+6*(x1.toNatClampNeg)) 3) hx hb hr (fun t ht hW => ⟨⟨σ (15+6*(x1.toNatClampNeg)) 3, (), rfl, rfl, by subst ht; exact hP⟩, hS.F ht⟩) hS.2.2 dX8_drift_37
def sX8_drift_13 (x1 : Int32) (x2 : Int32) (sx0 : Int32) (σ : TS) : Option XR := ((sX8_requireFit sx0 σ).bind (fun z => o_x z (fun _ zs => sX8_drift_16 x1 x2 zs)))
set_option maxHeartbeats 4000000 in
set_option maxRecDepth 100000 in
theorem kX8_drift_13 {r : Int32 ⊕ Nat} {u : TS} (C0 : gC RX8 cX8_drift 4 ((some .int)) wsX8_drift p s m args meth c) (hlf : l.stackTraces = false) (hXP : xPre (gA 78 q) s) (hex : ∀ x ∈ c.exceptionTable.toList, False) (hK : va_K D vwCl (tyL cy) s) (hJ : gJ 78 q) {H : Heap} {locs : List Loc} {σ : TS} {x1 : Int32} {x2 : Int32} {sx0 : Int32} (hP : va_P D vwCl (gS 78 q (TX cy q) σ) H) (hS : va_S (gA 78 q) s.heap H locs) {ls : Array Slot} (hl : lv_has ls 4 [(0, .ref (q (0))), (1, .int x1), (2, .int x2)]) (hp : sX8_drift_13 x1 x2 sx0 σ = some (r, u)) : W p l e rmX8_drift s m args below meth c H locs 1 6 (vx_MQ below (gQx D vwCl r (gS 78 q (TX cy q) u) (gA 78 q)) (gXx D vwCl r (gS 78 q (TX cy q) u) (gA 78 q)) args s 2 12 (gA 78 q)) (F0 m 13 ls [.int sx0]) := by
  obtain ⟨hx, hb, hr, hml, hown, hts, hlocks⟩ := id C0
  unfold sX8_drift_13 at hp
  obtain ⟨⟨r4, u5⟩, hq6, hp⟩ := o_b hp
  rcases r4 with r4 | r4
  · refine g_xSv (As := [.int sx0]) (rest := []) hx hb hml hown hts hK hXP hP hS (mX8_requireFit l hlf hJ hq6) (va_cwS 1 hts gX8_drift_X8_requireFit rfl rfl rfl nVX8_requireFit ⟨Nat.le_of_ble_eq_true rfl, Nat.le_of_ble_eq_true rfl⟩) rfl hl.1 rfl (Nat.le_of_ble_eq_true rfl) dX8_drift_13 ⟨Nat.le_of_ble_eq_true rfl, Nat.le_of_ble_eq_true rfl⟩ (fun H locs hP hS => ?_)
    exact kX8_drift_16 C0 hlf hXP hex hK hJ  hP hS hl hp
  · obtain ⟨rfl, rfl⟩ := o_r (a := (Sum.inr r4 : Int32 ⊕ Nat)) (b := u5) hp
    exact g_xSt (As := [.int sx0]) (rest := []) hx hb hml hown hts hK hXP hP hS (mX8_requireFit l hlf hJ hq6) (va_cwS 1 hts gX8_drift_X8_requireFit rfl rfl rfl nVX8_requireFit ⟨Nat.le_of_ble_eq_true rfl, Nat.le_of_ble_eq_true rfl⟩) rfl hl.1 rfl (Nat.le_of_ble_eq_true rfl) dX8_drift_13 ⟨Nat.le_of_ble_eq_true rfl, Nat.le_of_ble_eq_true rfl⟩ hex hlocks (Nat.le_of_ble_eq_true rfl) (Nat.le_of_ble_eq_true rfl)
def sX8_drift_5 (x1 : Int32) (x2 : Int32) (σ : TS) : Option XR := ((sX5_isWithin x2 ((-9 : Int32)) ((9 : Int32)) σ).bind (fun z => sX8_drift_13 x1 x2 z.1 z.2))
set_option maxHeartbeats 4000000 in
set_option maxRecDepth 100000 in
theorem kX8_drift_5 {r : Int32 ⊕ Nat} {u : TS} (C0 : gC RX8 cX8_drift 4 ((some .int)) wsX8_drift p s m args meth c) (hlf : l.stackTraces = false) (hXP : xPre (gA 78 q) s) (hex : ∀ x ∈ c.exceptionTable.toList, False) (hK : va_K D vwCl (tyL cy) s) (hJ : gJ 78 q) {H : Heap} {locs : List Loc} {σ : TS} {x1 : Int32} {x2 : Int32} (hP : va_P D vwCl (gS 78 q (TX cy q) σ) H) (hS : va_S (gA 78 q) s.heap H locs) {ls : Array Slot} (hl : lv_has ls 4 [(0, .ref (q (0))), (1, .int x1), (2, .int x2)]) (hp : sX8_drift_5 x1 x2 σ = some (r, u)) : W p l e rmX8_drift s m args below meth c H locs 1 6 (vx_MQ below (gQx D vwCl r (gS 78 q (TX cy q) u) (gA 78 q)) (gXx D vwCl r (gS 78 q (TX cy q) u) (gA 78 q)) args s 2 12 (gA 78 q)) (F0 m 5 ls []) := by
  obtain ⟨hx, hb, hr, hml, hown, hts, hlocks⟩ := id C0
  unfold sX8_drift_5 at hp
  refine lv_iload_n hx hb dX8_drift_5 rfl (lv_at hl 2 rfl) ?_
  refine lv_bipush (v := (-9 : Int32)) hx hb dX8_drift_6 (by decide) ?_
  refine lv_bipush (v := (9 : Int32)) hx hb dX8_drift_8 (by decide) ?_
  obtain ⟨⟨r7, u8⟩, hq9, hp⟩ := o_b hp
  refine g_cSi (As := [.int x2, .int ((-9 : Int32)), .int ((9 : Int32))]) (rest := []) hx hb hml hown hts hK hP hS (mX5_isWithin l hJ hq9) (va_cwS 3 hts gX8_drift_X5_isWithin rfl rfl rfl nVX5_isWithin ⟨Nat.le_of_ble_eq_true rfl, Nat.le_of_ble_eq_true rfl⟩) rfl hl.1 rfl (Nat.le_of_ble_eq_true rfl) dX8_drift_10 ⟨Nat.le_of_ble_eq_true rfl, Nat.le_of_ble_eq_true rfl⟩ (fun H locs hP hS => ?_)
  exact kX8_drift_13 C0 hlf hXP hex hK hJ  hP hS hl hp
def sX8_drift_0 (x1 : Int32) (x2 : Int32) (σ : TS) : Option XR := ((sX8_requireIndex x1 ((3 : Int32)) σ).bind (fun z => o_x z (fun _ zs => sX8_drift_5 x1 x2 zs)))
set_option maxHeartbeats 4000000 in
set_option maxRecDepth 100000 in
theorem kX8_drift_0 {r : Int32 ⊕ Nat} {u : TS} (C0 : gC RX8 cX8_drift 4 ((some .int)) wsX8_drift p s m args meth c) (hlf : l.stackTraces = false) (hXP : xPre (gA 78 q) s) (hex : ∀ x ∈ c.exceptionTable.toList, False) (hK : va_K D vwCl (tyL cy) s) (hJ : gJ 78 q) {H : Heap} {locs : List Loc} {σ : TS} {x1 : Int32} {x2 : Int32} (hP : va_P D vwCl (gS 78 q (TX cy q) σ) H) (hS : va_S (gA 78 q) s.heap H locs) {ls : Array Slot} (hl : lv_has ls 4 [(0, .ref (q (0))), (1, .int x1), (2, .int x2)]) (hp : sX8_drift_0 x1 x2 σ = some (r, u)) : W p l e rmX8_drift s m args below meth c H locs 0 0 (vx_MQ below (gQx D vwCl r (gS 78 q (TX cy q) u) (gA 78 q)) (gXx D vwCl r (gS 78 q (TX cy q) u) (gA 78 q)) args s 2 12 (gA 78 q)) (F0 m 0 ls []) := by
  obtain ⟨hx, hb, hr, hml, hown, hts, hlocks⟩ := id C0
  unfold sX8_drift_0 at hp
  refine lv_iload_n hx hb dX8_drift_0 rfl (lv_at hl 1 rfl) ?_
  refine lv_iconst (v := (3 : Int32)) hx hb dX8_drift_1 (by decide) ?_
  obtain ⟨⟨r10, u11⟩, hq12, hp⟩ := o_b hp
  rcases r10 with r10 | r10
  · refine g_xSv (As := [.int x1, .int ((3 : Int32))]) (rest := []) hx hb hml hown hts hK hXP hP hS (mX8_requireIndex l hlf hJ hq12) (va_cwS 2 hts gX8_drift_X8_requireIndex rfl rfl rfl nVX8_requireIndex ⟨Nat.le_of_ble_eq_true rfl, Nat.le_of_ble_eq_true rfl⟩) rfl hl.1 rfl (Nat.le_of_ble_eq_true rfl) dX8_drift_2 ⟨Nat.le_of_ble_eq_true rfl, Nat.le_of_ble_eq_true rfl⟩ (fun H locs hP hS => ?_)
    exact kX8_drift_5 C0 hlf hXP hex hK hJ  hP hS hl hp
  · obtain ⟨rfl, rfl⟩ := o_r (a := (Sum.inr r10 : Int32 ⊕ Nat)) (b := u11) hp
    exact g_xSt (As := [.int x1, .int ((3 : Int32))]) (rest := []) hx hb hml hown hts hK hXP hP hS (mX8_requireIndex l hlf hJ hq12) (va_cwS 2 hts gX8_drift_X8_requireIndex rfl rfl rfl nVX8_requireIndex ⟨Nat.le_of_ble_eq_true rfl, Nat.le_of_ble_eq_true rfl⟩) rfl hl.1 rfl (Nat.le_of_ble_eq_true rfl) dX8_drift_2 ⟨Nat.le_of_ble_eq_true rfl, Nat.le_of_ble_eq_true rfl⟩ hex hlocks (Nat.le_of_ble_eq_true rfl) (Nat.le_of_ble_eq_true rfl)
def sX8_drift (x1 : Int32) (x2 : Int32) (σ : TS) : Option XR := sX8_drift_0 x1 x2 σ
theorem nVX8_drift : yX8_drift.cls = RX8 ∧ yX8_drift.cls ≠ "java/lang/invoke/MethodHandle" ∧ yX8_drift.cls ≠ "java/lang/invoke/VarHandle" ∧ (parseMethodDescriptor yX8_drift.desc).map (fun d => d.parameters.length) = some 2 := by decide +kernel
set_option maxHeartbeats 4000000 in
set_option maxRecDepth 100000 in
theorem mX8_drift (l : Launch) (hlf : l.stackTraces = false) (hJ : gJ 78 q) {x1 : Int32} {x2 : Int32} {σ : TS} {r : Int32 ⊕ Nat} {u : TS} (hp : sX8_drift x1 x2 σ = some (r, u)) : vx_Met l yX8_drift wsX8_drift rmX8_drift (va_Pc [.ref (q (0)), .int x1, .int x2] (gPreX D vwCl (tyL cy) (gS 78 q (TX cy q) σ) (gA 78 q))) (gQx D vwCl r (gS 78 q (TX cy q) u) (gA 78 q)) (gXx D vwCl r (gS 78 q (TX cy q) u) (gA 78 q)) 2 12 (gA 78 q) := by
  refine vx_ofW (cc := cX8_drift) (maxL := 4) (ret := (some .int)) (by decide +kernel) rfl ?_
  intro p e s m args below meth c s₁ B hml hex hv
  obtain ⟨rfl, ⟨hP, hK⟩, hXP⟩ := hv
  have hl := lv_entry ([.ref (q (0)), .int x1, .int x2]) (n := 4) (Nat.le_of_ble_eq_true rfl)
  rw [lg_entry_eq]
  generalize (lg_sl ([.ref (q (0)), .int x1, .int x2]) ++ List.replicate (4 - (lg_sl ([.ref (q (0)), .int x1, .int x2])).length) Slot.unset).toArray = ls at hl ⊢
  have hl : lv_has ls 4 [(0, .ref (q (0))), (1, .int x1), (2, .int x2)] := hl
  exact kX8_drift_0 ⟨B.exec, B.bytes, B.returns, hml, findClass_of_methodNamed B.named, atoms_spec (ws := wsX8_drift) B.pre, B.notSynchronized⟩ hlf hXP hex hK hJ  hP va_S.rf hl hp
theorem miX8_lie_X1 : ∀ w ∈ u_ws RX1 TX1 14, w ∈ wsX8_lie := by decide +kernel
theorem miX8_lie_X8 : ∀ w ∈ u_ws RX8 TX8 16, w ∈ wsX8_lie := by decide +kernel
theorem mwX8_lie_0 : Cond.fieldLink RX8 11 "Triplane" "computers" "[LTriplane$Computer;" ∈ wsX8_lie := by decide +kernel
theorem mwX8_lie_1 : Cond.fieldLink RX8 219 "Triplane$Computer" "lies" "[I" ∈ wsX8_lie := by decide +kernel
abbrev rmX8_lie : Room := { frames := 7, cells := 3, slots := 18, locals := 111 }
def sX8_lie_36 (x1 : Int32) (x2 : Int32) (x3 : Int32) (σ : TS) : Option XR := (if vin x1 3 = true then (if vin x2 3 = true then some (Sum.inl (σ (19+6*((x1.toNatClampNeg))) (x2.toNatClampNeg)), st2 σ (19+6*((x1.toNatClampNeg))) (x2.toNatClampNeg) x3) else none) else none)
set_option maxHeartbeats 4000000 in
set_option maxRecDepth 100000 in
theorem kX8_lie_36 {r : Int32 ⊕ Nat} {u : TS} (C0 : gC RX8 cX8_lie 5 ((some .int)) wsX8_lie p s m args meth c) (hlf : l.stackTraces = false) (hXP : xPre (gA 78 q) s) (hex : ∀ x ∈ c.exceptionTable.toList, False) (hK : va_K D vwCl (tyL cy) s) (hJ : gJ 78 q) {H : Heap} {locs : List Loc} {σ : TS} {x1 : Int32} {x2 : Int32} {x3 : Int32} (hP : va_P D vwCl (gS 78 q (TX cy q) σ) H) (hS : va_S (gA 78 q) s.heap H locs) {ls : Array Slot} (hl : lv_has ls 5 [(0, .ref (q (0))), (1, .int x1), (2, .int x2), (3, .int x3)]) (hp : sX8_lie_36 x1 x2 x3 σ = some (r, u)) : W p l e rmX8_lie s m args below meth c H locs 3 18 (vx_MQ below (gQx D vwCl r (gS 78 q (TX cy q) u) (gA 78 q)) (gXx D vwCl r (gS 78 q (TX cy q) u) (gA 78 q)) args s 3 18 (gA 78 q)) (F0 m 36 ls []) := by
  obtain ⟨hx, hb, hr, hml, hown, hts, hlocks⟩ := id C0
  unfold sX8_lie_36 at hp
  refine lv_aload_n hx hb dX8_lie_36 rfl (lv_at hl 0 rfl) ?_
  refine g_get (v := .ref (q (1))) hx hb hts miX8_lie_X8 hown hK hP (kk_Tri) (ce_Tri) rfl 0 (by decide) mwX8_lie_0 rfl dX8_lie_37 ?_
  refine lv_iload_n hx hb dX8_lie_40 rfl (lv_at hl 1 rfl) ?_
  obtain ⟨hi1, hp⟩ := o_chk hp
  have hn2 : x1.toNatClampNeg < 4 := Nat.lt_of_lt_of_le (vin_lt hi1) (by decide)
  refine g_aald (j := x1.toNatClampNeg) hx hb hK hP (kk_CompArr) (ce_CompArr) 3 rfl rfl (vin_of hi1) rfl dX8_lie_41 ?_
  refine g_get (v := .ref (q (19+6*(x1.toNatClampNeg)))) hx hb hts miX8_lie_X1 hown hK hP (kk_Comp hn2) (ce_Comp hn2) rfl 1 (by decide) mwX8_lie_1 rfl dX8_lie_42 ?_
  refine lv_iload_n hx hb dX8_lie_45 rfl (lv_at hl 2 rfl) ?_
  obtain ⟨hi3, hp⟩ := o_chk hp
  refine g_iald (j := x2.toNatClampNeg) hx hb hK hP (kk_Lies hn2) (ce_Lies hn2) 0 rfl (vin_of hi3) rfl dX8_lie_46 ?_
  refine lv_istore (lv' := [(4, .int (σ (19+6*((x1.toNatClampNeg))) (x2.toNatClampNeg))), (0, .ref (q (0))), (1, .int x1), (2, .int x2), (3, .int x3)]) hx hb dX8_lie_47 hl (by decide) rfl (fun ls hl => ?_)
  refine lv_aload_n hx hb dX8_lie_49 rfl (lv_at hl 1 rfl) ?_
  refine g_get (v := .ref (q (1))) hx hb hts miX8_lie_X8 hown hK hP (kk_Tri) (ce_Tri) rfl 0 (by decide) mwX8_lie_0 rfl dX8_lie_50 ?_
  refine lv_iload_n hx hb dX8_lie_53 rfl (lv_at hl 2 rfl) ?_
  have hn4 : x1.toNatClampNeg < 4 := Nat.lt_of_lt_of_le (vin_lt hi1) (by decide)
  refine g_aald (j := x1.toNatClampNeg) hx hb hK hP (kk_CompArr) (ce_CompArr) 3 rfl rfl (vin_of hi1) rfl dX8_lie_54 ?_
  refine g_get (v := .ref (q (19+6*(x1.toNatClampNeg)))) hx hb hts miX8_lie_X1 hown hK hP (kk_Comp hn4) (ce_Comp hn4) rfl 1 (by decide) mwX8_lie_1 rfl dX8_lie_55 ?_
  refine lv_iload_n hx hb dX8_lie_58 rfl (lv_at hl 3 rfl) ?_
  refine lv_iload_n hx hb dX8_lie_59 rfl (lv_at hl 4 rfl) ?_
  refine g_iast (j := x2.toNatClampNeg) hx hb hK hJ hP hS (kk_Lies hn4) (ce_Lies hn4) 0 rfl (vin_of hi3) rfl dX8_lie_60 (fun H locs hP hS => ?_)
  refine lv_iload hx hb dX8_lie_61 (lv_at hl 0 rfl) ?_
  obtain ⟨rfl, rfl⟩ := o_r hp
  refine W.widen (k := 3) (n := 18) (Nat.le_of_ble_eq_true rfl) (Nat.le_of_ble_eq_true rfl) ?_
  refine vx_ret ?_
  exact W.iret (v := σ (19+6*((x1.toNatClampNeg))) (x2.toNatClampNeg)) hx hb hr (fun t ht hW => ⟨⟨σ (19+6*((x1.toNatClampNeg))) (x2.toNatClampNeg), (), rfl, rfl, by subst ht; exact hP⟩, hS.F ht⟩) hS.2.2 dX8_lie_63
def sX8_lie_33 (x1 : Int32) (x2 : Int32) (x3 : Int32) (sx0 : Int32) (σ : TS) : Option XR := ((sX8_requireFit sx0 σ).bind (fun z => o_x z (fun _ zs => sX8_lie_36 x1 x2 x3 zs)))
set_option maxHeartbeats 4000000 in
set_option maxRecDepth 100000 in
theorem kX8_lie_33 {r : Int32 ⊕ Nat} {u : TS} (C0 : gC RX8 cX8_lie 5 ((some .int)) wsX8_lie p s m args meth c) (hlf : l.stackTraces = false) (hXP : xPre (gA 78 q) s) (hex : ∀ x ∈ c.exceptionTable.toList, False) (hK : va_K D vwCl (tyL cy) s) (hJ : gJ 78 q) {H : Heap} {locs : List Loc} {σ : TS} {x1 : Int32} {x2 : Int32} {x3 : Int32} {sx0 : Int32} (hP : va_P D vwCl (gS 78 q (TX cy q) σ) H) (hS : va_S (gA 78 q) s.heap H locs) {ls : Array Slot} (hl : lv_has ls 5 [(0, .ref (q (0))), (1, .int x1), (2, .int x2), (3, .int x3)]) (hp : sX8_lie_33 x1 x2 x3 sx0 σ = some (r, u)) : W p l e rmX8_lie s m args below meth c H locs 2 12 (vx_MQ below (gQx D vwCl r (gS 78 q (TX cy q) u) (gA 78 q)) (gXx D vwCl r (gS 78 q (TX cy q) u) (gA 78 q)) args s 3 18 (gA 78 q)) (F0 m 33 ls [.int sx0]) := by
  obtain ⟨hx, hb, hr, hml, hown, hts, hlocks⟩ := id C0
  unfold sX8_lie_33 at hp
  obtain ⟨⟨r5, u6⟩, hq7, hp⟩ := o_b hp
  rcases r5 with r5 | r5
  · refine g_xSv (As := [.int sx0]) (rest := []) hx hb hml hown hts hK hXP hP hS (mX8_requireFit l hlf hJ hq7) (va_cwS 1 hts gX8_lie_X8_requireFit rfl rfl rfl nVX8_requireFit ⟨Nat.le_of_ble_eq_true rfl, Nat.le_of_ble_eq_true rfl⟩) rfl hl.1 rfl (Nat.le_of_ble_eq_true rfl) dX8_lie_33 ⟨Nat.le_of_ble_eq_true rfl, Nat.le_of_ble_eq_true rfl⟩ (fun H locs hP hS => ?_)
    exact kX8_lie_36 C0 hlf hXP hex hK hJ  hP hS hl hp
  · obtain ⟨rfl, rfl⟩ := o_r (a := (Sum.inr r5 : Int32 ⊕ Nat)) (b := u6) hp
    exact g_xSt (As := [.int sx0]) (rest := []) hx hb hml hown hts hK hXP hP hS (mX8_requireFit l hlf hJ hq7) (va_cwS 1 hts gX8_lie_X8_requireFit rfl rfl rfl nVX8_requireFit ⟨Nat.le_of_ble_eq_true rfl, Nat.le_of_ble_eq_true rfl⟩) rfl hl.1 rfl (Nat.le_of_ble_eq_true rfl) dX8_lie_33 ⟨Nat.le_of_ble_eq_true rfl, Nat.le_of_ble_eq_true rfl⟩ hex hlocks (Nat.le_of_ble_eq_true rfl) (Nat.le_of_ble_eq_true rfl)
def sX8_lie_32 (x1 : Int32) (x2 : Int32) (x3 : Int32) (σ : TS) : Option XR := sX8_lie_33 x1 x2 x3 ((0 : Int32)) σ
set_option maxHeartbeats 4000000 in
set_option maxRecDepth 100000 in
theorem kX8_lie_32 {r : Int32 ⊕ Nat} {u : TS} (C0 : gC RX8 cX8_lie 5 ((some .int)) wsX8_lie p s m args meth c) (hlf : l.stackTraces = false) (hXP : xPre (gA 78 q) s) (hex : ∀ x ∈ c.exceptionTable.toList, False) (hK : va_K D vwCl (tyL cy) s) (hJ : gJ 78 q) {H : Heap} {locs : List Loc} {σ : TS} {x1 : Int32} {x2 : Int32} {x3 : Int32} (hP : va_P D vwCl (gS 78 q (TX cy q) σ) H) (hS : va_S (gA 78 q) s.heap H locs) {ls : Array Slot} (hl : lv_has ls 5 [(0, .ref (q (0))), (1, .int x1), (2, .int x2), (3, .int x3)]) (hp : sX8_lie_32 x1 x2 x3 σ = some (r, u)) : W p l e rmX8_lie s m args below meth c H locs 2 12 (vx_MQ below (gQx D vwCl r (gS 78 q (TX cy q) u) (gA 78 q)) (gXx D vwCl r (gS 78 q (TX cy q) u) (gA 78 q)) args s 3 18 (gA 78 q)) (F0 m 32 ls []) := by
  obtain ⟨hx, hb, hr, hml, hown, hts, hlocks⟩ := id C0
  unfold sX8_lie_32 at hp
  refine lv_iconst (v := (0 : Int32)) hx hb dX8_lie_32 (by decide) ?_
  exact kX8_lie_33 C0 hlf hXP hex hK hJ  hP hS hl hp
def sX8_lie_25 (x1 : Int32) (x2 : Int32) (x3 : Int32) (sx0 : Int32) (σ : TS) : Option XR := (if sx0 = 0 then sX8_lie_32 x1 x2 x3 σ else sX8_lie_33 x1 x2 x3 ((1 : Int32)) σ)
set_option maxHeartbeats 4000000 in
set_option maxRecDepth 100000 in
theorem kX8_lie_25 {r : Int32 ⊕ Nat} {u : TS} (C0 : gC RX8 cX8_lie 5 ((some .int)) wsX8_lie p s m args meth c) (hlf : l.stackTraces = false) (hXP : xPre (gA 78 q) s) (hex : ∀ x ∈ c.exceptionTable.toList, False) (hK : va_K D vwCl (tyL cy) s) (hJ : gJ 78 q) {H : Heap} {locs : List Loc} {σ : TS} {x1 : Int32} {x2 : Int32} {x3 : Int32} {sx0 : Int32} (hP : va_P D vwCl (gS 78 q (TX cy q) σ) H) (hS : va_S (gA 78 q) s.heap H locs) {ls : Array Slot} (hl : lv_has ls 5 [(0, .ref (q (0))), (1, .int x1), (2, .int x2), (3, .int x3)]) (hp : sX8_lie_25 x1 x2 x3 sx0 σ = some (r, u)) : W p l e rmX8_lie s m args below meth c H locs 2 12 (vx_MQ below (gQx D vwCl r (gS 78 q (TX cy q) u) (gA 78 q)) (gXx D vwCl r (gS 78 q (TX cy q) u) (gA 78 q)) args s 3 18 (gA 78 q)) (F0 m 25 ls [.int sx0]) := by
  obtain ⟨hx, hb, hr, hml, hown, hts, hlocks⟩ := id C0
  unfold sX8_lie_25 at hp
  refine lv_if_eq (tgt := 32) hx hb dX8_lie_25 (by decide) (fun hcd8 => ?_) (fun hcd8 => ?_)
  · have hp := o_t hp hcd8
    exact kX8_lie_32 C0 hlf hXP hex hK hJ  hP hS hl hp
  · have hp := o_f hp hcd8
    refine lv_iconst (v := (1 : Int32)) hx hb dX8_lie_28 (by decide) ?_
    refine lv_goto (tgt := 33) hx hb dX8_lie_29 (by decide) ?_
    exact kX8_lie_33 C0 hlf hXP hex hK hJ  hP hS hl hp
def sX8_lie_10 (x1 : Int32) (x2 : Int32) (x3 : Int32) (σ : TS) : Option XR := (if x1 = x2 then sX8_lie_32 x1 x2 x3 σ else ((sX5_isWithin x3 ((-999 : Int32)) ((999 : Int32)) σ).bind (fun z => sX8_lie_25 x1 x2 x3 z.1 z.2)))
set_option maxHeartbeats 4000000 in
set_option maxRecDepth 100000 in
theorem kX8_lie_10 {r : Int32 ⊕ Nat} {u : TS} (C0 : gC RX8 cX8_lie 5 ((some .int)) wsX8_lie p s m args meth c) (hlf : l.stackTraces = false) (hXP : xPre (gA 78 q) s) (hex : ∀ x ∈ c.exceptionTable.toList, False) (hK : va_K D vwCl (tyL cy) s) (hJ : gJ 78 q) {H : Heap} {locs : List Loc} {σ : TS} {x1 : Int32} {x2 : Int32} {x3 : Int32} (hP : va_P D vwCl (gS 78 q (TX cy q) σ) H) (hS : va_S (gA 78 q) s.heap H locs) {ls : Array Slot} (hl : lv_has ls 5 [(0, .ref (q (0))), (1, .int x1), (2, .int x2), (3, .int x3)]) (hp : sX8_lie_10 x1 x2 x3 σ = some (r, u)) : W p l e rmX8_lie s m args below meth c H locs 2 12 (vx_MQ below (gQx D vwCl r (gS 78 q (TX cy q) u) (gA 78 q)) (gXx D vwCl r (gS 78 q (TX cy q) u) (gA 78 q)) args s 3 18 (gA 78 q)) (F0 m 10 ls []) := by
  obtain ⟨hx, hb, hr, hml, hown, hts, hlocks⟩ := id C0
  unfold sX8_lie_10 at hp
  refine lv_iload_n hx hb dX8_lie_10 rfl (lv_at hl 1 rfl) ?_
  refine lv_iload_n hx hb dX8_lie_11 rfl (lv_at hl 2 rfl) ?_
  refine lv_icmp_eq (tgt := 32) hx hb dX8_lie_12 (by decide) (fun hcd9 => ?_) (fun hcd9 => ?_)
  · have hp := o_t hp hcd9
    exact kX8_lie_32 C0 hlf hXP hex hK hJ  hP hS hl hp
  · have hp := o_f hp hcd9
    refine lv_iload_n hx hb dX8_lie_15 rfl (lv_at hl 3 rfl) ?_
    refine lv_sipush (v := (-999 : Int32)) hx hb dX8_lie_16 (by decide) ?_
    refine lv_sipush (v := (999 : Int32)) hx hb dX8_lie_19 (by decide) ?_
    obtain ⟨⟨r10, u11⟩, hq12, hp⟩ := o_b hp
    refine g_cSi (As := [.int x3, .int ((-999 : Int32)), .int ((999 : Int32))]) (rest := []) hx hb hml hown hts hK hP hS (mX5_isWithin l hJ hq12) (va_cwS 3 hts gX8_lie_X5_isWithin rfl rfl rfl nVX5_isWithin ⟨Nat.le_of_ble_eq_true rfl, Nat.le_of_ble_eq_true rfl⟩) rfl hl.1 rfl (Nat.le_of_ble_eq_true rfl) dX8_lie_22 ⟨Nat.le_of_ble_eq_true rfl, Nat.le_of_ble_eq_true rfl⟩ (fun H locs hP hS => ?_)
    exact kX8_lie_25 C0 hlf hXP hex hK hJ  hP hS hl hp
def sX8_lie_5 (x1 : Int32) (x2 : Int32) (x3 : Int32) (σ : TS) : Option XR := ((sX8_requireIndex x2 ((3 : Int32)) σ).bind (fun z => o_x z (fun _ zs => sX8_lie_10 x1 x2 x3 zs)))
set_option maxHeartbeats 4000000 in
set_option maxRecDepth 100000 in
theorem kX8_lie_5 {r : Int32 ⊕ Nat} {u : TS} (C0 : gC RX8 cX8_lie 5 ((some .int)) wsX8_lie p s m args meth c) (hlf : l.stackTraces = false) (hXP : xPre (gA 78 q) s) (hex : ∀ x ∈ c.exceptionTable.toList, False) (hK : va_K D vwCl (tyL cy) s) (hJ : gJ 78 q) {H : Heap} {locs : List Loc} {σ : TS} {x1 : Int32} {x2 : Int32} {x3 : Int32} (hP : va_P D vwCl (gS 78 q (TX cy q) σ) H) (hS : va_S (gA 78 q) s.heap H locs) {ls : Array Slot} (hl : lv_has ls 5 [(0, .ref (q (0))), (1, .int x1), (2, .int x2), (3, .int x3)]) (hp : sX8_lie_5 x1 x2 x3 σ = some (r, u)) : W p l e rmX8_lie s m args below meth c H locs 1 6 (vx_MQ below (gQx D vwCl r (gS 78 q (TX cy q) u) (gA 78 q)) (gXx D vwCl r (gS 78 q (TX cy q) u) (gA 78 q)) args s 3 18 (gA 78 q)) (F0 m 5 ls []) := by
  obtain ⟨hx, hb, hr, hml, hown, hts, hlocks⟩ := id C0
  unfold sX8_lie_5 at hp
  refine lv_iload_n hx hb dX8_lie_5 rfl (lv_at hl 2 rfl) ?_
  refine lv_iconst (v := (3 : Int32)) hx hb dX8_lie_6 (by decide) ?_
  obtain ⟨⟨r13, u14⟩, hq15, hp⟩ := o_b hp
  rcases r13 with r13 | r13
  · refine g_xSv (As := [.int x2, .int ((3 : Int32))]) (rest := []) hx hb hml hown hts hK hXP hP hS (mX8_requireIndex l hlf hJ hq15) (va_cwS 2 hts gX8_lie_X8_requireIndex rfl rfl rfl nVX8_requireIndex ⟨Nat.le_of_ble_eq_true rfl, Nat.le_of_ble_eq_true rfl⟩) rfl hl.1 rfl (Nat.le_of_ble_eq_true rfl) dX8_lie_7 ⟨Nat.le_of_ble_eq_true rfl, Nat.le_of_ble_eq_true rfl⟩ (fun H locs hP hS => ?_)
    exact kX8_lie_10 C0 hlf hXP hex hK hJ  hP hS hl hp
  · obtain ⟨rfl, rfl⟩ := o_r (a := (Sum.inr r13 : Int32 ⊕ Nat)) (b := u14) hp
    exact g_xSt (As := [.int x2, .int ((3 : Int32))]) (rest := []) hx hb hml hown hts hK hXP hP hS (mX8_requireIndex l hlf hJ hq15) (va_cwS 2 hts gX8_lie_X8_requireIndex rfl rfl rfl nVX8_requireIndex ⟨Nat.le_of_ble_eq_true rfl, Nat.le_of_ble_eq_true rfl⟩) rfl hl.1 rfl (Nat.le_of_ble_eq_true rfl) dX8_lie_7 ⟨Nat.le_of_ble_eq_true rfl, Nat.le_of_ble_eq_true rfl⟩ hex hlocks (Nat.le_of_ble_eq_true rfl) (Nat.le_of_ble_eq_true rfl)
def sX8_lie_0 (x1 : Int32) (x2 : Int32) (x3 : Int32) (σ : TS) : Option XR := ((sX8_requireIndex x1 ((3 : Int32)) σ).bind (fun z => o_x z (fun _ zs => sX8_lie_5 x1 x2 x3 zs)))
set_option maxHeartbeats 4000000 in
set_option maxRecDepth 100000 in
theorem kX8_lie_0 {r : Int32 ⊕ Nat} {u : TS} (C0 : gC RX8 cX8_lie 5 ((some .int)) wsX8_lie p s m args meth c) (hlf : l.stackTraces = false) (hXP : xPre (gA 78 q) s) (hex : ∀ x ∈ c.exceptionTable.toList, False) (hK : va_K D vwCl (tyL cy) s) (hJ : gJ 78 q) {H : Heap} {locs : List Loc} {σ : TS} {x1 : Int32} {x2 : Int32} {x3 : Int32} (hP : va_P D vwCl (gS 78 q (TX cy q) σ) H) (hS : va_S (gA 78 q) s.heap H locs) {ls : Array Slot} (hl : lv_has ls 5 [(0, .ref (q (0))), (1, .int x1), (2, .int x2), (3, .int x3)]) (hp : sX8_lie_0 x1 x2 x3 σ = some (r, u)) : W p l e rmX8_lie s m args below meth c H locs 0 0 (vx_MQ below (gQx D vwCl r (gS 78 q (TX cy q) u) (gA 78 q)) (gXx D vwCl r (gS 78 q (TX cy q) u) (gA 78 q)) args s 3 18 (gA 78 q)) (F0 m 0 ls []) := by
  obtain ⟨hx, hb, hr, hml, hown, hts, hlocks⟩ := id C0
  unfold sX8_lie_0 at hp
  refine lv_iload_n hx hb dX8_lie_0 rfl (lv_at hl 1 rfl) ?_
  refine lv_iconst (v := (3 : Int32)) hx hb dX8_lie_1 (by decide) ?_
  obtain ⟨⟨r16, u17⟩, hq18, hp⟩ := o_b hp
  rcases r16 with r16 | r16
  · refine g_xSv (As := [.int x1, .int ((3 : Int32))]) (rest := []) hx hb hml hown hts hK hXP hP hS (mX8_requireIndex l hlf hJ hq18) (va_cwS 2 hts gX8_lie_X8_requireIndex rfl rfl rfl nVX8_requireIndex ⟨Nat.le_of_ble_eq_true rfl, Nat.le_of_ble_eq_true rfl⟩) rfl hl.1 rfl (Nat.le_of_ble_eq_true rfl) dX8_lie_2 ⟨Nat.le_of_ble_eq_true rfl, Nat.le_of_ble_eq_true rfl⟩ (fun H locs hP hS => ?_)
    exact kX8_lie_5 C0 hlf hXP hex hK hJ  hP hS hl hp
  · obtain ⟨rfl, rfl⟩ := o_r (a := (Sum.inr r16 : Int32 ⊕ Nat)) (b := u17) hp
    exact g_xSt (As := [.int x1, .int ((3 : Int32))]) (rest := []) hx hb hml hown hts hK hXP hP hS (mX8_requireIndex l hlf hJ hq18) (va_cwS 2 hts gX8_lie_X8_requireIndex rfl rfl rfl nVX8_requireIndex ⟨Nat.le_of_ble_eq_true rfl, Nat.le_of_ble_eq_true rfl⟩) rfl hl.1 rfl (Nat.le_of_ble_eq_true rfl) dX8_lie_2 ⟨Nat.le_of_ble_eq_true rfl, Nat.le_of_ble_eq_true rfl⟩ hex hlocks (Nat.le_of_ble_eq_true rfl) (Nat.le_of_ble_eq_true rfl)
def sX8_lie (x1 : Int32) (x2 : Int32) (x3 : Int32) (σ : TS) : Option XR := sX8_lie_0 x1 x2 x3 σ
theorem nVX8_lie : yX8_lie.cls = RX8 ∧ yX8_lie.cls ≠ "java/lang/invoke/MethodHandle" ∧ yX8_lie.cls ≠ "java/lang/invoke/VarHandle" ∧ (parseMethodDescriptor yX8_lie.desc).map (fun d => d.parameters.length) = some 3 := by decide +kernel
set_option maxHeartbeats 4000000 in
set_option maxRecDepth 100000 in
theorem mX8_lie (l : Launch) (hlf : l.stackTraces = false) (hJ : gJ 78 q) {x1 : Int32} {x2 : Int32} {x3 : Int32} {σ : TS} {r : Int32 ⊕ Nat} {u : TS} (hp : sX8_lie x1 x2 x3 σ = some (r, u)) : vx_Met l yX8_lie wsX8_lie rmX8_lie (va_Pc [.ref (q (0)), .int x1, .int x2, .int x3] (gPreX D vwCl (tyL cy) (gS 78 q (TX cy q) σ) (gA 78 q))) (gQx D vwCl r (gS 78 q (TX cy q) u) (gA 78 q)) (gXx D vwCl r (gS 78 q (TX cy q) u) (gA 78 q)) 3 18 (gA 78 q) := by
  refine vx_ofW (cc := cX8_lie) (maxL := 5) (ret := (some .int)) (by decide +kernel) rfl ?_
  intro p e s m args below meth c s₁ B hml hex hv
  obtain ⟨rfl, ⟨hP, hK⟩, hXP⟩ := hv
  have hl := lv_entry ([.ref (q (0)), .int x1, .int x2, .int x3]) (n := 5) (Nat.le_of_ble_eq_true rfl)
  rw [lg_entry_eq]
  generalize (lg_sl ([.ref (q (0)), .int x1, .int x2, .int x3]) ++ List.replicate (5 - (lg_sl ([.ref (q (0)), .int x1, .int x2, .int x3])).length) Slot.unset).toArray = ls at hl ⊢
  have hl : lv_has ls 5 [(0, .ref (q (0))), (1, .int x1), (2, .int x2), (3, .int x3)] := hl
  exact kX8_lie_0 ⟨B.exec, B.bytes, B.returns, hml, findClass_of_methodNamed B.named, atoms_spec (ws := wsX8_lie) B.pre, B.notSynchronized⟩ hlf hXP hex hK hJ  hP va_S.rf hl hp
theorem miX8_clock_X1 : ∀ w ∈ u_ws RX1 TX1 14, w ∈ wsX8_clock := by decide +kernel
theorem miX8_clock_X8 : ∀ w ∈ u_ws RX8 TX8 16, w ∈ wsX8_clock := by decide +kernel
theorem mwX8_clock_0 : Cond.fieldLink RX8 11 "Triplane" "computers" "[LTriplane$Computer;" ∈ wsX8_clock := by decide +kernel
theorem mwX8_clock_1 : Cond.fieldLink RX8 222 "Triplane$Computer" "clockNow" "I" ∈ wsX8_clock := by decide +kernel
abbrev rmX8_clock : Room := { frames := 7, cells := 1, slots := 6, locals := 111 }
def sX8_clock_5 (x1 : Int32) (σ : TS) : Option XR := (if vin x1 3 = true then some (Sum.inl (σ (15+6*(x1.toNatClampNeg)) 2), σ) else none)
set_option maxHeartbeats 4000000 in
set_option maxRecDepth 100000 in
theorem kX8_clock_5 {r : Int32 ⊕ Nat} {u : TS} (C0 : gC RX8 cX8_clock 2 ((some .int)) wsX8_clock p s m args meth c) (hlf : l.stackTraces = false) (hXP : xPre (gA 78 q) s) (hex : ∀ x ∈ c.exceptionTable.toList, False) (hK : va_K D vwCl (tyL cy) s) (hJ : gJ 78 q) {H : Heap} {locs : List Loc} {σ : TS} {x1 : Int32} (hP : va_P D vwCl (gS 78 q (TX cy q) σ) H) (hS : va_S (gA 78 q) s.heap H locs) {ls : Array Slot} (hl : lv_has ls 2 [(0, .ref (q (0))), (1, .int x1)]) (hp : sX8_clock_5 x1 σ = some (r, u)) : W p l e rmX8_clock s m args below meth c H locs 1 6 (vx_MQ below (gQx D vwCl r (gS 78 q (TX cy q) u) (gA 78 q)) (gXx D vwCl r (gS 78 q (TX cy q) u) (gA 78 q)) args s 1 6 (gA 78 q)) (F0 m 5 ls []) := by
  obtain ⟨hx, hb, hr, hml, hown, hts, hlocks⟩ := id C0
  unfold sX8_clock_5 at hp
  refine lv_aload_n hx hb dX8_clock_5 rfl (lv_at hl 0 rfl) ?_
  refine g_get (v := .ref (q (1))) hx hb hts miX8_clock_X8 hown hK hP (kk_Tri) (ce_Tri) rfl 0 (by decide) mwX8_clock_0 rfl dX8_clock_6 ?_
  refine lv_iload_n hx hb dX8_clock_9 rfl (lv_at hl 1 rfl) ?_
  obtain ⟨hi1, hp⟩ := o_chk hp
  have hn2 : x1.toNatClampNeg < 4 := Nat.lt_of_lt_of_le (vin_lt hi1) (by decide)
  refine g_aald (j := x1.toNatClampNeg) hx hb hK hP (kk_CompArr) (ce_CompArr) 3 rfl rfl (vin_of hi1) rfl dX8_clock_10 ?_
  refine g_get (v := .int (σ (15+6*(x1.toNatClampNeg)) 2)) hx hb hts miX8_clock_X1 hown hK hP (kk_Comp hn2) (ce_Comp hn2) rfl 2 (by decide) mwX8_clock_1 rfl dX8_clock_11 ?_
  obtain ⟨rfl, rfl⟩ := o_r hp
  refine W.widen (k := 1) (n := 6) (Nat.le_of_ble_eq_true rfl) (Nat.le_of_ble_eq_true rfl) ?_
  refine vx_ret ?_
  exact W.iret (v := σ (15+6*(x1.toNatClampNeg)) 2) hx hb hr (fun t ht hW => ⟨⟨σ (15+6*(x1.toNatClampNeg)) 2, (), rfl, rfl, by subst ht; exact hP⟩, hS.F ht⟩) hS.2.2 dX8_clock_14
def sX8_clock_0 (x1 : Int32) (σ : TS) : Option XR := ((sX8_requireIndex x1 ((3 : Int32)) σ).bind (fun z => o_x z (fun _ zs => sX8_clock_5 x1 zs)))
set_option maxHeartbeats 4000000 in
set_option maxRecDepth 100000 in
theorem kX8_clock_0 {r : Int32 ⊕ Nat} {u : TS} (C0 : gC RX8 cX8_clock 2 ((some .int)) wsX8_clock p s m args meth c) (hlf : l.stackTraces = false) (hXP : xPre (gA 78 q) s) (hex : ∀ x ∈ c.exceptionTable.toList, False) (hK : va_K D vwCl (tyL cy) s) (hJ : gJ 78 q) {H : Heap} {locs : List Loc} {σ : TS} {x1 : Int32} (hP : va_P D vwCl (gS 78 q (TX cy q) σ) H) (hS : va_S (gA 78 q) s.heap H locs) {ls : Array Slot} (hl : lv_has ls 2 [(0, .ref (q (0))), (1, .int x1)]) (hp : sX8_clock_0 x1 σ = some (r, u)) : W p l e rmX8_clock s m args below meth c H locs 0 0 (vx_MQ below (gQx D vwCl r (gS 78 q (TX cy q) u) (gA 78 q)) (gXx D vwCl r (gS 78 q (TX cy q) u) (gA 78 q)) args s 1 6 (gA 78 q)) (F0 m 0 ls []) := by
  obtain ⟨hx, hb, hr, hml, hown, hts, hlocks⟩ := id C0
  unfold sX8_clock_0 at hp
  refine lv_iload_n hx hb dX8_clock_0 rfl (lv_at hl 1 rfl) ?_
  refine lv_iconst (v := (3 : Int32)) hx hb dX8_clock_1 (by decide) ?_
  obtain ⟨⟨r3, u4⟩, hq5, hp⟩ := o_b hp
  rcases r3 with r3 | r3
  · refine g_xSv (As := [.int x1, .int ((3 : Int32))]) (rest := []) hx hb hml hown hts hK hXP hP hS (mX8_requireIndex l hlf hJ hq5) (va_cwS 2 hts gX8_clock_X8_requireIndex rfl rfl rfl nVX8_requireIndex ⟨Nat.le_of_ble_eq_true rfl, Nat.le_of_ble_eq_true rfl⟩) rfl hl.1 rfl (Nat.le_of_ble_eq_true rfl) dX8_clock_2 ⟨Nat.le_of_ble_eq_true rfl, Nat.le_of_ble_eq_true rfl⟩ (fun H locs hP hS => ?_)
    exact kX8_clock_5 C0 hlf hXP hex hK hJ  hP hS hl hp
  · obtain ⟨rfl, rfl⟩ := o_r (a := (Sum.inr r3 : Int32 ⊕ Nat)) (b := u4) hp
    exact g_xSt (As := [.int x1, .int ((3 : Int32))]) (rest := []) hx hb hml hown hts hK hXP hP hS (mX8_requireIndex l hlf hJ hq5) (va_cwS 2 hts gX8_clock_X8_requireIndex rfl rfl rfl nVX8_requireIndex ⟨Nat.le_of_ble_eq_true rfl, Nat.le_of_ble_eq_true rfl⟩) rfl hl.1 rfl (Nat.le_of_ble_eq_true rfl) dX8_clock_2 ⟨Nat.le_of_ble_eq_true rfl, Nat.le_of_ble_eq_true rfl⟩ hex hlocks (Nat.le_of_ble_eq_true rfl) (Nat.le_of_ble_eq_true rfl)
def sX8_clock (x1 : Int32) (σ : TS) : Option XR := sX8_clock_0 x1 σ
theorem nVX8_clock : yX8_clock.cls = RX8 ∧ yX8_clock.cls ≠ "java/lang/invoke/MethodHandle" ∧ yX8_clock.cls ≠ "java/lang/invoke/VarHandle" ∧ (parseMethodDescriptor yX8_clock.desc).map (fun d => d.parameters.length) = some 1 := by decide +kernel
set_option maxHeartbeats 4000000 in
set_option maxRecDepth 100000 in
theorem mX8_clock (l : Launch) (hlf : l.stackTraces = false) (hJ : gJ 78 q) {x1 : Int32} {σ : TS} {r : Int32 ⊕ Nat} {u : TS} (hp : sX8_clock x1 σ = some (r, u)) : vx_Met l yX8_clock wsX8_clock rmX8_clock (va_Pc [.ref (q (0)), .int x1] (gPreX D vwCl (tyL cy) (gS 78 q (TX cy q) σ) (gA 78 q))) (gQx D vwCl r (gS 78 q (TX cy q) u) (gA 78 q)) (gXx D vwCl r (gS 78 q (TX cy q) u) (gA 78 q)) 1 6 (gA 78 q) := by
  refine vx_ofW (cc := cX8_clock) (maxL := 2) (ret := (some .int)) (by decide +kernel) rfl ?_
  intro p e s m args below meth c s₁ B hml hex hv
  obtain ⟨rfl, ⟨hP, hK⟩, hXP⟩ := hv
  have hl := lv_entry ([.ref (q (0)), .int x1]) (n := 2) (Nat.le_of_ble_eq_true rfl)
  rw [lg_entry_eq]
  generalize (lg_sl ([.ref (q (0)), .int x1]) ++ List.replicate (2 - (lg_sl ([.ref (q (0)), .int x1])).length) Slot.unset).toArray = ls at hl ⊢
  have hl : lv_has ls 2 [(0, .ref (q (0))), (1, .int x1)] := hl
  exact kX8_clock_0 ⟨B.exec, B.bytes, B.returns, hml, findClass_of_methodNamed B.named, atoms_spec (ws := wsX8_clock) B.pre, B.notSynchronized⟩ hlf hXP hex hK hJ  hP va_S.rf hl hp
theorem miX8_save_X1 : ∀ w ∈ u_ws RX1 TX1 14, w ∈ wsX8_save := by decide +kernel
theorem miX8_save_X8 : ∀ w ∈ u_ws RX8 TX8 16, w ∈ wsX8_save := by decide +kernel
theorem mwX8_save_0 : Cond.fieldLink RX8 28 "Triplane" "copies" "[LTriplane$Copies;" ∈ wsX8_save := by decide +kernel
theorem mwX8_save_1 : Cond.fieldLink RX8 11 "Triplane" "computers" "[LTriplane$Computer;" ∈ wsX8_save := by decide +kernel
theorem mwX8_save_2 : Cond.fieldLink RX8 137 "Triplane$Computer" "memory" "LTriplane$Memory;" ∈ wsX8_save := by decide +kernel
abbrev rmX8_save : Room := { frames := 7, cells := 2, slots := 12, locals := 111 }
def sX8_save_70 (sx0 : Int32) (σ : TS) : Option XR := some (Sum.inl sx0, σ)
set_option maxHeartbeats 4000000 in
set_option maxRecDepth 100000 in
theorem kX8_save_70 {r : Int32 ⊕ Nat} {u : TS} (C0 : gC RX8 cX8_save 4 ((some .int)) wsX8_save p s m args meth c) (hlf : l.stackTraces = false) (hXP : xPre (gA 78 q) s) (hex : ∀ x ∈ c.exceptionTable.toList, False) (hK : va_K D vwCl (tyL cy) s) (hJ : gJ 78 q) {H : Heap} {locs : List Loc} {σ : TS} {sx0 : Int32} (hP : va_P D vwCl (gS 78 q (TX cy q) σ) H) (hS : va_S (gA 78 q) s.heap H locs) {ls : Array Slot} (hl : lv_has ls 4 []) (hp : sX8_save_70 sx0 σ = some (r, u)) : W p l e rmX8_save s m args below meth c H locs 2 12 (vx_MQ below (gQx D vwCl r (gS 78 q (TX cy q) u) (gA 78 q)) (gXx D vwCl r (gS 78 q (TX cy q) u) (gA 78 q)) args s 2 12 (gA 78 q)) (F0 m 70 ls [.int sx0]) := by
  obtain ⟨hx, hb, hr, hml, hown, hts, hlocks⟩ := id C0
  unfold sX8_save_70 at hp
  obtain ⟨rfl, rfl⟩ := o_r hp
  refine W.widen (k := 2) (n := 12) (Nat.le_of_ble_eq_true rfl) (Nat.le_of_ble_eq_true rfl) ?_
  refine vx_ret ?_
  exact W.iret (v := sx0) hx hb hr (fun t ht hW => ⟨⟨sx0, (), rfl, rfl, by subst ht; exact hP⟩, hS.F ht⟩) hS.2.2 dX8_save_70
def sX8_save_61 (x1 : Int32) (σ : TS) : Option XR := (if vin x1 3 = true then ((sX2_countGood (x1.toNatClampNeg) σ).bind (fun z => sX8_save_70 z.1 z.2)) else none)
set_option maxHeartbeats 4000000 in
set_option maxRecDepth 100000 in
theorem kX8_save_61 {r : Int32 ⊕ Nat} {u : TS} (C0 : gC RX8 cX8_save 4 ((some .int)) wsX8_save p s m args meth c) (hlf : l.stackTraces = false) (hXP : xPre (gA 78 q) s) (hex : ∀ x ∈ c.exceptionTable.toList, False) (hK : va_K D vwCl (tyL cy) s) (hJ : gJ 78 q) {H : Heap} {locs : List Loc} {σ : TS} {x1 : Int32} (hP : va_P D vwCl (gS 78 q (TX cy q) σ) H) (hS : va_S (gA 78 q) s.heap H locs) {ls : Array Slot} (hl : lv_has ls 4 [(0, .ref (q (0))), (1, .int x1)]) (hp : sX8_save_61 x1 σ = some (r, u)) : W p l e rmX8_save s m args below meth c H locs 2 12 (vx_MQ below (gQx D vwCl r (gS 78 q (TX cy q) u) (gA 78 q)) (gXx D vwCl r (gS 78 q (TX cy q) u) (gA 78 q)) args s 2 12 (gA 78 q)) (F0 m 61 ls []) := by
  obtain ⟨hx, hb, hr, hml, hown, hts, hlocks⟩ := id C0
  unfold sX8_save_61 at hp
  refine lv_aload_n hx hb dX8_save_61 rfl (lv_at hl 0 rfl) ?_
  refine g_get (v := .ref (q (6))) hx hb hts miX8_save_X8 hown hK hP (kk_Tri) (ce_Tri) rfl 3 (by decide) mwX8_save_0 rfl dX8_save_62 ?_
  refine lv_iload_n hx hb dX8_save_65 rfl (lv_at hl 1 rfl) ?_
  obtain ⟨hi1, hp⟩ := o_chk hp
  have hn2 : x1.toNatClampNeg < 3 := Nat.lt_of_lt_of_le (vin_lt hi1) (by decide)
  refine g_aald (j := x1.toNatClampNeg) hx hb hK hP (kk_CopArr) (ce_CopArr) 5 rfl rfl (vin_of hi1) rfl dX8_save_66 ?_
  obtain ⟨⟨r3, u4⟩, hq5, hp⟩ := o_b hp
  refine g_cVi (As := []) (rest := []) hx hb hml hown hts hK hP hS (mX2_countGood l hJ hn2 hq5) (cwV 0 hts gX8_save_X2_countGood rfl rfl rfl nVX2_countGood ⟨Nat.le_of_ble_eq_true rfl, Nat.le_of_ble_eq_true rfl⟩) (g_recv hK hP (kk_Cop hn2) (ce_Cop hn2) rfl) rfl hl.1 rfl (Nat.le_of_ble_eq_true rfl) dX8_save_67 ⟨Nat.le_of_ble_eq_true rfl, Nat.le_of_ble_eq_true rfl⟩ (fun H locs hP hS => ?_)
  exact kX8_save_70 C0 hlf hXP hex hK hJ  hP hS (lv_sub hl [] rfl) hp
def sX8_save_36 (x1 : Int32) (σ : TS) : Option XR := sX8_save_61 x1 σ
set_option maxHeartbeats 4000000 in
set_option maxRecDepth 100000 in
theorem kX8_save_36 {r : Int32 ⊕ Nat} {u : TS} (C0 : gC RX8 cX8_save 4 ((some .int)) wsX8_save p s m args meth c) (hlf : l.stackTraces = false) (hXP : xPre (gA 78 q) s) (hex : ∀ x ∈ c.exceptionTable.toList, False) (hK : va_K D vwCl (tyL cy) s) (hJ : gJ 78 q) {H : Heap} {locs : List Loc} {σ : TS} {x1 : Int32} (hP : va_P D vwCl (gS 78 q (TX cy q) σ) H) (hS : va_S (gA 78 q) s.heap H locs) {ls : Array Slot} (hl : lv_has ls 4 [(0, .ref (q (0))), (1, .int x1)]) (hp : sX8_save_36 x1 σ = some (r, u)) : W p l e rmX8_save s m args below meth c H locs 2 12 (vx_MQ below (gQx D vwCl r (gS 78 q (TX cy q) u) (gA 78 q)) (gXx D vwCl r (gS 78 q (TX cy q) u) (gA 78 q)) args s 2 12 (gA 78 q)) (F0 m 36 ls []) := by
  obtain ⟨hx, hb, hr, hml, hown, hts, hlocks⟩ := id C0
  unfold sX8_save_36 at hp
  refine lv_goto (tgt := 61) hx hb dX8_save_36 (by decide) ?_
  exact kX8_save_61 C0 hlf hXP hex hK hJ  hP hS hl hp
def sX8_save_23 (x1 : Int32) (x2 : Int32) (x3 : Int32) (σ : TS) : Option XR := (if x2 = 0 then (if vin x1 3 = true then (if vin x3 3 = true then ((sX2_keep (x1.toNatClampNeg) ((x3.toNatClampNeg)) (((6 : Int32)) * x1) σ).bind (fun z => sX8_save_61 x1 z.2)) else none) else none) else (if vin x1 3 = true then ((sX2_spoil (x1.toNatClampNeg) σ).bind (fun z => sX8_save_36 x1 z.2)) else none))
set_option maxHeartbeats 4000000 in
set_option maxRecDepth 100000 in
theorem kX8_save_23 {r : Int32 ⊕ Nat} {u : TS} (C0 : gC RX8 cX8_save 4 ((some .int)) wsX8_save p s m args meth c) (hlf : l.stackTraces = false) (hXP : xPre (gA 78 q) s) (hex : ∀ x ∈ c.exceptionTable.toList, False) (hK : va_K D vwCl (tyL cy) s) (hJ : gJ 78 q) {H : Heap} {locs : List Loc} {σ : TS} {x1 : Int32} {x2 : Int32} {x3 : Int32} (hP : va_P D vwCl (gS 78 q (TX cy q) σ) H) (hS : va_S (gA 78 q) s.heap H locs) {ls : Array Slot} (hl : lv_has ls 4 [(0, .ref (q (0))), (1, .int x1), (2, .int x2), (3, .int x3)]) (hp : sX8_save_23 x1 x2 x3 σ = some (r, u)) : W p l e rmX8_save s m args below meth c H locs 2 12 (vx_MQ below (gQx D vwCl r (gS 78 q (TX cy q) u) (gA 78 q)) (gXx D vwCl r (gS 78 q (TX cy q) u) (gA 78 q)) args s 2 12 (gA 78 q)) (F0 m 23 ls []) := by
  obtain ⟨hx, hb, hr, hml, hown, hts, hlocks⟩ := id C0
  unfold sX8_save_23 at hp
  refine lv_iload_n hx hb dX8_save_23 rfl (lv_at hl 2 rfl) ?_
  refine lv_if_eq (tgt := 39) hx hb dX8_save_24 (by decide) (fun hcd6 => ?_) (fun hcd6 => ?_)
  · have hp := o_t hp hcd6
    refine lv_aload_n hx hb dX8_save_39 rfl (lv_at hl 0 rfl) ?_
    refine g_get (v := .ref (q (6))) hx hb hts miX8_save_X8 hown hK hP (kk_Tri) (ce_Tri) rfl 3 (by decide) mwX8_save_0 rfl dX8_save_40 ?_
    refine lv_iload_n hx hb dX8_save_43 rfl (lv_at hl 1 rfl) ?_
    obtain ⟨hi7, hp⟩ := o_chk hp
    have hn8 : x1.toNatClampNeg < 3 := Nat.lt_of_lt_of_le (vin_lt hi7) (by decide)
    refine g_aald (j := x1.toNatClampNeg) hx hb hK hP (kk_CopArr) (ce_CopArr) 5 rfl rfl (vin_of hi7) rfl dX8_save_44 ?_
    refine lv_aload_n hx hb dX8_save_45 rfl (lv_at hl 0 rfl) ?_
    refine g_get (v := .ref (q (1))) hx hb hts miX8_save_X8 hown hK hP (kk_Tri) (ce_Tri) rfl 0 (by decide) mwX8_save_1 rfl dX8_save_46 ?_
    refine lv_iload_n hx hb dX8_save_49 rfl (lv_at hl 3 rfl) ?_
    obtain ⟨hi9, hp⟩ := o_chk hp
    have hn10 : x3.toNatClampNeg < 4 := Nat.lt_of_lt_of_le (vin_lt hi9) (by decide)
    refine g_aald (j := x3.toNatClampNeg) hx hb hK hP (kk_CompArr) (ce_CompArr) 3 rfl rfl (vin_of hi9) rfl dX8_save_50 ?_
    refine g_get (v := .ref (q (16+6*(x3.toNatClampNeg)))) hx hb hts miX8_save_X1 hown hK hP (kk_Comp hn10) (ce_Comp hn10) rfl 0 (by decide) mwX8_save_2 rfl dX8_save_51 ?_
    refine lv_bipush (v := (6 : Int32)) hx hb dX8_save_54 (by decide) ?_
    refine lv_iload_n hx hb dX8_save_56 rfl (lv_at hl 1 rfl) ?_
    refine lv_imul hx hb dX8_save_57 ?_
    obtain ⟨⟨r11, u12⟩, hq13, hp⟩ := o_b hp
    refine g_cVv (As := [.ref (q (16+6*(x3.toNatClampNeg))), .int (((6 : Int32)) * x1)]) (rest := []) hx hb hml hown hts hK hP hS (mX2_keep l hJ hn8 hn10 hq13) (cwV 2 hts gX8_save_X2_keep rfl rfl rfl nVX2_keep ⟨Nat.le_of_ble_eq_true rfl, Nat.le_of_ble_eq_true rfl⟩) (g_recv hK hP (kk_Cop hn8) (ce_Cop hn8) rfl) rfl hl.1 rfl (Nat.le_of_ble_eq_true rfl) dX8_save_58 ⟨Nat.le_of_ble_eq_true rfl, Nat.le_of_ble_eq_true rfl⟩ (fun H locs hP hS => ?_)
    exact kX8_save_61 C0 hlf hXP hex hK hJ  hP hS (lv_sub hl [0, 1] rfl) hp
  · have hp := o_f hp hcd6
    refine lv_aload_n hx hb dX8_save_27 rfl (lv_at hl 0 rfl) ?_
    refine g_get (v := .ref (q (6))) hx hb hts miX8_save_X8 hown hK hP (kk_Tri) (ce_Tri) rfl 3 (by decide) mwX8_save_0 rfl dX8_save_28 ?_
    refine lv_iload_n hx hb dX8_save_31 rfl (lv_at hl 1 rfl) ?_
    obtain ⟨hi14, hp⟩ := o_chk hp
    have hn15 : x1.toNatClampNeg < 3 := Nat.lt_of_lt_of_le (vin_lt hi14) (by decide)
    refine g_aald (j := x1.toNatClampNeg) hx hb hK hP (kk_CopArr) (ce_CopArr) 5 rfl rfl (vin_of hi14) rfl dX8_save_32 ?_
    obtain ⟨⟨r16, u17⟩, hq18, hp⟩ := o_b hp
    refine g_cVv (As := []) (rest := []) hx hb hml hown hts hK hP hS (mX2_spoil l hJ hn15 hq18) (cwV 0 hts gX8_save_X2_spoil rfl rfl rfl nVX2_spoil ⟨Nat.le_of_ble_eq_true rfl, Nat.le_of_ble_eq_true rfl⟩) (g_recv hK hP (kk_Cop hn15) (ce_Cop hn15) rfl) rfl hl.1 rfl (Nat.le_of_ble_eq_true rfl) dX8_save_33 ⟨Nat.le_of_ble_eq_true rfl, Nat.le_of_ble_eq_true rfl⟩ (fun H locs hP hS => ?_)
    exact kX8_save_36 C0 hlf hXP hex hK hJ  hP hS (lv_sub hl [0, 1] rfl) hp
def sX8_save_20 (x1 : Int32) (x2 : Int32) (x3 : Int32) (sx0 : Int32) (σ : TS) : Option XR := ((sX8_requireState sx0 σ).bind (fun z => o_x z (fun _ zs => sX8_save_23 x1 x2 x3 zs)))
set_option maxHeartbeats 4000000 in
set_option maxRecDepth 100000 in
theorem kX8_save_20 {r : Int32 ⊕ Nat} {u : TS} (C0 : gC RX8 cX8_save 4 ((some .int)) wsX8_save p s m args meth c) (hlf : l.stackTraces = false) (hXP : xPre (gA 78 q) s) (hex : ∀ x ∈ c.exceptionTable.toList, False) (hK : va_K D vwCl (tyL cy) s) (hJ : gJ 78 q) {H : Heap} {locs : List Loc} {σ : TS} {x1 : Int32} {x2 : Int32} {x3 : Int32} {sx0 : Int32} (hP : va_P D vwCl (gS 78 q (TX cy q) σ) H) (hS : va_S (gA 78 q) s.heap H locs) {ls : Array Slot} (hl : lv_has ls 4 [(0, .ref (q (0))), (1, .int x1), (2, .int x2), (3, .int x3)]) (hp : sX8_save_20 x1 x2 x3 sx0 σ = some (r, u)) : W p l e rmX8_save s m args below meth c H locs 1 6 (vx_MQ below (gQx D vwCl r (gS 78 q (TX cy q) u) (gA 78 q)) (gXx D vwCl r (gS 78 q (TX cy q) u) (gA 78 q)) args s 2 12 (gA 78 q)) (F0 m 20 ls [.int sx0]) := by
  obtain ⟨hx, hb, hr, hml, hown, hts, hlocks⟩ := id C0
  unfold sX8_save_20 at hp
  obtain ⟨⟨r19, u20⟩, hq21, hp⟩ := o_b hp
  rcases r19 with r19 | r19
  · refine g_xSv (As := [.int sx0]) (rest := []) hx hb hml hown hts hK hXP hP hS (mX8_requireState l hlf hJ hq21) (va_cwS 1 hts gX8_save_X8_requireState rfl rfl rfl nVX8_requireState ⟨Nat.le_of_ble_eq_true rfl, Nat.le_of_ble_eq_true rfl⟩) rfl hl.1 rfl (Nat.le_of_ble_eq_true rfl) dX8_save_20 ⟨Nat.le_of_ble_eq_true rfl, Nat.le_of_ble_eq_true rfl⟩ (fun H locs hP hS => ?_)
    exact kX8_save_23 C0 hlf hXP hex hK hJ  hP hS hl hp
  · obtain ⟨rfl, rfl⟩ := o_r (a := (Sum.inr r19 : Int32 ⊕ Nat)) (b := u20) hp
    exact g_xSt (As := [.int sx0]) (rest := []) hx hb hml hown hts hK hXP hP hS (mX8_requireState l hlf hJ hq21) (va_cwS 1 hts gX8_save_X8_requireState rfl rfl rfl nVX8_requireState ⟨Nat.le_of_ble_eq_true rfl, Nat.le_of_ble_eq_true rfl⟩) rfl hl.1 rfl (Nat.le_of_ble_eq_true rfl) dX8_save_20 ⟨Nat.le_of_ble_eq_true rfl, Nat.le_of_ble_eq_true rfl⟩ hex hlocks (Nat.le_of_ble_eq_true rfl) (Nat.le_of_ble_eq_true rfl)
def sX8_save_9 (x1 : Int32) (x2 : Int32) (sx0 : Int32) (σ : TS) : Option XR := (if sx0 = ((-1 : Int32)) then sX8_save_20 x1 x2 sx0 ((0 : Int32)) σ else sX8_save_20 x1 x2 sx0 ((1 : Int32)) σ)
set_option maxHeartbeats 4000000 in
set_option maxRecDepth 100000 in
theorem kX8_save_9 {r : Int32 ⊕ Nat} {u : TS} (C0 : gC RX8 cX8_save 4 ((some .int)) wsX8_save p s m args meth c) (hlf : l.stackTraces = false) (hXP : xPre (gA 78 q) s) (hex : ∀ x ∈ c.exceptionTable.toList, False) (hK : va_K D vwCl (tyL cy) s) (hJ : gJ 78 q) {H : Heap} {locs : List Loc} {σ : TS} {x1 : Int32} {x2 : Int32} {sx0 : Int32} (hP : va_P D vwCl (gS 78 q (TX cy q) σ) H) (hS : va_S (gA 78 q) s.heap H locs) {ls : Array Slot} (hl : lv_has ls 4 [(0, .ref (q (0))), (1, .int x1), (2, .int x2)]) (hp : sX8_save_9 x1 x2 sx0 σ = some (r, u)) : W p l e rmX8_save s m args below meth c H locs 1 6 (vx_MQ below (gQx D vwCl r (gS 78 q (TX cy q) u) (gA 78 q)) (gXx D vwCl r (gS 78 q (TX cy q) u) (gA 78 q)) args s 2 12 (gA 78 q)) (F0 m 9 ls [.int sx0]) := by
  obtain ⟨hx, hb, hr, hml, hown, hts, hlocks⟩ := id C0
  unfold sX8_save_9 at hp
  refine lv_istore_n (lv' := [(3, .int sx0), (0, .ref (q (0))), (1, .int x1), (2, .int x2)]) hx hb dX8_save_9 rfl hl (by decide) rfl (fun ls hl => ?_)
  refine lv_iload_n hx hb dX8_save_10 rfl (lv_at hl 0 rfl) ?_
  refine lv_iconst (v := (-1 : Int32)) hx hb dX8_save_11 (by decide) ?_
  refine lv_icmp_eq (tgt := 19) hx hb dX8_save_12 (by decide) (fun hcd22 => ?_) (fun hcd22 => ?_)
  · have hp := o_t hp hcd22
    refine lv_iconst (v := (0 : Int32)) hx hb dX8_save_19 (by decide) ?_
    exact kX8_save_20 C0 hlf hXP hex hK hJ  hP hS (lv_sub hl [1, 2, 3, 0] rfl) hp
  · have hp := o_f hp hcd22
    refine lv_iconst (v := (1 : Int32)) hx hb dX8_save_15 (by decide) ?_
    refine lv_goto (tgt := 20) hx hb dX8_save_16 (by decide) ?_
    exact kX8_save_20 C0 hlf hXP hex hK hJ  hP hS (lv_sub hl [1, 2, 3, 0] rfl) hp
def sX8_save_5 (x1 : Int32) (x2 : Int32) (σ : TS) : Option XR := ((sX8_lowestOn σ).bind (fun z => sX8_save_9 x1 x2 z.1 z.2))
set_option maxHeartbeats 4000000 in
set_option maxRecDepth 100000 in
theorem kX8_save_5 {r : Int32 ⊕ Nat} {u : TS} (C0 : gC RX8 cX8_save 4 ((some .int)) wsX8_save p s m args meth c) (hlf : l.stackTraces = false) (hXP : xPre (gA 78 q) s) (hex : ∀ x ∈ c.exceptionTable.toList, False) (hK : va_K D vwCl (tyL cy) s) (hJ : gJ 78 q) {H : Heap} {locs : List Loc} {σ : TS} {x1 : Int32} {x2 : Int32} (hP : va_P D vwCl (gS 78 q (TX cy q) σ) H) (hS : va_S (gA 78 q) s.heap H locs) {ls : Array Slot} (hl : lv_has ls 4 [(0, .ref (q (0))), (1, .int x1), (2, .int x2)]) (hp : sX8_save_5 x1 x2 σ = some (r, u)) : W p l e rmX8_save s m args below meth c H locs 1 6 (vx_MQ below (gQx D vwCl r (gS 78 q (TX cy q) u) (gA 78 q)) (gXx D vwCl r (gS 78 q (TX cy q) u) (gA 78 q)) args s 2 12 (gA 78 q)) (F0 m 5 ls []) := by
  obtain ⟨hx, hb, hr, hml, hown, hts, hlocks⟩ := id C0
  unfold sX8_save_5 at hp
  refine lv_aload_n hx hb dX8_save_5 rfl (lv_at hl 0 rfl) ?_
  obtain ⟨⟨r23, u24⟩, hq25, hp⟩ := o_b hp
  refine g_cVi (As := []) (rest := []) hx hb hml hown hts hK hP hS (mX8_lowestOn l hJ hq25) (cwV 0 hts gX8_save_X8_lowestOn rfl rfl rfl nVX8_lowestOn ⟨Nat.le_of_ble_eq_true rfl, Nat.le_of_ble_eq_true rfl⟩) (g_recv hK hP (kk_Tri) (ce_Tri) rfl) rfl hl.1 rfl (Nat.le_of_ble_eq_true rfl) dX8_save_6 ⟨Nat.le_of_ble_eq_true rfl, Nat.le_of_ble_eq_true rfl⟩ (fun H locs hP hS => ?_)
  exact kX8_save_9 C0 hlf hXP hex hK hJ  hP hS hl hp
def sX8_save_0 (x1 : Int32) (x2 : Int32) (σ : TS) : Option XR := ((sX8_requireIndex x1 ((3 : Int32)) σ).bind (fun z => o_x z (fun _ zs => sX8_save_5 x1 x2 zs)))
set_option maxHeartbeats 4000000 in
set_option maxRecDepth 100000 in
theorem kX8_save_0 {r : Int32 ⊕ Nat} {u : TS} (C0 : gC RX8 cX8_save 4 ((some .int)) wsX8_save p s m args meth c) (hlf : l.stackTraces = false) (hXP : xPre (gA 78 q) s) (hex : ∀ x ∈ c.exceptionTable.toList, False) (hK : va_K D vwCl (tyL cy) s) (hJ : gJ 78 q) {H : Heap} {locs : List Loc} {σ : TS} {x1 : Int32} {x2 : Int32} (hP : va_P D vwCl (gS 78 q (TX cy q) σ) H) (hS : va_S (gA 78 q) s.heap H locs) {ls : Array Slot} (hl : lv_has ls 4 [(0, .ref (q (0))), (1, .int x1), (2, .int x2)]) (hp : sX8_save_0 x1 x2 σ = some (r, u)) : W p l e rmX8_save s m args below meth c H locs 0 0 (vx_MQ below (gQx D vwCl r (gS 78 q (TX cy q) u) (gA 78 q)) (gXx D vwCl r (gS 78 q (TX cy q) u) (gA 78 q)) args s 2 12 (gA 78 q)) (F0 m 0 ls []) := by
  obtain ⟨hx, hb, hr, hml, hown, hts, hlocks⟩ := id C0
  unfold sX8_save_0 at hp
  refine lv_iload_n hx hb dX8_save_0 rfl (lv_at hl 1 rfl) ?_
  refine lv_iconst (v := (3 : Int32)) hx hb dX8_save_1 (by decide) ?_
  obtain ⟨⟨r26, u27⟩, hq28, hp⟩ := o_b hp
  rcases r26 with r26 | r26
  · refine g_xSv (As := [.int x1, .int ((3 : Int32))]) (rest := []) hx hb hml hown hts hK hXP hP hS (mX8_requireIndex l hlf hJ hq28) (va_cwS 2 hts gX8_save_X8_requireIndex rfl rfl rfl nVX8_requireIndex ⟨Nat.le_of_ble_eq_true rfl, Nat.le_of_ble_eq_true rfl⟩) rfl hl.1 rfl (Nat.le_of_ble_eq_true rfl) dX8_save_2 ⟨Nat.le_of_ble_eq_true rfl, Nat.le_of_ble_eq_true rfl⟩ (fun H locs hP hS => ?_)
    exact kX8_save_5 C0 hlf hXP hex hK hJ  hP hS hl hp
  · obtain ⟨rfl, rfl⟩ := o_r (a := (Sum.inr r26 : Int32 ⊕ Nat)) (b := u27) hp
    exact g_xSt (As := [.int x1, .int ((3 : Int32))]) (rest := []) hx hb hml hown hts hK hXP hP hS (mX8_requireIndex l hlf hJ hq28) (va_cwS 2 hts gX8_save_X8_requireIndex rfl rfl rfl nVX8_requireIndex ⟨Nat.le_of_ble_eq_true rfl, Nat.le_of_ble_eq_true rfl⟩) rfl hl.1 rfl (Nat.le_of_ble_eq_true rfl) dX8_save_2 ⟨Nat.le_of_ble_eq_true rfl, Nat.le_of_ble_eq_true rfl⟩ hex hlocks (Nat.le_of_ble_eq_true rfl) (Nat.le_of_ble_eq_true rfl)
def sX8_save (x1 : Int32) (x2 : Int32) (σ : TS) : Option XR := sX8_save_0 x1 x2 σ
theorem nVX8_save : yX8_save.cls = RX8 ∧ yX8_save.cls ≠ "java/lang/invoke/MethodHandle" ∧ yX8_save.cls ≠ "java/lang/invoke/VarHandle" ∧ (parseMethodDescriptor yX8_save.desc).map (fun d => d.parameters.length) = some 2 := by decide +kernel
set_option maxHeartbeats 4000000 in
set_option maxRecDepth 100000 in
theorem mX8_save (l : Launch) (hlf : l.stackTraces = false) (hJ : gJ 78 q) {x1 : Int32} {x2 : Int32} {σ : TS} {r : Int32 ⊕ Nat} {u : TS} (hp : sX8_save x1 x2 σ = some (r, u)) : vx_Met l yX8_save wsX8_save rmX8_save (va_Pc [.ref (q (0)), .int x1, .int x2] (gPreX D vwCl (tyL cy) (gS 78 q (TX cy q) σ) (gA 78 q))) (gQx D vwCl r (gS 78 q (TX cy q) u) (gA 78 q)) (gXx D vwCl r (gS 78 q (TX cy q) u) (gA 78 q)) 2 12 (gA 78 q) := by
  refine vx_ofW (cc := cX8_save) (maxL := 4) (ret := (some .int)) (by decide +kernel) rfl ?_
  intro p e s m args below meth c s₁ B hml hex hv
  obtain ⟨rfl, ⟨hP, hK⟩, hXP⟩ := hv
  have hl := lv_entry ([.ref (q (0)), .int x1, .int x2]) (n := 4) (Nat.le_of_ble_eq_true rfl)
  rw [lg_entry_eq]
  generalize (lg_sl ([.ref (q (0)), .int x1, .int x2]) ++ List.replicate (4 - (lg_sl ([.ref (q (0)), .int x1, .int x2])).length) Slot.unset).toArray = ls at hl ⊢
  have hl : lv_has ls 4 [(0, .ref (q (0))), (1, .int x1), (2, .int x2)] := hl
  exact kX8_save_0 ⟨B.exec, B.bytes, B.returns, hml, findClass_of_methodNamed B.named, atoms_spec (ws := wsX8_save) B.pre, B.notSynchronized⟩ hlf hXP hex hK hJ  hP va_S.rf hl hp
theorem miX8_load_X1 : ∀ w ∈ u_ws RX1 TX1 14, w ∈ wsX8_load := by decide +kernel
theorem miX8_load_X2 : ∀ w ∈ u_ws RX2 TX2 3, w ∈ wsX8_load := by decide +kernel
theorem miX8_load_X8 : ∀ w ∈ u_ws RX8 TX8 16, w ∈ wsX8_load := by decide +kernel
theorem mwX8_load_0 : Cond.fieldLink RX8 16 "Triplane" "plainComputer" "LTriplane$Computer;" ∈ wsX8_load := by decide +kernel
theorem mwX8_load_1 : Cond.fieldLink RX8 137 "Triplane$Computer" "memory" "LTriplane$Memory;" ∈ wsX8_load := by decide +kernel
theorem mwX8_load_2 : Cond.fieldLink RX8 11 "Triplane" "computers" "[LTriplane$Computer;" ∈ wsX8_load := by decide +kernel
theorem mwX8_load_3 : Cond.fieldLink RX8 162 "Triplane$Computer" "isRunning" "Z" ∈ wsX8_load := by decide +kernel
theorem mwX8_load_4 : Cond.fieldLink RX8 28 "Triplane" "copies" "[LTriplane$Copies;" ∈ wsX8_load := by decide +kernel
theorem mwX8_load_5 : Cond.fieldLink RX8 235 "Triplane$Copies" "newest" "I" ∈ wsX8_load := by decide +kernel
theorem mwX8_load_6 : Cond.classLink RX8 238 "java/util/NoSuchElementException" ∈ wsX8_load := by decide +kernel
theorem mwX8_load_7 : Cond.initialized "java/util/NoSuchElementException" ∈ wsX8_load := by decide +kernel
abbrev rmX8_load : Room := { frames := 7, cells := 2, slots := 12, locals := 111 }
theorem mxX8_load_242 : ∀ w ∈ xn_at242.filter goodWord, w ∈ wsX8_load := by decide +kernel
def sX8_load_66 (K32 : Nat → Int32 → Int32 → TS → Option XR) (c2 : Nat) (x1 : Int32) (x3 : Int32) (σ : TS) : Option XR := K32 c2 x1 (x3 + (1 : Int32)) σ
set_option maxHeartbeats 4000000 in
set_option maxRecDepth 100000 in
theorem kX8_load_66 {r : Int32 ⊕ Nat} {u : TS} {K32 : Nat → Int32 → Int32 → TS → Option XR} (C0 : gC RX8 cX8_load 4 ((some .int)) wsX8_load p s m args meth c) (hlf : l.stackTraces = false) (hXP : xPre (gA 78 q) s) (hex : ∀ x ∈ c.exceptionTable.toList, False) (hK : va_K D vwCl (tyL cy) s) (hJ : gJ 78 q) (kh32 : ∀ (H : Heap) (locs : List Loc) (σ : TS) (c2 : Nat) (x1 : Int32) (x3 : Int32) (hc2 : c2 < 3) (hP : va_P D vwCl (gS 78 q (TX cy q) σ) H) (hS : va_S (gA 78 q) s.heap H locs) (ls : Array Slot) (hl : lv_has ls 4 [(0, .ref (q (0))), (1, .int x1), (2, .ref (q (51+5*c2))), (3, .int x3)]) (hp : K32 c2 x1 x3 σ = some (r, u)), W p l e rmX8_load s m args below meth c H locs 1 6 (vx_MQ below (gQx D vwCl r (gS 78 q (TX cy q) u) (gA 78 q)) (gXx D vwCl r (gS 78 q (TX cy q) u) (gA 78 q)) args s 2 12 (gA 78 q)) (F0 m 32 ls [])) {H : Heap} {locs : List Loc} {σ : TS} {c2 : Nat} {x1 : Int32} {x3 : Int32} (hc2 : c2 < 3) (hP : va_P D vwCl (gS 78 q (TX cy q) σ) H) (hS : va_S (gA 78 q) s.heap H locs) {ls : Array Slot} (hl : lv_has ls 4 [(0, .ref (q (0))), (1, .int x1), (2, .ref (q (51+5*c2))), (3, .int x3)]) (hp : sX8_load_66 K32 c2 x1 x3 σ = some (r, u)) : W p l e rmX8_load s m args below meth c H locs 1 6 (vx_MQ below (gQx D vwCl r (gS 78 q (TX cy q) u) (gA 78 q)) (gXx D vwCl r (gS 78 q (TX cy q) u) (gA 78 q)) args s 2 12 (gA 78 q)) (F0 m 66 ls []) := by
  obtain ⟨hx, hb, hr, hml, hown, hts, hlocks⟩ := id C0
  unfold sX8_load_66 at hp
  refine lv_iinc (v := x3 + (1 : Int32)) (lv' := [(3, .int (x3 + (1 : Int32))), (0, .ref (q (0))), (1, .int x1), (2, .ref (q (51+5*c2)))]) hx hb dX8_load_66 hl (k := 3) rfl rfl (by decide) rfl (fun ls hl => ?_)
  refine lv_goto (tgt := 32) hx hb dX8_load_69 (by decide) ?_
  exact kh32 _ _ _ _ _ _ hc2 hP hS _ (lv_sub hl [1, 2, 3, 0] rfl) hp
def sX8_load_91 (sx0 : Int32) (σ : TS) : Option XR := some (Sum.inl sx0, σ)
set_option maxHeartbeats 4000000 in
set_option maxRecDepth 100000 in
theorem kX8_load_91 {r : Int32 ⊕ Nat} {u : TS} (C0 : gC RX8 cX8_load 4 ((some .int)) wsX8_load p s m args meth c) (hlf : l.stackTraces = false) (hXP : xPre (gA 78 q) s) (hex : ∀ x ∈ c.exceptionTable.toList, False) (hK : va_K D vwCl (tyL cy) s) (hJ : gJ 78 q) {H : Heap} {locs : List Loc} {σ : TS} {sx0 : Int32} (hP : va_P D vwCl (gS 78 q (TX cy q) σ) H) (hS : va_S (gA 78 q) s.heap H locs) {ls : Array Slot} (hl : lv_has ls 4 []) (hp : sX8_load_91 sx0 σ = some (r, u)) : W p l e rmX8_load s m args below meth c H locs 1 6 (vx_MQ below (gQx D vwCl r (gS 78 q (TX cy q) u) (gA 78 q)) (gXx D vwCl r (gS 78 q (TX cy q) u) (gA 78 q)) args s 2 12 (gA 78 q)) (F0 m 91 ls [.int sx0]) := by
  obtain ⟨hx, hb, hr, hml, hown, hts, hlocks⟩ := id C0
  unfold sX8_load_91 at hp
  obtain ⟨rfl, rfl⟩ := o_r hp
  refine W.widen (k := 2) (n := 12) (Nat.le_of_ble_eq_true rfl) (Nat.le_of_ble_eq_true rfl) ?_
  refine vx_ret ?_
  exact W.iret (v := sx0) hx hb hr (fun t ht hW => ⟨⟨sx0, (), rfl, rfl, by subst ht; exact hP⟩, hS.F ht⟩) hS.2.2 dX8_load_91
def sX8_load_87 (c2 : Nat) (σ : TS) : Option XR := ((sX2_firstWord c2 σ).bind (fun z => sX8_load_91 z.1 z.2))
set_option maxHeartbeats 4000000 in
set_option maxRecDepth 100000 in
theorem kX8_load_87 {r : Int32 ⊕ Nat} {u : TS} (C0 : gC RX8 cX8_load 4 ((some .int)) wsX8_load p s m args meth c) (hlf : l.stackTraces = false) (hXP : xPre (gA 78 q) s) (hex : ∀ x ∈ c.exceptionTable.toList, False) (hK : va_K D vwCl (tyL cy) s) (hJ : gJ 78 q) {H : Heap} {locs : List Loc} {σ : TS} {c2 : Nat} (hc2 : c2 < 3) (hP : va_P D vwCl (gS 78 q (TX cy q) σ) H) (hS : va_S (gA 78 q) s.heap H locs) {ls : Array Slot} (hl : lv_has ls 4 [(2, .ref (q (51+5*c2)))]) (hp : sX8_load_87 c2 σ = some (r, u)) : W p l e rmX8_load s m args below meth c H locs 1 6 (vx_MQ below (gQx D vwCl r (gS 78 q (TX cy q) u) (gA 78 q)) (gXx D vwCl r (gS 78 q (TX cy q) u) (gA 78 q)) args s 2 12 (gA 78 q)) (F0 m 87 ls []) := by
  obtain ⟨hx, hb, hr, hml, hown, hts, hlocks⟩ := id C0
  unfold sX8_load_87 at hp
  refine lv_aload_n hx hb dX8_load_87 rfl (lv_at hl 0 rfl) ?_
  obtain ⟨⟨r1, u2⟩, hq3, hp⟩ := o_b hp
  refine g_cVi (As := []) (rest := []) hx hb hml hown hts hK hP hS (mX2_firstWord l hJ hc2 hq3) (cwV 0 hts gX8_load_X2_firstWord rfl rfl rfl nVX2_firstWord ⟨Nat.le_of_ble_eq_true rfl, Nat.le_of_ble_eq_true rfl⟩) (g_recv hK hP (kk_Cop hc2) (ce_Cop hc2) rfl) rfl hl.1 rfl (Nat.le_of_ble_eq_true rfl) dX8_load_88 ⟨Nat.le_of_ble_eq_true rfl, Nat.le_of_ble_eq_true rfl⟩ (fun H locs hP hS => ?_)
  exact kX8_load_91 C0 hlf hXP hex hK hJ  hP hS (lv_sub hl [] rfl) hp
def sX8_load_32 : Nat → Nat → Int32 → Int32 → TS → Option XR
  | 0, _, _, _, _ => none
  | n + 1, c2, x1, x3, σ => (if ((3 : Int32)) ≤ x3 then ((sX2_restore c2 3 (((6 : Int32)) * x1) σ).bind (fun z => sX8_load_87 c2 z.2)) else (if vin x3 3 = true then (if (σ (15+6*(x3.toNatClampNeg)) 6) = 0 then sX8_load_66 (sX8_load_32 n) c2 x1 x3 σ else ((sX2_restore c2 ((x3.toNatClampNeg)) (((6 : Int32)) * x1) σ).bind (fun z => sX8_load_66 (sX8_load_32 n) c2 x1 x3 z.2))) else none))
set_option maxHeartbeats 4000000 in
set_option maxRecDepth 100000 in
theorem kX8_load_32 {r : Int32 ⊕ Nat} {u : TS} (C0 : gC RX8 cX8_load 4 ((some .int)) wsX8_load p s m args meth c) (hlf : l.stackTraces = false) (hXP : xPre (gA 78 q) s) (hex : ∀ x ∈ c.exceptionTable.toList, False) (hK : va_K D vwCl (tyL cy) s) (hJ : gJ 78 q) : ∀ (n : Nat) (H : Heap) (locs : List Loc) (σ : TS) (c2 : Nat) (x1 : Int32) (x3 : Int32) (hc2 : c2 < 3) (hP : va_P D vwCl (gS 78 q (TX cy q) σ) H) (hS : va_S (gA 78 q) s.heap H locs) (ls : Array Slot) (hl : lv_has ls 4 [(0, .ref (q (0))), (1, .int x1), (2, .ref (q (51+5*c2))), (3, .int x3)]) (hp : sX8_load_32 n c2 x1 x3 σ = some (r, u)), W p l e rmX8_load s m args below meth c H locs 1 6 (vx_MQ below (gQx D vwCl r (gS 78 q (TX cy q) u) (gA 78 q)) (gXx D vwCl r (gS 78 q (TX cy q) u) (gA 78 q)) args s 2 12 (gA 78 q)) (F0 m 32 ls []) := by
  obtain ⟨hx, hb, hr, hml, hown, hts, hlocks⟩ := id C0
  intro n
  induction n with
  | zero =>
    intro H locs σ c2 x1 x3 hc2 hP hS ls hl hp
    cases hp
  | succ n ih =>
    intro H locs σ c2 x1 x3 hc2 hP hS ls hl hp
    unfold sX8_load_32 at hp
    refine lv_iload_n hx hb dX8_load_32 rfl (lv_at hl 3 rfl) ?_
    refine lv_iconst (v := (3 : Int32)) hx hb dX8_load_33 (by decide) ?_
    refine lv_icmp_ge (tgt := 72) hx hb dX8_load_34 (by decide) (fun hcd4 => ?_) (fun hcd4 => ?_)
    · have hp := o_t hp hcd4
      refine lv_aload_n hx hb dX8_load_72 rfl (lv_at hl 2 rfl) ?_
      refine lv_aload_n hx hb dX8_load_73 rfl (lv_at hl 0 rfl) ?_
      refine g_get (v := .ref (q (15+6*3))) hx hb hts miX8_load_X8 hown hK hP (kk_Tri) (ce_Tri) rfl 1 (by decide) mwX8_load_0 rfl dX8_load_74 ?_
      refine g_get (v := .ref (q (16+6*3))) hx hb hts miX8_load_X1 hown hK hP (kk_Comp (by decide)) (ce_Comp (by decide)) rfl 0 (by decide) mwX8_load_1 rfl dX8_load_77 ?_
      refine lv_bipush (v := (6 : Int32)) hx hb dX8_load_80 (by decide) ?_
      refine lv_iload_n hx hb dX8_load_82 rfl (lv_at hl 1 rfl) ?_
      refine lv_imul hx hb dX8_load_83 ?_
      obtain ⟨⟨r5, u6⟩, hq7, hp⟩ := o_b hp
      refine g_cVv (As := [.ref (q (16+6*3)), .int (((6 : Int32)) * x1)]) (rest := []) hx hb hml hown hts hK hP hS (mX2_restore l hJ hc2 (by decide) hq7) (cwV 2 hts gX8_load_X2_restore rfl rfl rfl nVX2_restore ⟨Nat.le_of_ble_eq_true rfl, Nat.le_of_ble_eq_true rfl⟩) (g_recv hK hP (kk_Cop hc2) (ce_Cop hc2) rfl) rfl hl.1 rfl (Nat.le_of_ble_eq_true rfl) dX8_load_84 ⟨Nat.le_of_ble_eq_true rfl, Nat.le_of_ble_eq_true rfl⟩ (fun H locs hP hS => ?_)
      exact kX8_load_87 C0 hlf hXP hex hK hJ hc2 hP hS (lv_sub hl [2] rfl) hp
    · have hp := o_f hp hcd4
      refine lv_aload_n hx hb dX8_load_37 rfl (lv_at hl 0 rfl) ?_
      refine g_get (v := .ref (q (1))) hx hb hts miX8_load_X8 hown hK hP (kk_Tri) (ce_Tri) rfl 0 (by decide) mwX8_load_2 rfl dX8_load_38 ?_
      refine lv_iload_n hx hb dX8_load_41 rfl (lv_at hl 3 rfl) ?_
      obtain ⟨hi8, hp⟩ := o_chk hp
      have hn9 : x3.toNatClampNeg < 4 := Nat.lt_of_lt_of_le (vin_lt hi8) (by decide)
      refine g_aald (j := x3.toNatClampNeg) hx hb hK hP (kk_CompArr) (ce_CompArr) 3 rfl rfl (vin_of hi8) rfl dX8_load_42 ?_
      refine g_get (v := .int (σ (15+6*(x3.toNatClampNeg)) 6)) hx hb hts miX8_load_X1 hown hK hP (kk_Comp hn9) (ce_Comp hn9) rfl 6 (by decide) mwX8_load_3 rfl dX8_load_43 ?_
      refine lv_if_eq (tgt := 66) hx hb dX8_load_46 (by decide) (fun hcd10 => ?_) (fun hcd10 => ?_)
      · have hp := o_t hp hcd10
        exact kX8_load_66 C0 hlf hXP hex hK hJ ih hc2 hP hS hl hp
      · have hp := o_f hp hcd10
        refine lv_aload_n hx hb dX8_load_49 rfl (lv_at hl 2 rfl) ?_
        refine lv_aload_n hx hb dX8_load_50 rfl (lv_at hl 0 rfl) ?_
        refine g_get (v := .ref (q (1))) hx hb hts miX8_load_X8 hown hK hP (kk_Tri) (ce_Tri) rfl 0 (by decide) mwX8_load_2 rfl dX8_load_51 ?_
        refine lv_iload_n hx hb dX8_load_54 rfl (lv_at hl 3 rfl) ?_
        have hn11 : x3.toNatClampNeg < 4 := Nat.lt_of_lt_of_le (vin_lt hi8) (by decide)
        refine g_aald (j := x3.toNatClampNeg) hx hb hK hP (kk_CompArr) (ce_CompArr) 3 rfl rfl (vin_of hi8) rfl dX8_load_55 ?_
        refine g_get (v := .ref (q (16+6*(x3.toNatClampNeg)))) hx hb hts miX8_load_X1 hown hK hP (kk_Comp hn11) (ce_Comp hn11) rfl 0 (by decide) mwX8_load_1 rfl dX8_load_56 ?_
        refine lv_bipush (v := (6 : Int32)) hx hb dX8_load_59 (by decide) ?_
        refine lv_iload_n hx hb dX8_load_61 rfl (lv_at hl 1 rfl) ?_
        refine lv_imul hx hb dX8_load_62 ?_
        obtain ⟨⟨r12, u13⟩, hq14, hp⟩ := o_b hp
        refine g_cVv (As := [.ref (q (16+6*(x3.toNatClampNeg))), .int (((6 : Int32)) * x1)]) (rest := []) hx hb hml hown hts hK hP hS (mX2_restore l hJ hc2 hn11 hq14) (cwV 2 hts gX8_load_X2_restore rfl rfl rfl nVX2_restore ⟨Nat.le_of_ble_eq_true rfl, Nat.le_of_ble_eq_true rfl⟩) (g_recv hK hP (kk_Cop hc2) (ce_Cop hc2) rfl) rfl hl.1 rfl (Nat.le_of_ble_eq_true rfl) dX8_load_63 ⟨Nat.le_of_ble_eq_true rfl, Nat.le_of_ble_eq_true rfl⟩ (fun H locs hP hS => ?_)
        exact kX8_load_66 C0 hlf hXP hex hK hJ ih hc2 hP hS hl hp
def sX8_load_5 (x1 : Int32) (σ : TS) : Option XR := (if vin x1 3 = true then (if (σ (51+5*(x1.toNatClampNeg)) 2) = ((-1 : Int32)) then some (Sum.inr 5, σ) else sX8_load_32 4 (x1.toNatClampNeg) x1 ((0 : Int32)) σ) else none)
set_option maxHeartbeats 4000000 in
set_option maxRecDepth 100000 in
theorem kX8_load_5 {r : Int32 ⊕ Nat} {u : TS} (C0 : gC RX8 cX8_load 4 ((some .int)) wsX8_load p s m args meth c) (hlf : l.stackTraces = false) (hXP : xPre (gA 78 q) s) (hex : ∀ x ∈ c.exceptionTable.toList, False) (hK : va_K D vwCl (tyL cy) s) (hJ : gJ 78 q) {H : Heap} {locs : List Loc} {σ : TS} {x1 : Int32} (hP : va_P D vwCl (gS 78 q (TX cy q) σ) H) (hS : va_S (gA 78 q) s.heap H locs) {ls : Array Slot} (hl : lv_has ls 4 [(0, .ref (q (0))), (1, .int x1)]) (hp : sX8_load_5 x1 σ = some (r, u)) : W p l e rmX8_load s m args below meth c H locs 1 6 (vx_MQ below (gQx D vwCl r (gS 78 q (TX cy q) u) (gA 78 q)) (gXx D vwCl r (gS 78 q (TX cy q) u) (gA 78 q)) args s 2 12 (gA 78 q)) (F0 m 5 ls []) := by
  obtain ⟨hx, hb, hr, hml, hown, hts, hlocks⟩ := id C0
  unfold sX8_load_5 at hp
  refine lv_aload_n hx hb dX8_load_5 rfl (lv_at hl 0 rfl) ?_
  refine g_get (v := .ref (q (6))) hx hb hts miX8_load_X8 hown hK hP (kk_Tri) (ce_Tri) rfl 3 (by decide) mwX8_load_4 rfl dX8_load_6 ?_
  refine lv_iload_n hx hb dX8_load_9 rfl (lv_at hl 1 rfl) ?_
  obtain ⟨hi15, hp⟩ := o_chk hp
  have hn16 : x1.toNatClampNeg < 3 := Nat.lt_of_lt_of_le (vin_lt hi15) (by decide)
  refine g_aald (j := x1.toNatClampNeg) hx hb hK hP (kk_CopArr) (ce_CopArr) 5 rfl rfl (vin_of hi15) rfl dX8_load_10 ?_
  refine lv_astore_n (lv' := [(2, .ref (q (51+5*x1.toNatClampNeg))), (0, .ref (q (0))), (1, .int x1)]) hx hb dX8_load_11 rfl hl (by decide) rfl (fun ls hl => ?_)
  refine lv_aload_n hx hb dX8_load_12 rfl (lv_at hl 0 rfl) ?_
  refine g_get (v := .int (σ (51+5*(x1.toNatClampNeg)) 2)) hx hb hts miX8_load_X2 hown hK hP (kk_Cop hn16) (ce_Cop hn16) rfl 2 (by decide) mwX8_load_5 rfl dX8_load_13 ?_
  refine lv_iconst (v := (-1 : Int32)) hx hb dX8_load_16 (by decide) ?_
  refine lv_icmp_ne (tgt := 30) hx hb dX8_load_17 (by decide) (fun hcd17 => ?_) (fun hcd17 => ?_)
  · have hp := o_f hp hcd17
    refine lv_iconst (v := (0 : Int32)) hx hb dX8_load_30 (by decide) ?_
    refine lv_istore_n (lv' := [(3, .int ((0 : Int32))), (2, .ref (q (51+5*x1.toNatClampNeg))), (0, .ref (q (0))), (1, .int x1)]) hx hb dX8_load_31 rfl hl (by decide) rfl (fun ls hl => ?_)
    exact kX8_load_32 C0 hlf hXP hex hK hJ _ _ _ _ _ _ _ hn16 hP hS _ (lv_sub hl [2, 3, 1, 0] rfl) hp
  · have hp := o_t hp hcd17
    obtain ⟨rfl, rfl⟩ := o_r hp
    exact n_throw (text := "no good copy") hx hb hlf hown hts hXP mxX8_load_242 mwX8_load_6 mwX8_load_7 (by decide +kernel) hP hS (hl.1.trans hml.symm) dX8_load_20 dX8_load_23 dX8_load_24 dX8_load_26 dX8_load_29 hex (Nat.le_of_ble_eq_true rfl) (Nat.le_of_ble_eq_true rfl) (Nat.le_of_ble_eq_true rfl) (Nat.le_of_ble_eq_true rfl) hlocks (Nat.le_of_ble_eq_true rfl) (Nat.le_of_ble_eq_true rfl)
def sX8_load_0 (x1 : Int32) (σ : TS) : Option XR := ((sX8_requireIndex x1 ((3 : Int32)) σ).bind (fun z => o_x z (fun _ zs => sX8_load_5 x1 zs)))
set_option maxHeartbeats 4000000 in
set_option maxRecDepth 100000 in
theorem kX8_load_0 {r : Int32 ⊕ Nat} {u : TS} (C0 : gC RX8 cX8_load 4 ((some .int)) wsX8_load p s m args meth c) (hlf : l.stackTraces = false) (hXP : xPre (gA 78 q) s) (hex : ∀ x ∈ c.exceptionTable.toList, False) (hK : va_K D vwCl (tyL cy) s) (hJ : gJ 78 q) {H : Heap} {locs : List Loc} {σ : TS} {x1 : Int32} (hP : va_P D vwCl (gS 78 q (TX cy q) σ) H) (hS : va_S (gA 78 q) s.heap H locs) {ls : Array Slot} (hl : lv_has ls 4 [(0, .ref (q (0))), (1, .int x1)]) (hp : sX8_load_0 x1 σ = some (r, u)) : W p l e rmX8_load s m args below meth c H locs 0 0 (vx_MQ below (gQx D vwCl r (gS 78 q (TX cy q) u) (gA 78 q)) (gXx D vwCl r (gS 78 q (TX cy q) u) (gA 78 q)) args s 2 12 (gA 78 q)) (F0 m 0 ls []) := by
  obtain ⟨hx, hb, hr, hml, hown, hts, hlocks⟩ := id C0
  unfold sX8_load_0 at hp
  refine lv_iload_n hx hb dX8_load_0 rfl (lv_at hl 1 rfl) ?_
  refine lv_iconst (v := (3 : Int32)) hx hb dX8_load_1 (by decide) ?_
  obtain ⟨⟨r18, u19⟩, hq20, hp⟩ := o_b hp
  rcases r18 with r18 | r18
  · refine g_xSv (As := [.int x1, .int ((3 : Int32))]) (rest := []) hx hb hml hown hts hK hXP hP hS (mX8_requireIndex l hlf hJ hq20) (va_cwS 2 hts gX8_load_X8_requireIndex rfl rfl rfl nVX8_requireIndex ⟨Nat.le_of_ble_eq_true rfl, Nat.le_of_ble_eq_true rfl⟩) rfl hl.1 rfl (Nat.le_of_ble_eq_true rfl) dX8_load_2 ⟨Nat.le_of_ble_eq_true rfl, Nat.le_of_ble_eq_true rfl⟩ (fun H locs hP hS => ?_)
    exact kX8_load_5 C0 hlf hXP hex hK hJ  hP hS hl hp
  · obtain ⟨rfl, rfl⟩ := o_r (a := (Sum.inr r18 : Int32 ⊕ Nat)) (b := u19) hp
    exact g_xSt (As := [.int x1, .int ((3 : Int32))]) (rest := []) hx hb hml hown hts hK hXP hP hS (mX8_requireIndex l hlf hJ hq20) (va_cwS 2 hts gX8_load_X8_requireIndex rfl rfl rfl nVX8_requireIndex ⟨Nat.le_of_ble_eq_true rfl, Nat.le_of_ble_eq_true rfl⟩) rfl hl.1 rfl (Nat.le_of_ble_eq_true rfl) dX8_load_2 ⟨Nat.le_of_ble_eq_true rfl, Nat.le_of_ble_eq_true rfl⟩ hex hlocks (Nat.le_of_ble_eq_true rfl) (Nat.le_of_ble_eq_true rfl)
def sX8_load (x1 : Int32) (σ : TS) : Option XR := sX8_load_0 x1 σ
theorem nVX8_load : yX8_load.cls = RX8 ∧ yX8_load.cls ≠ "java/lang/invoke/MethodHandle" ∧ yX8_load.cls ≠ "java/lang/invoke/VarHandle" ∧ (parseMethodDescriptor yX8_load.desc).map (fun d => d.parameters.length) = some 1 := by decide +kernel
set_option maxHeartbeats 4000000 in
set_option maxRecDepth 100000 in
theorem mX8_load (l : Launch) (hlf : l.stackTraces = false) (hJ : gJ 78 q) {x1 : Int32} {σ : TS} {r : Int32 ⊕ Nat} {u : TS} (hp : sX8_load x1 σ = some (r, u)) : vx_Met l yX8_load wsX8_load rmX8_load (va_Pc [.ref (q (0)), .int x1] (gPreX D vwCl (tyL cy) (gS 78 q (TX cy q) σ) (gA 78 q))) (gQx D vwCl r (gS 78 q (TX cy q) u) (gA 78 q)) (gXx D vwCl r (gS 78 q (TX cy q) u) (gA 78 q)) 2 12 (gA 78 q) := by
  refine vx_ofW (cc := cX8_load) (maxL := 4) (ret := (some .int)) (by decide +kernel) rfl ?_
  intro p e s m args below meth c s₁ B hml hex hv
  obtain ⟨rfl, ⟨hP, hK⟩, hXP⟩ := hv
  have hl := lv_entry ([.ref (q (0)), .int x1]) (n := 4) (Nat.le_of_ble_eq_true rfl)
  rw [lg_entry_eq]
  generalize (lg_sl ([.ref (q (0)), .int x1]) ++ List.replicate (4 - (lg_sl ([.ref (q (0)), .int x1])).length) Slot.unset).toArray = ls at hl ⊢
  have hl : lv_has ls 4 [(0, .ref (q (0))), (1, .int x1)] := hl
  exact kX8_load_0 ⟨B.exec, B.bytes, B.returns, hml, findClass_of_methodNamed B.named, atoms_spec (ws := wsX8_load) B.pre, B.notSynchronized⟩ hlf hXP hex hK hJ  hP va_S.rf hl hp
theorem miX8_fault_X0 : ∀ w ∈ u_ws RX0 TX0 3, w ∈ wsX8_fault := by decide +kernel
theorem miX8_fault_X8 : ∀ w ∈ u_ws RX8 TX8 16, w ∈ wsX8_fault := by decide +kernel
theorem mwX8_fault_0 : Cond.fieldLink RX8 45 "Triplane" "actuators" "[LTriplane$Actuator;" ∈ wsX8_fault := by decide +kernel
theorem mwX8_fault_1 : Cond.fieldLink RX8 249 "Triplane$Actuator" "faults" "[I" ∈ wsX8_fault := by decide +kernel
abbrev rmX8_fault : Room := { frames := 7, cells := 3, slots := 18, locals := 111 }
def sX8_fault_23 (x1 : Int32) (x2 : Int32) (x3 : Int32) (σ : TS) : Option XR := (if vin x1 4 = true then (if vin x2 3 = true then some (Sum.inl (σ (71+2*((x1.toNatClampNeg))) (x2.toNatClampNeg)), st2 σ (71+2*((x1.toNatClampNeg))) (x2.toNatClampNeg) x3) else none) else none)
set_option maxHeartbeats 4000000 in
set_option maxRecDepth 100000 in
theorem kX8_fault_23 {r : Int32 ⊕ Nat} {u : TS} (C0 : gC RX8 cX8_fault 5 ((some .int)) wsX8_fault p s m args meth c) (hlf : l.stackTraces = false) (hXP : xPre (gA 78 q) s) (hex : ∀ x ∈ c.exceptionTable.toList, False) (hK : va_K D vwCl (tyL cy) s) (hJ : gJ 78 q) {H : Heap} {locs : List Loc} {σ : TS} {x1 : Int32} {x2 : Int32} {x3 : Int32} (hP : va_P D vwCl (gS 78 q (TX cy q) σ) H) (hS : va_S (gA 78 q) s.heap H locs) {ls : Array Slot} (hl : lv_has ls 5 [(0, .ref (q (0))), (1, .int x1), (2, .int x2), (3, .int x3)]) (hp : sX8_fault_23 x1 x2 x3 σ = some (r, u)) : W p l e rmX8_fault s m args below meth c H locs 3 18 (vx_MQ below (gQx D vwCl r (gS 78 q (TX cy q) u) (gA 78 q)) (gXx D vwCl r (gS 78 q (TX cy q) u) (gA 78 q)) args s 3 18 (gA 78 q)) (F0 m 23 ls []) := by
  obtain ⟨hx, hb, hr, hml, hown, hts, hlocks⟩ := id C0
  unfold sX8_fault_23 at hp
  refine lv_aload_n hx hb dX8_fault_23 rfl (lv_at hl 0 rfl) ?_
  refine g_get (v := .ref (q (8))) hx hb hts miX8_fault_X8 hown hK hP (kk_Tri) (ce_Tri) rfl 6 (by decide) mwX8_fault_0 rfl dX8_fault_24 ?_
  refine lv_iload_n hx hb dX8_fault_27 rfl (lv_at hl 1 rfl) ?_
  obtain ⟨hi1, hp⟩ := o_chk hp
  have hn2 : x1.toNatClampNeg < 4 := Nat.lt_of_lt_of_le (vin_lt hi1) (by decide)
  refine g_aald (j := x1.toNatClampNeg) hx hb hK hP (kk_ActArr) (ce_ActArr) 8 rfl rfl (vin_of hi1) rfl dX8_fault_28 ?_
  refine g_get (v := .ref (q (71+2*(x1.toNatClampNeg)))) hx hb hts miX8_fault_X0 hown hK hP (kk_Act hn2) (ce_Act hn2) rfl 0 (by decide) mwX8_fault_1 rfl dX8_fault_29 ?_
  refine lv_iload_n hx hb dX8_fault_32 rfl (lv_at hl 2 rfl) ?_
  obtain ⟨hi3, hp⟩ := o_chk hp
  refine g_iald (j := x2.toNatClampNeg) hx hb hK hP (kk_ActF hn2) (ce_ActF hn2) 0 rfl (vin_of hi3) rfl dX8_fault_33 ?_
  refine lv_istore (lv' := [(4, .int (σ (71+2*((x1.toNatClampNeg))) (x2.toNatClampNeg))), (0, .ref (q (0))), (1, .int x1), (2, .int x2), (3, .int x3)]) hx hb dX8_fault_34 hl (by decide) rfl (fun ls hl => ?_)
  refine lv_aload_n hx hb dX8_fault_36 rfl (lv_at hl 1 rfl) ?_
  refine g_get (v := .ref (q (8))) hx hb hts miX8_fault_X8 hown hK hP (kk_Tri) (ce_Tri) rfl 6 (by decide) mwX8_fault_0 rfl dX8_fault_37 ?_
  refine lv_iload_n hx hb dX8_fault_40 rfl (lv_at hl 2 rfl) ?_
  have hn4 : x1.toNatClampNeg < 4 := Nat.lt_of_lt_of_le (vin_lt hi1) (by decide)
  refine g_aald (j := x1.toNatClampNeg) hx hb hK hP (kk_ActArr) (ce_ActArr) 8 rfl rfl (vin_of hi1) rfl dX8_fault_41 ?_
  refine g_get (v := .ref (q (71+2*(x1.toNatClampNeg)))) hx hb hts miX8_fault_X0 hown hK hP (kk_Act hn4) (ce_Act hn4) rfl 0 (by decide) mwX8_fault_1 rfl dX8_fault_42 ?_
  refine lv_iload_n hx hb dX8_fault_45 rfl (lv_at hl 3 rfl) ?_
  refine lv_iload_n hx hb dX8_fault_46 rfl (lv_at hl 4 rfl) ?_
  refine g_iast (j := x2.toNatClampNeg) hx hb hK hJ hP hS (kk_ActF hn4) (ce_ActF hn4) 0 rfl (vin_of hi3) rfl dX8_fault_47 (fun H locs hP hS => ?_)
  refine lv_iload hx hb dX8_fault_48 (lv_at hl 0 rfl) ?_
  obtain ⟨rfl, rfl⟩ := o_r hp
  refine W.widen (k := 3) (n := 18) (Nat.le_of_ble_eq_true rfl) (Nat.le_of_ble_eq_true rfl) ?_
  refine vx_ret ?_
  exact W.iret (v := σ (71+2*((x1.toNatClampNeg))) (x2.toNatClampNeg)) hx hb hr (fun t ht hW => ⟨⟨σ (71+2*((x1.toNatClampNeg))) (x2.toNatClampNeg), (), rfl, rfl, by subst ht; exact hP⟩, hS.F ht⟩) hS.2.2 dX8_fault_50
def sX8_fault_20 (x1 : Int32) (x2 : Int32) (x3 : Int32) (sx0 : Int32) (σ : TS) : Option XR := ((sX8_requireFit sx0 σ).bind (fun z => o_x z (fun _ zs => sX8_fault_23 x1 x2 x3 zs)))
set_option maxHeartbeats 4000000 in
set_option maxRecDepth 100000 in
theorem kX8_fault_20 {r : Int32 ⊕ Nat} {u : TS} (C0 : gC RX8 cX8_fault 5 ((some .int)) wsX8_fault p s m args meth c) (hlf : l.stackTraces = false) (hXP : xPre (gA 78 q) s) (hex : ∀ x ∈ c.exceptionTable.toList, False) (hK : va_K D vwCl (tyL cy) s) (hJ : gJ 78 q) {H : Heap} {locs : List Loc} {σ : TS} {x1 : Int32} {x2 : Int32} {x3 : Int32} {sx0 : Int32} (hP : va_P D vwCl (gS 78 q (TX cy q) σ) H) (hS : va_S (gA 78 q) s.heap H locs) {ls : Array Slot} (hl : lv_has ls 5 [(0, .ref (q (0))), (1, .int x1), (2, .int x2), (3, .int x3)]) (hp : sX8_fault_20 x1 x2 x3 sx0 σ = some (r, u)) : W p l e rmX8_fault s m args below meth c H locs 2 12 (vx_MQ below (gQx D vwCl r (gS 78 q (TX cy q) u) (gA 78 q)) (gXx D vwCl r (gS 78 q (TX cy q) u) (gA 78 q)) args s 3 18 (gA 78 q)) (F0 m 20 ls [.int sx0]) := by
  obtain ⟨hx, hb, hr, hml, hown, hts, hlocks⟩ := id C0
  unfold sX8_fault_20 at hp
  obtain ⟨⟨r5, u6⟩, hq7, hp⟩ := o_b hp
  rcases r5 with r5 | r5
  · refine g_xSv (As := [.int sx0]) (rest := []) hx hb hml hown hts hK hXP hP hS (mX8_requireFit l hlf hJ hq7) (va_cwS 1 hts gX8_fault_X8_requireFit rfl rfl rfl nVX8_requireFit ⟨Nat.le_of_ble_eq_true rfl, Nat.le_of_ble_eq_true rfl⟩) rfl hl.1 rfl (Nat.le_of_ble_eq_true rfl) dX8_fault_20 ⟨Nat.le_of_ble_eq_true rfl, Nat.le_of_ble_eq_true rfl⟩ (fun H locs hP hS => ?_)
    exact kX8_fault_23 C0 hlf hXP hex hK hJ  hP hS hl hp
  · obtain ⟨rfl, rfl⟩ := o_r (a := (Sum.inr r5 : Int32 ⊕ Nat)) (b := u6) hp
    exact g_xSt (As := [.int sx0]) (rest := []) hx hb hml hown hts hK hXP hP hS (mX8_requireFit l hlf hJ hq7) (va_cwS 1 hts gX8_fault_X8_requireFit rfl rfl rfl nVX8_requireFit ⟨Nat.le_of_ble_eq_true rfl, Nat.le_of_ble_eq_true rfl⟩) rfl hl.1 rfl (Nat.le_of_ble_eq_true rfl) dX8_fault_20 ⟨Nat.le_of_ble_eq_true rfl, Nat.le_of_ble_eq_true rfl⟩ hex hlocks (Nat.le_of_ble_eq_true rfl) (Nat.le_of_ble_eq_true rfl)
def sX8_fault_10 (x1 : Int32) (x2 : Int32) (x3 : Int32) (σ : TS) : Option XR := ((sX5_isWithin x3 ((-999 : Int32)) ((999 : Int32)) σ).bind (fun z => sX8_fault_20 x1 x2 x3 z.1 z.2))
set_option maxHeartbeats 4000000 in
set_option maxRecDepth 100000 in
theorem kX8_fault_10 {r : Int32 ⊕ Nat} {u : TS} (C0 : gC RX8 cX8_fault 5 ((some .int)) wsX8_fault p s m args meth c) (hlf : l.stackTraces = false) (hXP : xPre (gA 78 q) s) (hex : ∀ x ∈ c.exceptionTable.toList, False) (hK : va_K D vwCl (tyL cy) s) (hJ : gJ 78 q) {H : Heap} {locs : List Loc} {σ : TS} {x1 : Int32} {x2 : Int32} {x3 : Int32} (hP : va_P D vwCl (gS 78 q (TX cy q) σ) H) (hS : va_S (gA 78 q) s.heap H locs) {ls : Array Slot} (hl : lv_has ls 5 [(0, .ref (q (0))), (1, .int x1), (2, .int x2), (3, .int x3)]) (hp : sX8_fault_10 x1 x2 x3 σ = some (r, u)) : W p l e rmX8_fault s m args below meth c H locs 2 12 (vx_MQ below (gQx D vwCl r (gS 78 q (TX cy q) u) (gA 78 q)) (gXx D vwCl r (gS 78 q (TX cy q) u) (gA 78 q)) args s 3 18 (gA 78 q)) (F0 m 10 ls []) := by
  obtain ⟨hx, hb, hr, hml, hown, hts, hlocks⟩ := id C0
  unfold sX8_fault_10 at hp
  refine lv_iload_n hx hb dX8_fault_10 rfl (lv_at hl 3 rfl) ?_
  refine lv_sipush (v := (-999 : Int32)) hx hb dX8_fault_11 (by decide) ?_
  refine lv_sipush (v := (999 : Int32)) hx hb dX8_fault_14 (by decide) ?_
  obtain ⟨⟨r8, u9⟩, hq10, hp⟩ := o_b hp
  refine g_cSi (As := [.int x3, .int ((-999 : Int32)), .int ((999 : Int32))]) (rest := []) hx hb hml hown hts hK hP hS (mX5_isWithin l hJ hq10) (va_cwS 3 hts gX8_fault_X5_isWithin rfl rfl rfl nVX5_isWithin ⟨Nat.le_of_ble_eq_true rfl, Nat.le_of_ble_eq_true rfl⟩) rfl hl.1 rfl (Nat.le_of_ble_eq_true rfl) dX8_fault_17 ⟨Nat.le_of_ble_eq_true rfl, Nat.le_of_ble_eq_true rfl⟩ (fun H locs hP hS => ?_)
  exact kX8_fault_20 C0 hlf hXP hex hK hJ  hP hS hl hp
def sX8_fault_5 (x1 : Int32) (x2 : Int32) (x3 : Int32) (σ : TS) : Option XR := ((sX8_requireIndex x2 ((3 : Int32)) σ).bind (fun z => o_x z (fun _ zs => sX8_fault_10 x1 x2 x3 zs)))
set_option maxHeartbeats 4000000 in
set_option maxRecDepth 100000 in
theorem kX8_fault_5 {r : Int32 ⊕ Nat} {u : TS} (C0 : gC RX8 cX8_fault 5 ((some .int)) wsX8_fault p s m args meth c) (hlf : l.stackTraces = false) (hXP : xPre (gA 78 q) s) (hex : ∀ x ∈ c.exceptionTable.toList, False) (hK : va_K D vwCl (tyL cy) s) (hJ : gJ 78 q) {H : Heap} {locs : List Loc} {σ : TS} {x1 : Int32} {x2 : Int32} {x3 : Int32} (hP : va_P D vwCl (gS 78 q (TX cy q) σ) H) (hS : va_S (gA 78 q) s.heap H locs) {ls : Array Slot} (hl : lv_has ls 5 [(0, .ref (q (0))), (1, .int x1), (2, .int x2), (3, .int x3)]) (hp : sX8_fault_5 x1 x2 x3 σ = some (r, u)) : W p l e rmX8_fault s m args below meth c H locs 1 6 (vx_MQ below (gQx D vwCl r (gS 78 q (TX cy q) u) (gA 78 q)) (gXx D vwCl r (gS 78 q (TX cy q) u) (gA 78 q)) args s 3 18 (gA 78 q)) (F0 m 5 ls []) := by
  obtain ⟨hx, hb, hr, hml, hown, hts, hlocks⟩ := id C0
  unfold sX8_fault_5 at hp
  refine lv_iload_n hx hb dX8_fault_5 rfl (lv_at hl 2 rfl) ?_
  refine lv_iconst (v := (3 : Int32)) hx hb dX8_fault_6 (by decide) ?_
  obtain ⟨⟨r11, u12⟩, hq13, hp⟩ := o_b hp
  rcases r11 with r11 | r11
  · refine g_xSv (As := [.int x2, .int ((3 : Int32))]) (rest := []) hx hb hml hown hts hK hXP hP hS (mX8_requireIndex l hlf hJ hq13) (va_cwS 2 hts gX8_fault_X8_requireIndex rfl rfl rfl nVX8_requireIndex ⟨Nat.le_of_ble_eq_true rfl, Nat.le_of_ble_eq_true rfl⟩) rfl hl.1 rfl (Nat.le_of_ble_eq_true rfl) dX8_fault_7 ⟨Nat.le_of_ble_eq_true rfl, Nat.le_of_ble_eq_true rfl⟩ (fun H locs hP hS => ?_)
    exact kX8_fault_10 C0 hlf hXP hex hK hJ  hP hS hl hp
  · obtain ⟨rfl, rfl⟩ := o_r (a := (Sum.inr r11 : Int32 ⊕ Nat)) (b := u12) hp
    exact g_xSt (As := [.int x2, .int ((3 : Int32))]) (rest := []) hx hb hml hown hts hK hXP hP hS (mX8_requireIndex l hlf hJ hq13) (va_cwS 2 hts gX8_fault_X8_requireIndex rfl rfl rfl nVX8_requireIndex ⟨Nat.le_of_ble_eq_true rfl, Nat.le_of_ble_eq_true rfl⟩) rfl hl.1 rfl (Nat.le_of_ble_eq_true rfl) dX8_fault_7 ⟨Nat.le_of_ble_eq_true rfl, Nat.le_of_ble_eq_true rfl⟩ hex hlocks (Nat.le_of_ble_eq_true rfl) (Nat.le_of_ble_eq_true rfl)
def sX8_fault_0 (x1 : Int32) (x2 : Int32) (x3 : Int32) (σ : TS) : Option XR := ((sX8_requireIndex x1 ((4 : Int32)) σ).bind (fun z => o_x z (fun _ zs => sX8_fault_5 x1 x2 x3 zs)))
set_option maxHeartbeats 4000000 in
set_option maxRecDepth 100000 in
theorem kX8_fault_0 {r : Int32 ⊕ Nat} {u : TS} (C0 : gC RX8 cX8_fault 5 ((some .int)) wsX8_fault p s m args meth c) (hlf : l.stackTraces = false) (hXP : xPre (gA 78 q) s) (hex : ∀ x ∈ c.exceptionTable.toList, False) (hK : va_K D vwCl (tyL cy) s) (hJ : gJ 78 q) {H : Heap} {locs : List Loc} {σ : TS} {x1 : Int32} {x2 : Int32} {x3 : Int32} (hP : va_P D vwCl (gS 78 q (TX cy q) σ) H) (hS : va_S (gA 78 q) s.heap H locs) {ls : Array Slot} (hl : lv_has ls 5 [(0, .ref (q (0))), (1, .int x1), (2, .int x2), (3, .int x3)]) (hp : sX8_fault_0 x1 x2 x3 σ = some (r, u)) : W p l e rmX8_fault s m args below meth c H locs 0 0 (vx_MQ below (gQx D vwCl r (gS 78 q (TX cy q) u) (gA 78 q)) (gXx D vwCl r (gS 78 q (TX cy q) u) (gA 78 q)) args s 3 18 (gA 78 q)) (F0 m 0 ls []) := by
  obtain ⟨hx, hb, hr, hml, hown, hts, hlocks⟩ := id C0
  unfold sX8_fault_0 at hp
  refine lv_iload_n hx hb dX8_fault_0 rfl (lv_at hl 1 rfl) ?_
  refine lv_iconst (v := (4 : Int32)) hx hb dX8_fault_1 (by decide) ?_
  obtain ⟨⟨r14, u15⟩, hq16, hp⟩ := o_b hp
  rcases r14 with r14 | r14
  · refine g_xSv (As := [.int x1, .int ((4 : Int32))]) (rest := []) hx hb hml hown hts hK hXP hP hS (mX8_requireIndex l hlf hJ hq16) (va_cwS 2 hts gX8_fault_X8_requireIndex rfl rfl rfl nVX8_requireIndex ⟨Nat.le_of_ble_eq_true rfl, Nat.le_of_ble_eq_true rfl⟩) rfl hl.1 rfl (Nat.le_of_ble_eq_true rfl) dX8_fault_2 ⟨Nat.le_of_ble_eq_true rfl, Nat.le_of_ble_eq_true rfl⟩ (fun H locs hP hS => ?_)
    exact kX8_fault_5 C0 hlf hXP hex hK hJ  hP hS hl hp
  · obtain ⟨rfl, rfl⟩ := o_r (a := (Sum.inr r14 : Int32 ⊕ Nat)) (b := u15) hp
    exact g_xSt (As := [.int x1, .int ((4 : Int32))]) (rest := []) hx hb hml hown hts hK hXP hP hS (mX8_requireIndex l hlf hJ hq16) (va_cwS 2 hts gX8_fault_X8_requireIndex rfl rfl rfl nVX8_requireIndex ⟨Nat.le_of_ble_eq_true rfl, Nat.le_of_ble_eq_true rfl⟩) rfl hl.1 rfl (Nat.le_of_ble_eq_true rfl) dX8_fault_2 ⟨Nat.le_of_ble_eq_true rfl, Nat.le_of_ble_eq_true rfl⟩ hex hlocks (Nat.le_of_ble_eq_true rfl) (Nat.le_of_ble_eq_true rfl)
def sX8_fault (x1 : Int32) (x2 : Int32) (x3 : Int32) (σ : TS) : Option XR := sX8_fault_0 x1 x2 x3 σ
theorem nVX8_fault : yX8_fault.cls = RX8 ∧ yX8_fault.cls ≠ "java/lang/invoke/MethodHandle" ∧ yX8_fault.cls ≠ "java/lang/invoke/VarHandle" ∧ (parseMethodDescriptor yX8_fault.desc).map (fun d => d.parameters.length) = some 3 := by decide +kernel
set_option maxHeartbeats 4000000 in
set_option maxRecDepth 100000 in
theorem mX8_fault (l : Launch) (hlf : l.stackTraces = false) (hJ : gJ 78 q) {x1 : Int32} {x2 : Int32} {x3 : Int32} {σ : TS} {r : Int32 ⊕ Nat} {u : TS} (hp : sX8_fault x1 x2 x3 σ = some (r, u)) : vx_Met l yX8_fault wsX8_fault rmX8_fault (va_Pc [.ref (q (0)), .int x1, .int x2, .int x3] (gPreX D vwCl (tyL cy) (gS 78 q (TX cy q) σ) (gA 78 q))) (gQx D vwCl r (gS 78 q (TX cy q) u) (gA 78 q)) (gXx D vwCl r (gS 78 q (TX cy q) u) (gA 78 q)) 3 18 (gA 78 q) := by
  refine vx_ofW (cc := cX8_fault) (maxL := 5) (ret := (some .int)) (by decide +kernel) rfl ?_
  intro p e s m args below meth c s₁ B hml hex hv
  obtain ⟨rfl, ⟨hP, hK⟩, hXP⟩ := hv
  have hl := lv_entry ([.ref (q (0)), .int x1, .int x2, .int x3]) (n := 5) (Nat.le_of_ble_eq_true rfl)
  rw [lg_entry_eq]
  generalize (lg_sl ([.ref (q (0)), .int x1, .int x2, .int x3]) ++ List.replicate (5 - (lg_sl ([.ref (q (0)), .int x1, .int x2, .int x3])).length) Slot.unset).toArray = ls at hl ⊢
  have hl : lv_has ls 5 [(0, .ref (q (0))), (1, .int x1), (2, .int x2), (3, .int x3)] := hl
  exact kX8_fault_0 ⟨B.exec, B.bytes, B.returns, hml, findClass_of_methodNamed B.named, atoms_spec (ws := wsX8_fault) B.pre, B.notSynchronized⟩ hlf hXP hex hK hJ  hP va_S.rf hl hp
theorem miX8_position_X0 : ∀ w ∈ u_ws RX0 TX0 3, w ∈ wsX8_position := by decide +kernel
theorem miX8_position_X8 : ∀ w ∈ u_ws RX8 TX8 16, w ∈ wsX8_position := by decide +kernel
theorem mwX8_position_0 : Cond.fieldLink RX8 45 "Triplane" "actuators" "[LTriplane$Actuator;" ∈ wsX8_position := by decide +kernel
theorem mwX8_position_1 : Cond.fieldLink RX8 252 "Triplane$Actuator" "place" "I" ∈ wsX8_position := by decide +kernel
abbrev rmX8_position : Room := { frames := 7, cells := 1, slots := 6, locals := 111 }
def sX8_position_5 (x1 : Int32) (σ : TS) : Option XR := (if vin x1 4 = true then some (Sum.inl (σ (70+2*(x1.toNatClampNeg)) 1), σ) else none)
set_option maxHeartbeats 4000000 in
set_option maxRecDepth 100000 in
theorem kX8_position_5 {r : Int32 ⊕ Nat} {u : TS} (C0 : gC RX8 cX8_position 2 ((some .int)) wsX8_position p s m args meth c) (hlf : l.stackTraces = false) (hXP : xPre (gA 78 q) s) (hex : ∀ x ∈ c.exceptionTable.toList, False) (hK : va_K D vwCl (tyL cy) s) (hJ : gJ 78 q) {H : Heap} {locs : List Loc} {σ : TS} {x1 : Int32} (hP : va_P D vwCl (gS 78 q (TX cy q) σ) H) (hS : va_S (gA 78 q) s.heap H locs) {ls : Array Slot} (hl : lv_has ls 2 [(0, .ref (q (0))), (1, .int x1)]) (hp : sX8_position_5 x1 σ = some (r, u)) : W p l e rmX8_position s m args below meth c H locs 1 6 (vx_MQ below (gQx D vwCl r (gS 78 q (TX cy q) u) (gA 78 q)) (gXx D vwCl r (gS 78 q (TX cy q) u) (gA 78 q)) args s 1 6 (gA 78 q)) (F0 m 5 ls []) := by
  obtain ⟨hx, hb, hr, hml, hown, hts, hlocks⟩ := id C0
  unfold sX8_position_5 at hp
  refine lv_aload_n hx hb dX8_position_5 rfl (lv_at hl 0 rfl) ?_
  refine g_get (v := .ref (q (8))) hx hb hts miX8_position_X8 hown hK hP (kk_Tri) (ce_Tri) rfl 6 (by decide) mwX8_position_0 rfl dX8_position_6 ?_
  refine lv_iload_n hx hb dX8_position_9 rfl (lv_at hl 1 rfl) ?_
  obtain ⟨hi1, hp⟩ := o_chk hp
  have hn2 : x1.toNatClampNeg < 4 := Nat.lt_of_lt_of_le (vin_lt hi1) (by decide)
  refine g_aald (j := x1.toNatClampNeg) hx hb hK hP (kk_ActArr) (ce_ActArr) 8 rfl rfl (vin_of hi1) rfl dX8_position_10 ?_
  refine g_get (v := .int (σ (70+2*(x1.toNatClampNeg)) 1)) hx hb hts miX8_position_X0 hown hK hP (kk_Act hn2) (ce_Act hn2) rfl 1 (by decide) mwX8_position_1 rfl dX8_position_11 ?_
  obtain ⟨rfl, rfl⟩ := o_r hp
  refine W.widen (k := 1) (n := 6) (Nat.le_of_ble_eq_true rfl) (Nat.le_of_ble_eq_true rfl) ?_
  refine vx_ret ?_
  exact W.iret (v := σ (70+2*(x1.toNatClampNeg)) 1) hx hb hr (fun t ht hW => ⟨⟨σ (70+2*(x1.toNatClampNeg)) 1, (), rfl, rfl, by subst ht; exact hP⟩, hS.F ht⟩) hS.2.2 dX8_position_14
def sX8_position_0 (x1 : Int32) (σ : TS) : Option XR := ((sX8_requireIndex x1 ((4 : Int32)) σ).bind (fun z => o_x z (fun _ zs => sX8_position_5 x1 zs)))
set_option maxHeartbeats 4000000 in
set_option maxRecDepth 100000 in
theorem kX8_position_0 {r : Int32 ⊕ Nat} {u : TS} (C0 : gC RX8 cX8_position 2 ((some .int)) wsX8_position p s m args meth c) (hlf : l.stackTraces = false) (hXP : xPre (gA 78 q) s) (hex : ∀ x ∈ c.exceptionTable.toList, False) (hK : va_K D vwCl (tyL cy) s) (hJ : gJ 78 q) {H : Heap} {locs : List Loc} {σ : TS} {x1 : Int32} (hP : va_P D vwCl (gS 78 q (TX cy q) σ) H) (hS : va_S (gA 78 q) s.heap H locs) {ls : Array Slot} (hl : lv_has ls 2 [(0, .ref (q (0))), (1, .int x1)]) (hp : sX8_position_0 x1 σ = some (r, u)) : W p l e rmX8_position s m args below meth c H locs 0 0 (vx_MQ below (gQx D vwCl r (gS 78 q (TX cy q) u) (gA 78 q)) (gXx D vwCl r (gS 78 q (TX cy q) u) (gA 78 q)) args s 1 6 (gA 78 q)) (F0 m 0 ls []) := by
  obtain ⟨hx, hb, hr, hml, hown, hts, hlocks⟩ := id C0
  unfold sX8_position_0 at hp
  refine lv_iload_n hx hb dX8_position_0 rfl (lv_at hl 1 rfl) ?_
  refine lv_iconst (v := (4 : Int32)) hx hb dX8_position_1 (by decide) ?_
  obtain ⟨⟨r3, u4⟩, hq5, hp⟩ := o_b hp
  rcases r3 with r3 | r3
  · refine g_xSv (As := [.int x1, .int ((4 : Int32))]) (rest := []) hx hb hml hown hts hK hXP hP hS (mX8_requireIndex l hlf hJ hq5) (va_cwS 2 hts gX8_position_X8_requireIndex rfl rfl rfl nVX8_requireIndex ⟨Nat.le_of_ble_eq_true rfl, Nat.le_of_ble_eq_true rfl⟩) rfl hl.1 rfl (Nat.le_of_ble_eq_true rfl) dX8_position_2 ⟨Nat.le_of_ble_eq_true rfl, Nat.le_of_ble_eq_true rfl⟩ (fun H locs hP hS => ?_)
    exact kX8_position_5 C0 hlf hXP hex hK hJ  hP hS hl hp
  · obtain ⟨rfl, rfl⟩ := o_r (a := (Sum.inr r3 : Int32 ⊕ Nat)) (b := u4) hp
    exact g_xSt (As := [.int x1, .int ((4 : Int32))]) (rest := []) hx hb hml hown hts hK hXP hP hS (mX8_requireIndex l hlf hJ hq5) (va_cwS 2 hts gX8_position_X8_requireIndex rfl rfl rfl nVX8_requireIndex ⟨Nat.le_of_ble_eq_true rfl, Nat.le_of_ble_eq_true rfl⟩) rfl hl.1 rfl (Nat.le_of_ble_eq_true rfl) dX8_position_2 ⟨Nat.le_of_ble_eq_true rfl, Nat.le_of_ble_eq_true rfl⟩ hex hlocks (Nat.le_of_ble_eq_true rfl) (Nat.le_of_ble_eq_true rfl)
def sX8_position (x1 : Int32) (σ : TS) : Option XR := sX8_position_0 x1 σ
theorem nVX8_position : yX8_position.cls = RX8 ∧ yX8_position.cls ≠ "java/lang/invoke/MethodHandle" ∧ yX8_position.cls ≠ "java/lang/invoke/VarHandle" ∧ (parseMethodDescriptor yX8_position.desc).map (fun d => d.parameters.length) = some 1 := by decide +kernel
set_option maxHeartbeats 4000000 in
set_option maxRecDepth 100000 in
theorem mX8_position (l : Launch) (hlf : l.stackTraces = false) (hJ : gJ 78 q) {x1 : Int32} {σ : TS} {r : Int32 ⊕ Nat} {u : TS} (hp : sX8_position x1 σ = some (r, u)) : vx_Met l yX8_position wsX8_position rmX8_position (va_Pc [.ref (q (0)), .int x1] (gPreX D vwCl (tyL cy) (gS 78 q (TX cy q) σ) (gA 78 q))) (gQx D vwCl r (gS 78 q (TX cy q) u) (gA 78 q)) (gXx D vwCl r (gS 78 q (TX cy q) u) (gA 78 q)) 1 6 (gA 78 q) := by
  refine vx_ofW (cc := cX8_position) (maxL := 2) (ret := (some .int)) (by decide +kernel) rfl ?_
  intro p e s m args below meth c s₁ B hml hex hv
  obtain ⟨rfl, ⟨hP, hK⟩, hXP⟩ := hv
  have hl := lv_entry ([.ref (q (0)), .int x1]) (n := 2) (Nat.le_of_ble_eq_true rfl)
  rw [lg_entry_eq]
  generalize (lg_sl ([.ref (q (0)), .int x1]) ++ List.replicate (2 - (lg_sl ([.ref (q (0)), .int x1])).length) Slot.unset).toArray = ls at hl ⊢
  have hl : lv_has ls 2 [(0, .ref (q (0))), (1, .int x1)] := hl
  exact kX8_position_0 ⟨B.exec, B.bytes, B.returns, hml, findClass_of_methodNamed B.named, atoms_spec (ws := wsX8_position) B.pre, B.notSynchronized⟩ hlf hXP hex hK hJ  hP va_S.rf hl hp
theorem miX8_hasLetGo_X0 : ∀ w ∈ u_ws RX0 TX0 3, w ∈ wsX8_hasLetGo := by decide +kernel
theorem miX8_hasLetGo_X8 : ∀ w ∈ u_ws RX8 TX8 16, w ∈ wsX8_hasLetGo := by decide +kernel
theorem mwX8_hasLetGo_0 : Cond.fieldLink RX8 45 "Triplane" "actuators" "[LTriplane$Actuator;" ∈ wsX8_hasLetGo := by decide +kernel
theorem mwX8_hasLetGo_1 : Cond.fieldLink RX8 255 "Triplane$Actuator" "isLoose" "Z" ∈ wsX8_hasLetGo := by decide +kernel
abbrev rmX8_hasLetGo : Room := { frames := 7, cells := 1, slots := 6, locals := 111 }
def sX8_hasLetGo_5 (x1 : Int32) (σ : TS) : Option XR := (if vin x1 4 = true then (if zok (σ (70+2*(x1.toNatClampNeg)) 2) = true then some (Sum.inl (σ (70+2*(x1.toNatClampNeg)) 2), σ) else none) else none)
set_option maxHeartbeats 4000000 in
set_option maxRecDepth 100000 in
theorem kX8_hasLetGo_5 {r : Int32 ⊕ Nat} {u : TS} (C0 : gC RX8 cX8_hasLetGo 2 ((some .boolean)) wsX8_hasLetGo p s m args meth c) (hlf : l.stackTraces = false) (hXP : xPre (gA 78 q) s) (hex : ∀ x ∈ c.exceptionTable.toList, False) (hK : va_K D vwCl (tyL cy) s) (hJ : gJ 78 q) {H : Heap} {locs : List Loc} {σ : TS} {x1 : Int32} (hP : va_P D vwCl (gS 78 q (TX cy q) σ) H) (hS : va_S (gA 78 q) s.heap H locs) {ls : Array Slot} (hl : lv_has ls 2 [(0, .ref (q (0))), (1, .int x1)]) (hp : sX8_hasLetGo_5 x1 σ = some (r, u)) : W p l e rmX8_hasLetGo s m args below meth c H locs 1 6 (vx_MQ below (gQx D vwCl r (gS 78 q (TX cy q) u) (gA 78 q)) (gXx D vwCl r (gS 78 q (TX cy q) u) (gA 78 q)) args s 1 6 (gA 78 q)) (F0 m 5 ls []) := by
  obtain ⟨hx, hb, hr, hml, hown, hts, hlocks⟩ := id C0
  unfold sX8_hasLetGo_5 at hp
  refine lv_aload_n hx hb dX8_hasLetGo_5 rfl (lv_at hl 0 rfl) ?_
  refine g_get (v := .ref (q (8))) hx hb hts miX8_hasLetGo_X8 hown hK hP (kk_Tri) (ce_Tri) rfl 6 (by decide) mwX8_hasLetGo_0 rfl dX8_hasLetGo_6 ?_
  refine lv_iload_n hx hb dX8_hasLetGo_9 rfl (lv_at hl 1 rfl) ?_
  obtain ⟨hi1, hp⟩ := o_chk hp
  have hn2 : x1.toNatClampNeg < 4 := Nat.lt_of_lt_of_le (vin_lt hi1) (by decide)
  refine g_aald (j := x1.toNatClampNeg) hx hb hK hP (kk_ActArr) (ce_ActArr) 8 rfl rfl (vin_of hi1) rfl dX8_hasLetGo_10 ?_
  refine g_get (v := .int (σ (70+2*(x1.toNatClampNeg)) 2)) hx hb hts miX8_hasLetGo_X0 hown hK hP (kk_Act hn2) (ce_Act hn2) rfl 2 (by decide) mwX8_hasLetGo_1 rfl dX8_hasLetGo_11 ?_
  obtain ⟨hz3, hp⟩ := o_chk hp
  obtain ⟨rfl, rfl⟩ := o_r hp
  refine W.widen (k := 1) (n := 6) (Nat.le_of_ble_eq_true rfl) (Nat.le_of_ble_eq_true rfl) ?_
  refine vx_ret ?_
  exact W.zret (v := σ (70+2*(x1.toNatClampNeg)) 2) hx hb hr (zok_n hz3).1 (fun t ht hW => ⟨⟨σ (70+2*(x1.toNatClampNeg)) 2, (), rfl, rfl, by subst ht; exact hP⟩, hS.F ht⟩) hS.2.2 dX8_hasLetGo_14
def sX8_hasLetGo_0 (x1 : Int32) (σ : TS) : Option XR := ((sX8_requireIndex x1 ((4 : Int32)) σ).bind (fun z => o_x z (fun _ zs => sX8_hasLetGo_5 x1 zs)))
set_option maxHeartbeats 4000000 in
set_option maxRecDepth 100000 in
theorem kX8_hasLetGo_0 {r : Int32 ⊕ Nat} {u : TS} (C0 : gC RX8 cX8_hasLetGo 2 ((some .boolean)) wsX8_hasLetGo p s m args meth c) (hlf : l.stackTraces = false) (hXP : xPre (gA 78 q) s) (hex : ∀ x ∈ c.exceptionTable.toList, False) (hK : va_K D vwCl (tyL cy) s) (hJ : gJ 78 q) {H : Heap} {locs : List Loc} {σ : TS} {x1 : Int32} (hP : va_P D vwCl (gS 78 q (TX cy q) σ) H) (hS : va_S (gA 78 q) s.heap H locs) {ls : Array Slot} (hl : lv_has ls 2 [(0, .ref (q (0))), (1, .int x1)]) (hp : sX8_hasLetGo_0 x1 σ = some (r, u)) : W p l e rmX8_hasLetGo s m args below meth c H locs 0 0 (vx_MQ below (gQx D vwCl r (gS 78 q (TX cy q) u) (gA 78 q)) (gXx D vwCl r (gS 78 q (TX cy q) u) (gA 78 q)) args s 1 6 (gA 78 q)) (F0 m 0 ls []) := by
  obtain ⟨hx, hb, hr, hml, hown, hts, hlocks⟩ := id C0
  unfold sX8_hasLetGo_0 at hp
  refine lv_iload_n hx hb dX8_hasLetGo_0 rfl (lv_at hl 1 rfl) ?_
  refine lv_iconst (v := (4 : Int32)) hx hb dX8_hasLetGo_1 (by decide) ?_
  obtain ⟨⟨r4, u5⟩, hq6, hp⟩ := o_b hp
  rcases r4 with r4 | r4
  · refine g_xSv (As := [.int x1, .int ((4 : Int32))]) (rest := []) hx hb hml hown hts hK hXP hP hS (mX8_requireIndex l hlf hJ hq6) (va_cwS 2 hts gX8_hasLetGo_X8_requireIndex rfl rfl rfl nVX8_requireIndex ⟨Nat.le_of_ble_eq_true rfl, Nat.le_of_ble_eq_true rfl⟩) rfl hl.1 rfl (Nat.le_of_ble_eq_true rfl) dX8_hasLetGo_2 ⟨Nat.le_of_ble_eq_true rfl, Nat.le_of_ble_eq_true rfl⟩ (fun H locs hP hS => ?_)
    exact kX8_hasLetGo_5 C0 hlf hXP hex hK hJ  hP hS hl hp
  · obtain ⟨rfl, rfl⟩ := o_r (a := (Sum.inr r4 : Int32 ⊕ Nat)) (b := u5) hp
    exact g_xSt (As := [.int x1, .int ((4 : Int32))]) (rest := []) hx hb hml hown hts hK hXP hP hS (mX8_requireIndex l hlf hJ hq6) (va_cwS 2 hts gX8_hasLetGo_X8_requireIndex rfl rfl rfl nVX8_requireIndex ⟨Nat.le_of_ble_eq_true rfl, Nat.le_of_ble_eq_true rfl⟩) rfl hl.1 rfl (Nat.le_of_ble_eq_true rfl) dX8_hasLetGo_2 ⟨Nat.le_of_ble_eq_true rfl, Nat.le_of_ble_eq_true rfl⟩ hex hlocks (Nat.le_of_ble_eq_true rfl) (Nat.le_of_ble_eq_true rfl)
def sX8_hasLetGo (x1 : Int32) (σ : TS) : Option XR := sX8_hasLetGo_0 x1 σ
theorem nVX8_hasLetGo : yX8_hasLetGo.cls = RX8 ∧ yX8_hasLetGo.cls ≠ "java/lang/invoke/MethodHandle" ∧ yX8_hasLetGo.cls ≠ "java/lang/invoke/VarHandle" ∧ (parseMethodDescriptor yX8_hasLetGo.desc).map (fun d => d.parameters.length) = some 1 := by decide +kernel
set_option maxHeartbeats 4000000 in
set_option maxRecDepth 100000 in
theorem mX8_hasLetGo (l : Launch) (hlf : l.stackTraces = false) (hJ : gJ 78 q) {x1 : Int32} {σ : TS} {r : Int32 ⊕ Nat} {u : TS} (hp : sX8_hasLetGo x1 σ = some (r, u)) : vx_Met l yX8_hasLetGo wsX8_hasLetGo rmX8_hasLetGo (va_Pc [.ref (q (0)), .int x1] (gPreX D vwCl (tyL cy) (gS 78 q (TX cy q) σ) (gA 78 q))) (gQx D vwCl r (gS 78 q (TX cy q) u) (gA 78 q)) (gXx D vwCl r (gS 78 q (TX cy q) u) (gA 78 q)) 1 6 (gA 78 q) := by
  refine vx_ofW (cc := cX8_hasLetGo) (maxL := 2) (ret := (some .boolean)) (by decide +kernel) rfl ?_
  intro p e s m args below meth c s₁ B hml hex hv
  obtain ⟨rfl, ⟨hP, hK⟩, hXP⟩ := hv
  have hl := lv_entry ([.ref (q (0)), .int x1]) (n := 2) (Nat.le_of_ble_eq_true rfl)
  rw [lg_entry_eq]
  generalize (lg_sl ([.ref (q (0)), .int x1]) ++ List.replicate (2 - (lg_sl ([.ref (q (0)), .int x1])).length) Slot.unset).toArray = ls at hl ⊢
  have hl : lv_has ls 2 [(0, .ref (q (0))), (1, .int x1)] := hl
  exact kX8_hasLetGo_0 ⟨B.exec, B.bytes, B.returns, hml, findClass_of_methodNamed B.named, atoms_spec (ws := wsX8_hasLetGo) B.pre, B.notSynchronized⟩ hlf hXP hex hK hJ  hP va_S.rf hl hp
theorem miX8_arm_X8 : ∀ w ∈ u_ws RX8 TX8 16, w ∈ wsX8_arm := by decide +kernel
theorem mwX8_arm_0 : Cond.fieldLink RX8 70 "Triplane" "armedCommand" "C" ∈ wsX8_arm := by decide +kernel
theorem mwX8_arm_1 : Cond.fieldLink RX8 63 "Triplane" "frames" "I" ∈ wsX8_arm := by decide +kernel
theorem mwX8_arm_2 : Cond.fieldLink RX8 74 "Triplane" "armedUntil" "I" ∈ wsX8_arm := by decide +kernel
abbrev rmX8_arm : Room := { frames := 7, cells := 1, slots := 6, locals := 110 }
def sX8_arm_7 (x1 : Int32) (σ : TS) : Option XR := (if cok x1 = true then some (Sum.inl ((st2 (st2 σ 0 12 x1) 0 13 (((st2 σ 0 12 x1) 0 10) + ((3 : Int32)))) 0 13), st2 (st2 σ 0 12 x1) 0 13 (((st2 σ 0 12 x1) 0 10) + ((3 : Int32)))) else none)
set_option maxHeartbeats 4000000 in
set_option maxRecDepth 100000 in
theorem kX8_arm_7 {r : Int32 ⊕ Nat} {u : TS} (C0 : gC RX8 cX8_arm 2 ((some .int)) wsX8_arm p s m args meth c) (hlf : l.stackTraces = false) (hXP : xPre (gA 78 q) s) (hex : ∀ x ∈ c.exceptionTable.toList, False) (hK : va_K D vwCl (tyL cy) s) (hJ : gJ 78 q) {H : Heap} {locs : List Loc} {σ : TS} {x1 : Int32} (hP : va_P D vwCl (gS 78 q (TX cy q) σ) H) (hS : va_S (gA 78 q) s.heap H locs) {ls : Array Slot} (hl : lv_has ls 2 [(0, .ref (q (0))), (1, .int x1)]) (hp : sX8_arm_7 x1 σ = some (r, u)) : W p l e rmX8_arm s m args below meth c H locs 1 6 (vx_MQ below (gQx D vwCl r (gS 78 q (TX cy q) u) (gA 78 q)) (gXx D vwCl r (gS 78 q (TX cy q) u) (gA 78 q)) args s 1 6 (gA 78 q)) (F0 m 7 ls []) := by
  obtain ⟨hx, hb, hr, hml, hown, hts, hlocks⟩ := id C0
  unfold sX8_arm_7 at hp
  refine lv_aload_n hx hb dX8_arm_7 rfl (lv_at hl 0 rfl) ?_
  refine lv_iload_n hx hb dX8_arm_8 rfl (lv_at hl 1 rfl) ?_
  obtain ⟨hz1, hp⟩ := o_chk hp
  refine g_put (v := x1) hx hb hts miX8_arm_X8 tyX8 tyX8_ok nmX8 hown hK hJ hP hS (kk_Tri) (ce_Tri) rfl 12 (by decide) mwX8_arm_0 rfl (cok_n hz1).1 (cok_n hz1).2 (Nat.le_of_ble_eq_true rfl) rfl dX8_arm_9 (fun H locs hP hS => ?_)
  refine lv_aload_n hx hb dX8_arm_12 rfl (lv_at hl 0 rfl) ?_
  refine lv_aload_n hx hb dX8_arm_13 rfl (lv_at hl 0 rfl) ?_
  refine g_get (v := .int ((st2 σ 0 12 x1) 0 10)) hx hb hts miX8_arm_X8 hown hK hP (kk_Tri) (ce_Tri) rfl 10 (by decide) mwX8_arm_1 rfl dX8_arm_14 ?_
  refine lv_iconst (v := (3 : Int32)) hx hb dX8_arm_17 (by decide) ?_
  refine lv_iadd hx hb dX8_arm_18 ?_
  refine g_put (v := ((st2 σ 0 12 x1) 0 10) + ((3 : Int32))) hx hb hts miX8_arm_X8 tyX8 tyX8_ok nmX8 hown hK hJ hP hS (kk_Tri) (ce_Tri) rfl 13 (by decide) mwX8_arm_2 rfl rfl rfl (Nat.le_of_ble_eq_true rfl) rfl dX8_arm_19 (fun H locs hP hS => ?_)
  refine lv_aload_n hx hb dX8_arm_22 rfl (lv_at hl 0 rfl) ?_
  refine g_get (v := .int ((st2 (st2 σ 0 12 x1) 0 13 (((st2 σ 0 12 x1) 0 10) + ((3 : Int32)))) 0 13)) hx hb hts miX8_arm_X8 hown hK hP (kk_Tri) (ce_Tri) rfl 13 (by decide) mwX8_arm_2 rfl dX8_arm_23 ?_
  obtain ⟨rfl, rfl⟩ := o_r hp
  refine W.widen (k := 1) (n := 6) (Nat.le_of_ble_eq_true rfl) (Nat.le_of_ble_eq_true rfl) ?_
  refine vx_ret ?_
  exact W.iret (v := (st2 (st2 σ 0 12 x1) 0 13 (((st2 σ 0 12 x1) 0 10) + ((3 : Int32)))) 0 13) hx hb hr (fun t ht hW => ⟨⟨(st2 (st2 σ 0 12 x1) 0 13 (((st2 σ 0 12 x1) 0 10) + ((3 : Int32)))) 0 13, (), rfl, rfl, by subst ht; exact hP⟩, hS.F ht⟩) hS.2.2 dX8_arm_26
def sX8_arm_4 (x1 : Int32) (sx0 : Int32) (σ : TS) : Option XR := ((sX8_requireFit sx0 σ).bind (fun z => o_x z (fun _ zs => sX8_arm_7 x1 zs)))
set_option maxHeartbeats 4000000 in
set_option maxRecDepth 100000 in
theorem kX8_arm_4 {r : Int32 ⊕ Nat} {u : TS} (C0 : gC RX8 cX8_arm 2 ((some .int)) wsX8_arm p s m args meth c) (hlf : l.stackTraces = false) (hXP : xPre (gA 78 q) s) (hex : ∀ x ∈ c.exceptionTable.toList, False) (hK : va_K D vwCl (tyL cy) s) (hJ : gJ 78 q) {H : Heap} {locs : List Loc} {σ : TS} {x1 : Int32} {sx0 : Int32} (hP : va_P D vwCl (gS 78 q (TX cy q) σ) H) (hS : va_S (gA 78 q) s.heap H locs) {ls : Array Slot} (hl : lv_has ls 2 [(0, .ref (q (0))), (1, .int x1)]) (hp : sX8_arm_4 x1 sx0 σ = some (r, u)) : W p l e rmX8_arm s m args below meth c H locs 0 0 (vx_MQ below (gQx D vwCl r (gS 78 q (TX cy q) u) (gA 78 q)) (gXx D vwCl r (gS 78 q (TX cy q) u) (gA 78 q)) args s 1 6 (gA 78 q)) (F0 m 4 ls [.int sx0]) := by
  obtain ⟨hx, hb, hr, hml, hown, hts, hlocks⟩ := id C0
  unfold sX8_arm_4 at hp
  obtain ⟨⟨r2, u3⟩, hq4, hp⟩ := o_b hp
  rcases r2 with r2 | r2
  · refine g_xSv (As := [.int sx0]) (rest := []) hx hb hml hown hts hK hXP hP hS (mX8_requireFit l hlf hJ hq4) (va_cwS 1 hts gX8_arm_X8_requireFit rfl rfl rfl nVX8_requireFit ⟨Nat.le_of_ble_eq_true rfl, Nat.le_of_ble_eq_true rfl⟩) rfl hl.1 rfl (Nat.le_of_ble_eq_true rfl) dX8_arm_4 ⟨Nat.le_of_ble_eq_true rfl, Nat.le_of_ble_eq_true rfl⟩ (fun H locs hP hS => ?_)
    exact kX8_arm_7 C0 hlf hXP hex hK hJ  hP hS hl hp
  · obtain ⟨rfl, rfl⟩ := o_r (a := (Sum.inr r2 : Int32 ⊕ Nat)) (b := u3) hp
    exact g_xSt (As := [.int sx0]) (rest := []) hx hb hml hown hts hK hXP hP hS (mX8_requireFit l hlf hJ hq4) (va_cwS 1 hts gX8_arm_X8_requireFit rfl rfl rfl nVX8_requireFit ⟨Nat.le_of_ble_eq_true rfl, Nat.le_of_ble_eq_true rfl⟩) rfl hl.1 rfl (Nat.le_of_ble_eq_true rfl) dX8_arm_4 ⟨Nat.le_of_ble_eq_true rfl, Nat.le_of_ble_eq_true rfl⟩ hex hlocks (Nat.le_of_ble_eq_true rfl) (Nat.le_of_ble_eq_true rfl)
def sX8_arm_0 (x1 : Int32) (σ : TS) : Option XR := ((sX8_isCommand x1 σ).bind (fun z => sX8_arm_4 x1 z.1 z.2))
set_option maxHeartbeats 4000000 in
set_option maxRecDepth 100000 in
theorem kX8_arm_0 {r : Int32 ⊕ Nat} {u : TS} (C0 : gC RX8 cX8_arm 2 ((some .int)) wsX8_arm p s m args meth c) (hlf : l.stackTraces = false) (hXP : xPre (gA 78 q) s) (hex : ∀ x ∈ c.exceptionTable.toList, False) (hK : va_K D vwCl (tyL cy) s) (hJ : gJ 78 q) {H : Heap} {locs : List Loc} {σ : TS} {x1 : Int32} (hP : va_P D vwCl (gS 78 q (TX cy q) σ) H) (hS : va_S (gA 78 q) s.heap H locs) {ls : Array Slot} (hl : lv_has ls 2 [(0, .ref (q (0))), (1, .int x1)]) (hp : sX8_arm_0 x1 σ = some (r, u)) : W p l e rmX8_arm s m args below meth c H locs 0 0 (vx_MQ below (gQx D vwCl r (gS 78 q (TX cy q) u) (gA 78 q)) (gXx D vwCl r (gS 78 q (TX cy q) u) (gA 78 q)) args s 1 6 (gA 78 q)) (F0 m 0 ls []) := by
  obtain ⟨hx, hb, hr, hml, hown, hts, hlocks⟩ := id C0
  unfold sX8_arm_0 at hp
  refine lv_iload_n hx hb dX8_arm_0 rfl (lv_at hl 1 rfl) ?_
  obtain ⟨⟨r5, u6⟩, hq7, hp⟩ := o_b hp
  refine g_cSi (As := [.int x1]) (rest := []) hx hb hml hown hts hK hP hS (mX8_isCommand l hJ hq7) (va_cwS 1 hts gX8_arm_X8_isCommand rfl rfl rfl nVX8_isCommand ⟨Nat.le_of_ble_eq_true rfl, Nat.le_of_ble_eq_true rfl⟩) rfl hl.1 rfl (Nat.le_of_ble_eq_true rfl) dX8_arm_1 ⟨Nat.le_of_ble_eq_true rfl, Nat.le_of_ble_eq_true rfl⟩ (fun H locs hP hS => ?_)
  exact kX8_arm_4 C0 hlf hXP hex hK hJ  hP hS hl hp
def sX8_arm (x1 : Int32) (σ : TS) : Option XR := sX8_arm_0 x1 σ
theorem nVX8_arm : yX8_arm.cls = RX8 ∧ yX8_arm.cls ≠ "java/lang/invoke/MethodHandle" ∧ yX8_arm.cls ≠ "java/lang/invoke/VarHandle" ∧ (parseMethodDescriptor yX8_arm.desc).map (fun d => d.parameters.length) = some 1 := by decide +kernel
set_option maxHeartbeats 4000000 in
set_option maxRecDepth 100000 in
theorem mX8_arm (l : Launch) (hlf : l.stackTraces = false) (hJ : gJ 78 q) {x1 : Int32} {σ : TS} {r : Int32 ⊕ Nat} {u : TS} (hp : sX8_arm x1 σ = some (r, u)) : vx_Met l yX8_arm wsX8_arm rmX8_arm (va_Pc [.ref (q (0)), .int x1] (gPreX D vwCl (tyL cy) (gS 78 q (TX cy q) σ) (gA 78 q))) (gQx D vwCl r (gS 78 q (TX cy q) u) (gA 78 q)) (gXx D vwCl r (gS 78 q (TX cy q) u) (gA 78 q)) 1 6 (gA 78 q) := by
  refine vx_ofW (cc := cX8_arm) (maxL := 2) (ret := (some .int)) (by decide +kernel) rfl ?_
  intro p e s m args below meth c s₁ B hml hex hv
  obtain ⟨rfl, ⟨hP, hK⟩, hXP⟩ := hv
  have hl := lv_entry ([.ref (q (0)), .int x1]) (n := 2) (Nat.le_of_ble_eq_true rfl)
  rw [lg_entry_eq]
  generalize (lg_sl ([.ref (q (0)), .int x1]) ++ List.replicate (2 - (lg_sl ([.ref (q (0)), .int x1])).length) Slot.unset).toArray = ls at hl ⊢
  have hl : lv_has ls 2 [(0, .ref (q (0))), (1, .int x1)] := hl
  exact kX8_arm_0 ⟨B.exec, B.bytes, B.returns, hml, findClass_of_methodNamed B.named, atoms_spec (ws := wsX8_arm) B.pre, B.notSynchronized⟩ hlf hXP hex hK hJ  hP va_S.rf hl hp
theorem miX8_give_X8 : ∀ w ∈ u_ws RX8 TX8 16, w ∈ wsX8_give := by decide +kernel
theorem mwX8_give_0 : Cond.fieldLink RX8 70 "Triplane" "armedCommand" "C" ∈ wsX8_give := by decide +kernel
theorem mwX8_give_1 : Cond.fieldLink RX8 67 "Triplane" "currentMode" "I" ∈ wsX8_give := by decide +kernel
theorem mwX8_give_2 : Cond.fieldLink RX8 63 "Triplane" "frames" "I" ∈ wsX8_give := by decide +kernel
theorem mwX8_give_3 : Cond.fieldLink RX8 74 "Triplane" "armedUntil" "I" ∈ wsX8_give := by decide +kernel
abbrev rmX8_give : Room := { frames := 7, cells := 2, slots := 12, locals := 110 }
def sX8_give_64 (sx0 : Int32) (σ : TS) : Option XR := some (Sum.inl sx0, σ)
set_option maxHeartbeats 4000000 in
set_option maxRecDepth 100000 in
theorem kX8_give_64 {r : Int32 ⊕ Nat} {u : TS} (C0 : gC RX8 cX8_give 2 ((some .int)) wsX8_give p s m args meth c) (hlf : l.stackTraces = false) (hXP : xPre (gA 78 q) s) (hex : ∀ x ∈ c.exceptionTable.toList, False) (hK : va_K D vwCl (tyL cy) s) (hJ : gJ 78 q) {H : Heap} {locs : List Loc} {σ : TS} {sx0 : Int32} (hP : va_P D vwCl (gS 78 q (TX cy q) σ) H) (hS : va_S (gA 78 q) s.heap H locs) {ls : Array Slot} (hl : lv_has ls 2 []) (hp : sX8_give_64 sx0 σ = some (r, u)) : W p l e rmX8_give s m args below meth c H locs 2 12 (vx_MQ below (gQx D vwCl r (gS 78 q (TX cy q) u) (gA 78 q)) (gXx D vwCl r (gS 78 q (TX cy q) u) (gA 78 q)) args s 2 12 (gA 78 q)) (F0 m 64 ls [.int sx0]) := by
  obtain ⟨hx, hb, hr, hml, hown, hts, hlocks⟩ := id C0
  unfold sX8_give_64 at hp
  obtain ⟨rfl, rfl⟩ := o_r hp
  refine W.widen (k := 2) (n := 12) (Nat.le_of_ble_eq_true rfl) (Nat.le_of_ble_eq_true rfl) ?_
  refine vx_ret ?_
  exact W.iret (v := sx0) hx hb hr (fun t ht hW => ⟨⟨sx0, (), rfl, rfl, by subst ht; exact hP⟩, hS.F ht⟩) hS.2.2 dX8_give_64
def sX8_give_34 (x1 : Int32) (σ : TS) : Option XR := (if x1 = ((109 : Int32)) then some (Sum.inl ((st2 (st2 σ 0 12 ((0 : Int32))) 0 11 (((1 : Int32)) - ((st2 σ 0 12 ((0 : Int32))) 0 11))) 0 11), st2 (st2 σ 0 12 ((0 : Int32))) 0 11 (((1 : Int32)) - ((st2 σ 0 12 ((0 : Int32))) 0 11))) else ((sX8_resetActuators (st2 σ 0 12 ((0 : Int32)))).bind (fun z => sX8_give_64 z.1 z.2)))
set_option maxHeartbeats 4000000 in
set_option maxRecDepth 100000 in
theorem kX8_give_34 {r : Int32 ⊕ Nat} {u : TS} (C0 : gC RX8 cX8_give 2 ((some .int)) wsX8_give p s m args meth c) (hlf : l.stackTraces = false) (hXP : xPre (gA 78 q) s) (hex : ∀ x ∈ c.exceptionTable.toList, False) (hK : va_K D vwCl (tyL cy) s) (hJ : gJ 78 q) {H : Heap} {locs : List Loc} {σ : TS} {x1 : Int32} (hP : va_P D vwCl (gS 78 q (TX cy q) σ) H) (hS : va_S (gA 78 q) s.heap H locs) {ls : Array Slot} (hl : lv_has ls 2 [(0, .ref (q (0))), (1, .int x1)]) (hp : sX8_give_34 x1 σ = some (r, u)) : W p l e rmX8_give s m args below meth c H locs 2 12 (vx_MQ below (gQx D vwCl r (gS 78 q (TX cy q) u) (gA 78 q)) (gXx D vwCl r (gS 78 q (TX cy q) u) (gA 78 q)) args s 2 12 (gA 78 q)) (F0 m 34 ls []) := by
  obtain ⟨hx, hb, hr, hml, hown, hts, hlocks⟩ := id C0
  unfold sX8_give_34 at hp
  refine lv_aload_n hx hb dX8_give_34 rfl (lv_at hl 0 rfl) ?_
  refine lv_iconst (v := (0 : Int32)) hx hb dX8_give_35 (by decide) ?_
  refine g_put (v := (0 : Int32)) hx hb hts miX8_give_X8 tyX8 tyX8_ok nmX8 hown hK hJ hP hS (kk_Tri) (ce_Tri) rfl 12 (by decide) mwX8_give_0 rfl (cok_n (by decide)).1 (cok_n (by decide)).2 (Nat.le_of_ble_eq_true rfl) rfl dX8_give_36 (fun H locs hP hS => ?_)
  refine lv_iload_n hx hb dX8_give_39 rfl (lv_at hl 1 rfl) ?_
  refine lv_bipush (v := (109 : Int32)) hx hb dX8_give_40 (by decide) ?_
  refine lv_icmp_ne (tgt := 60) hx hb dX8_give_42 (by decide) (fun hcd1 => ?_) (fun hcd1 => ?_)
  · have hp := o_f hp hcd1
    refine lv_aload_n hx hb dX8_give_60 rfl (lv_at hl 0 rfl) ?_
    obtain ⟨⟨r2, u3⟩, hq4, hp⟩ := o_b hp
    refine g_cVi (As := []) (rest := []) hx hb hml hown hts hK hP hS (mX8_resetActuators l hJ hq4) (cwV 0 hts gX8_give_X8_resetActuators rfl rfl rfl nVX8_resetActuators ⟨Nat.le_of_ble_eq_true rfl, Nat.le_of_ble_eq_true rfl⟩) (g_recv hK hP (kk_Tri) (ce_Tri) rfl) rfl hl.1 rfl (Nat.le_of_ble_eq_true rfl) dX8_give_61 ⟨Nat.le_of_ble_eq_true rfl, Nat.le_of_ble_eq_true rfl⟩ (fun H locs hP hS => ?_)
    exact kX8_give_64 C0 hlf hXP hex hK hJ  hP hS (lv_sub hl [] rfl) hp
  · have hp := o_t hp hcd1
    refine lv_aload_n hx hb dX8_give_45 rfl (lv_at hl 0 rfl) ?_
    refine lv_iconst (v := (1 : Int32)) hx hb dX8_give_46 (by decide) ?_
    refine lv_aload_n hx hb dX8_give_47 rfl (lv_at hl 0 rfl) ?_
    refine g_get (v := .int ((st2 σ 0 12 ((0 : Int32))) 0 11)) hx hb hts miX8_give_X8 hown hK hP (kk_Tri) (ce_Tri) rfl 11 (by decide) mwX8_give_1 rfl dX8_give_48 ?_
    refine lv_isub hx hb dX8_give_51 ?_
    refine g_put (v := ((1 : Int32)) - ((st2 σ 0 12 ((0 : Int32))) 0 11)) hx hb hts miX8_give_X8 tyX8 tyX8_ok nmX8 hown hK hJ hP hS (kk_Tri) (ce_Tri) rfl 11 (by decide) mwX8_give_1 rfl rfl rfl (Nat.le_of_ble_eq_true rfl) rfl dX8_give_52 (fun H locs hP hS => ?_)
    refine lv_aload_n hx hb dX8_give_55 rfl (lv_at hl 0 rfl) ?_
    refine g_get (v := .int ((st2 (st2 σ 0 12 ((0 : Int32))) 0 11 (((1 : Int32)) - ((st2 σ 0 12 ((0 : Int32))) 0 11))) 0 11)) hx hb hts miX8_give_X8 hown hK hP (kk_Tri) (ce_Tri) rfl 11 (by decide) mwX8_give_1 rfl dX8_give_56 ?_
    obtain ⟨rfl, rfl⟩ := o_r hp
    refine W.widen (k := 2) (n := 12) (Nat.le_of_ble_eq_true rfl) (Nat.le_of_ble_eq_true rfl) ?_
    refine vx_ret ?_
    exact W.iret (v := (st2 (st2 σ 0 12 ((0 : Int32))) 0 11 (((1 : Int32)) - ((st2 σ 0 12 ((0 : Int32))) 0 11))) 0 11) hx hb hr (fun t ht hW => ⟨⟨(st2 (st2 σ 0 12 ((0 : Int32))) 0 11 (((1 : Int32)) - ((st2 σ 0 12 ((0 : Int32))) 0 11))) 0 11, (), rfl, rfl, by subst ht; exact hP⟩, hS.F ht⟩) hS.2.2 dX8_give_59
def sX8_give_31 (x1 : Int32) (sx0 : Int32) (σ : TS) : Option XR := ((sX8_requireState sx0 σ).bind (fun z => o_x z (fun _ zs => sX8_give_34 x1 zs)))
set_option maxHeartbeats 4000000 in
set_option maxRecDepth 100000 in
theorem kX8_give_31 {r : Int32 ⊕ Nat} {u : TS} (C0 : gC RX8 cX8_give 2 ((some .int)) wsX8_give p s m args meth c) (hlf : l.stackTraces = false) (hXP : xPre (gA 78 q) s) (hex : ∀ x ∈ c.exceptionTable.toList, False) (hK : va_K D vwCl (tyL cy) s) (hJ : gJ 78 q) {H : Heap} {locs : List Loc} {σ : TS} {x1 : Int32} {sx0 : Int32} (hP : va_P D vwCl (gS 78 q (TX cy q) σ) H) (hS : va_S (gA 78 q) s.heap H locs) {ls : Array Slot} (hl : lv_has ls 2 [(0, .ref (q (0))), (1, .int x1)]) (hp : sX8_give_31 x1 sx0 σ = some (r, u)) : W p l e rmX8_give s m args below meth c H locs 1 6 (vx_MQ below (gQx D vwCl r (gS 78 q (TX cy q) u) (gA 78 q)) (gXx D vwCl r (gS 78 q (TX cy q) u) (gA 78 q)) args s 2 12 (gA 78 q)) (F0 m 31 ls [.int sx0]) := by
  obtain ⟨hx, hb, hr, hml, hown, hts, hlocks⟩ := id C0
  unfold sX8_give_31 at hp
  obtain ⟨⟨r5, u6⟩, hq7, hp⟩ := o_b hp
  rcases r5 with r5 | r5
  · refine g_xSv (As := [.int sx0]) (rest := []) hx hb hml hown hts hK hXP hP hS (mX8_requireState l hlf hJ hq7) (va_cwS 1 hts gX8_give_X8_requireState rfl rfl rfl nVX8_requireState ⟨Nat.le_of_ble_eq_true rfl, Nat.le_of_ble_eq_true rfl⟩) rfl hl.1 rfl (Nat.le_of_ble_eq_true rfl) dX8_give_31 ⟨Nat.le_of_ble_eq_true rfl, Nat.le_of_ble_eq_true rfl⟩ (fun H locs hP hS => ?_)
    exact kX8_give_34 C0 hlf hXP hex hK hJ  hP hS hl hp
  · obtain ⟨rfl, rfl⟩ := o_r (a := (Sum.inr r5 : Int32 ⊕ Nat)) (b := u6) hp
    exact g_xSt (As := [.int sx0]) (rest := []) hx hb hml hown hts hK hXP hP hS (mX8_requireState l hlf hJ hq7) (va_cwS 1 hts gX8_give_X8_requireState rfl rfl rfl nVX8_requireState ⟨Nat.le_of_ble_eq_true rfl, Nat.le_of_ble_eq_true rfl⟩) rfl hl.1 rfl (Nat.le_of_ble_eq_true rfl) dX8_give_31 ⟨Nat.le_of_ble_eq_true rfl, Nat.le_of_ble_eq_true rfl⟩ hex hlocks (Nat.le_of_ble_eq_true rfl) (Nat.le_of_ble_eq_true rfl)
def sX8_give_30 (x1 : Int32) (σ : TS) : Option XR := sX8_give_31 x1 ((0 : Int32)) σ
set_option maxHeartbeats 4000000 in
set_option maxRecDepth 100000 in
theorem kX8_give_30 {r : Int32 ⊕ Nat} {u : TS} (C0 : gC RX8 cX8_give 2 ((some .int)) wsX8_give p s m args meth c) (hlf : l.stackTraces = false) (hXP : xPre (gA 78 q) s) (hex : ∀ x ∈ c.exceptionTable.toList, False) (hK : va_K D vwCl (tyL cy) s) (hJ : gJ 78 q) {H : Heap} {locs : List Loc} {σ : TS} {x1 : Int32} (hP : va_P D vwCl (gS 78 q (TX cy q) σ) H) (hS : va_S (gA 78 q) s.heap H locs) {ls : Array Slot} (hl : lv_has ls 2 [(0, .ref (q (0))), (1, .int x1)]) (hp : sX8_give_30 x1 σ = some (r, u)) : W p l e rmX8_give s m args below meth c H locs 1 6 (vx_MQ below (gQx D vwCl r (gS 78 q (TX cy q) u) (gA 78 q)) (gXx D vwCl r (gS 78 q (TX cy q) u) (gA 78 q)) args s 2 12 (gA 78 q)) (F0 m 30 ls []) := by
  obtain ⟨hx, hb, hr, hml, hown, hts, hlocks⟩ := id C0
  unfold sX8_give_30 at hp
  refine lv_iconst (v := (0 : Int32)) hx hb dX8_give_30 (by decide) ?_
  exact kX8_give_31 C0 hlf hXP hex hK hJ  hP hS hl hp
def sX8_give_7 (x1 : Int32) (σ : TS) : Option XR := (if (σ 0 12) = x1 then (if (σ 0 13) < (σ 0 10) then sX8_give_30 x1 σ else sX8_give_31 x1 ((1 : Int32)) σ) else sX8_give_30 x1 σ)
set_option maxHeartbeats 4000000 in
set_option maxRecDepth 100000 in
theorem kX8_give_7 {r : Int32 ⊕ Nat} {u : TS} (C0 : gC RX8 cX8_give 2 ((some .int)) wsX8_give p s m args meth c) (hlf : l.stackTraces = false) (hXP : xPre (gA 78 q) s) (hex : ∀ x ∈ c.exceptionTable.toList, False) (hK : va_K D vwCl (tyL cy) s) (hJ : gJ 78 q) {H : Heap} {locs : List Loc} {σ : TS} {x1 : Int32} (hP : va_P D vwCl (gS 78 q (TX cy q) σ) H) (hS : va_S (gA 78 q) s.heap H locs) {ls : Array Slot} (hl : lv_has ls 2 [(0, .ref (q (0))), (1, .int x1)]) (hp : sX8_give_7 x1 σ = some (r, u)) : W p l e rmX8_give s m args below meth c H locs 1 6 (vx_MQ below (gQx D vwCl r (gS 78 q (TX cy q) u) (gA 78 q)) (gXx D vwCl r (gS 78 q (TX cy q) u) (gA 78 q)) args s 2 12 (gA 78 q)) (F0 m 7 ls []) := by
  obtain ⟨hx, hb, hr, hml, hown, hts, hlocks⟩ := id C0
  unfold sX8_give_7 at hp
  refine lv_aload_n hx hb dX8_give_7 rfl (lv_at hl 0 rfl) ?_
  refine g_get (v := .int (σ 0 12)) hx hb hts miX8_give_X8 hown hK hP (kk_Tri) (ce_Tri) rfl 12 (by decide) mwX8_give_0 rfl dX8_give_8 ?_
  refine lv_iload_n hx hb dX8_give_11 rfl (lv_at hl 1 rfl) ?_
  refine lv_icmp_ne (tgt := 30) hx hb dX8_give_12 (by decide) (fun hcd8 => ?_) (fun hcd8 => ?_)
  · have hp := o_f hp hcd8
    exact kX8_give_30 C0 hlf hXP hex hK hJ  hP hS hl hp
  · have hp := o_t hp hcd8
    refine lv_aload_n hx hb dX8_give_15 rfl (lv_at hl 0 rfl) ?_
    refine g_get (v := .int (σ 0 10)) hx hb hts miX8_give_X8 hown hK hP (kk_Tri) (ce_Tri) rfl 10 (by decide) mwX8_give_2 rfl dX8_give_16 ?_
    refine lv_aload_n hx hb dX8_give_19 rfl (lv_at hl 0 rfl) ?_
    refine g_get (v := .int (σ 0 13)) hx hb hts miX8_give_X8 hown hK hP (kk_Tri) (ce_Tri) rfl 13 (by decide) mwX8_give_3 rfl dX8_give_20 ?_
    refine lv_icmp_gt (tgt := 30) hx hb dX8_give_23 (by decide) (fun hcd9 => ?_) (fun hcd9 => ?_)
    · have hp := o_t hp hcd9
      exact kX8_give_30 C0 hlf hXP hex hK hJ  hP hS hl hp
    · have hp := o_f hp hcd9
      refine lv_iconst (v := (1 : Int32)) hx hb dX8_give_26 (by decide) ?_
      refine lv_goto (tgt := 31) hx hb dX8_give_27 (by decide) ?_
      exact kX8_give_31 C0 hlf hXP hex hK hJ  hP hS hl hp
def sX8_give_4 (x1 : Int32) (sx0 : Int32) (σ : TS) : Option XR := ((sX8_requireFit sx0 σ).bind (fun z => o_x z (fun _ zs => sX8_give_7 x1 zs)))
set_option maxHeartbeats 4000000 in
set_option maxRecDepth 100000 in
theorem kX8_give_4 {r : Int32 ⊕ Nat} {u : TS} (C0 : gC RX8 cX8_give 2 ((some .int)) wsX8_give p s m args meth c) (hlf : l.stackTraces = false) (hXP : xPre (gA 78 q) s) (hex : ∀ x ∈ c.exceptionTable.toList, False) (hK : va_K D vwCl (tyL cy) s) (hJ : gJ 78 q) {H : Heap} {locs : List Loc} {σ : TS} {x1 : Int32} {sx0 : Int32} (hP : va_P D vwCl (gS 78 q (TX cy q) σ) H) (hS : va_S (gA 78 q) s.heap H locs) {ls : Array Slot} (hl : lv_has ls 2 [(0, .ref (q (0))), (1, .int x1)]) (hp : sX8_give_4 x1 sx0 σ = some (r, u)) : W p l e rmX8_give s m args below meth c H locs 0 0 (vx_MQ below (gQx D vwCl r (gS 78 q (TX cy q) u) (gA 78 q)) (gXx D vwCl r (gS 78 q (TX cy q) u) (gA 78 q)) args s 2 12 (gA 78 q)) (F0 m 4 ls [.int sx0]) := by
  obtain ⟨hx, hb, hr, hml, hown, hts, hlocks⟩ := id C0
  unfold sX8_give_4 at hp
  obtain ⟨⟨r10, u11⟩, hq12, hp⟩ := o_b hp
  rcases r10 with r10 | r10
  · refine g_xSv (As := [.int sx0]) (rest := []) hx hb hml hown hts hK hXP hP hS (mX8_requireFit l hlf hJ hq12) (va_cwS 1 hts gX8_give_X8_requireFit rfl rfl rfl nVX8_requireFit ⟨Nat.le_of_ble_eq_true rfl, Nat.le_of_ble_eq_true rfl⟩) rfl hl.1 rfl (Nat.le_of_ble_eq_true rfl) dX8_give_4 ⟨Nat.le_of_ble_eq_true rfl, Nat.le_of_ble_eq_true rfl⟩ (fun H locs hP hS => ?_)
    exact kX8_give_7 C0 hlf hXP hex hK hJ  hP hS hl hp
  · obtain ⟨rfl, rfl⟩ := o_r (a := (Sum.inr r10 : Int32 ⊕ Nat)) (b := u11) hp
    exact g_xSt (As := [.int sx0]) (rest := []) hx hb hml hown hts hK hXP hP hS (mX8_requireFit l hlf hJ hq12) (va_cwS 1 hts gX8_give_X8_requireFit rfl rfl rfl nVX8_requireFit ⟨Nat.le_of_ble_eq_true rfl, Nat.le_of_ble_eq_true rfl⟩) rfl hl.1 rfl (Nat.le_of_ble_eq_true rfl) dX8_give_4 ⟨Nat.le_of_ble_eq_true rfl, Nat.le_of_ble_eq_true rfl⟩ hex hlocks (Nat.le_of_ble_eq_true rfl) (Nat.le_of_ble_eq_true rfl)
def sX8_give_0 (x1 : Int32) (σ : TS) : Option XR := ((sX8_isCommand x1 σ).bind (fun z => sX8_give_4 x1 z.1 z.2))
set_option maxHeartbeats 4000000 in
set_option maxRecDepth 100000 in
theorem kX8_give_0 {r : Int32 ⊕ Nat} {u : TS} (C0 : gC RX8 cX8_give 2 ((some .int)) wsX8_give p s m args meth c) (hlf : l.stackTraces = false) (hXP : xPre (gA 78 q) s) (hex : ∀ x ∈ c.exceptionTable.toList, False) (hK : va_K D vwCl (tyL cy) s) (hJ : gJ 78 q) {H : Heap} {locs : List Loc} {σ : TS} {x1 : Int32} (hP : va_P D vwCl (gS 78 q (TX cy q) σ) H) (hS : va_S (gA 78 q) s.heap H locs) {ls : Array Slot} (hl : lv_has ls 2 [(0, .ref (q (0))), (1, .int x1)]) (hp : sX8_give_0 x1 σ = some (r, u)) : W p l e rmX8_give s m args below meth c H locs 0 0 (vx_MQ below (gQx D vwCl r (gS 78 q (TX cy q) u) (gA 78 q)) (gXx D vwCl r (gS 78 q (TX cy q) u) (gA 78 q)) args s 2 12 (gA 78 q)) (F0 m 0 ls []) := by
  obtain ⟨hx, hb, hr, hml, hown, hts, hlocks⟩ := id C0
  unfold sX8_give_0 at hp
  refine lv_iload_n hx hb dX8_give_0 rfl (lv_at hl 1 rfl) ?_
  obtain ⟨⟨r13, u14⟩, hq15, hp⟩ := o_b hp
  refine g_cSi (As := [.int x1]) (rest := []) hx hb hml hown hts hK hP hS (mX8_isCommand l hJ hq15) (va_cwS 1 hts gX8_give_X8_isCommand rfl rfl rfl nVX8_isCommand ⟨Nat.le_of_ble_eq_true rfl, Nat.le_of_ble_eq_true rfl⟩) rfl hl.1 rfl (Nat.le_of_ble_eq_true rfl) dX8_give_1 ⟨Nat.le_of_ble_eq_true rfl, Nat.le_of_ble_eq_true rfl⟩ (fun H locs hP hS => ?_)
  exact kX8_give_4 C0 hlf hXP hex hK hJ  hP hS hl hp
def sX8_give (x1 : Int32) (σ : TS) : Option XR := sX8_give_0 x1 σ
theorem nVX8_give : yX8_give.cls = RX8 ∧ yX8_give.cls ≠ "java/lang/invoke/MethodHandle" ∧ yX8_give.cls ≠ "java/lang/invoke/VarHandle" ∧ (parseMethodDescriptor yX8_give.desc).map (fun d => d.parameters.length) = some 1 := by decide +kernel
set_option maxHeartbeats 4000000 in
set_option maxRecDepth 100000 in
theorem mX8_give (l : Launch) (hlf : l.stackTraces = false) (hJ : gJ 78 q) {x1 : Int32} {σ : TS} {r : Int32 ⊕ Nat} {u : TS} (hp : sX8_give x1 σ = some (r, u)) : vx_Met l yX8_give wsX8_give rmX8_give (va_Pc [.ref (q (0)), .int x1] (gPreX D vwCl (tyL cy) (gS 78 q (TX cy q) σ) (gA 78 q))) (gQx D vwCl r (gS 78 q (TX cy q) u) (gA 78 q)) (gXx D vwCl r (gS 78 q (TX cy q) u) (gA 78 q)) 2 12 (gA 78 q) := by
  refine vx_ofW (cc := cX8_give) (maxL := 2) (ret := (some .int)) (by decide +kernel) rfl ?_
  intro p e s m args below meth c s₁ B hml hex hv
  obtain ⟨rfl, ⟨hP, hK⟩, hXP⟩ := hv
  have hl := lv_entry ([.ref (q (0)), .int x1]) (n := 2) (Nat.le_of_ble_eq_true rfl)
  rw [lg_entry_eq]
  generalize (lg_sl ([.ref (q (0)), .int x1]) ++ List.replicate (2 - (lg_sl ([.ref (q (0)), .int x1])).length) Slot.unset).toArray = ls at hl ⊢
  have hl : lv_has ls 2 [(0, .ref (q (0))), (1, .int x1)] := hl
  exact kX8_give_0 ⟨B.exec, B.bytes, B.returns, hml, findClass_of_methodNamed B.named, atoms_spec (ws := wsX8_give) B.pre, B.notSynchronized⟩ hlf hXP hex hK hJ  hP va_S.rf hl hp
theorem miX8_line_X8 : ∀ w ∈ u_ws RX8 TX8 16, w ∈ wsX8_line := by decide +kernel
theorem mwX8_line_0 : Cond.classLink RX8 238 "java/util/NoSuchElementException" ∈ wsX8_line := by decide +kernel
theorem mwX8_line_1 : Cond.initialized "java/util/NoSuchElementException" ∈ wsX8_line := by decide +kernel
theorem mwX8_line_2 : Cond.fieldLink RX8 59 "Triplane" "log" "LTriplane$Log;" ∈ wsX8_line := by decide +kernel
abbrev rmX8_line : Room := { frames := 7, cells := 2, slots := 12, locals := 110 }
theorem mxX8_line_242 : ∀ w ∈ xn_at242.filter goodWord, w ∈ wsX8_line := by decide +kernel
def sX8_line_41 (σ : TS) : Option XR := some (Sum.inr 5, σ)
set_option maxHeartbeats 4000000 in
set_option maxRecDepth 100000 in
theorem kX8_line_41 {r : Int32 ⊕ Nat} {u : TS} (C0 : gC RX8 cX8_line 3 ((some .int)) wsX8_line p s m args meth c) (hlf : l.stackTraces = false) (hXP : xPre (gA 78 q) s) (hex : ∀ x ∈ c.exceptionTable.toList, False) (hK : va_K D vwCl (tyL cy) s) (hJ : gJ 78 q) {H : Heap} {locs : List Loc} {σ : TS} (hP : va_P D vwCl (gS 78 q (TX cy q) σ) H) (hS : va_S (gA 78 q) s.heap H locs) {ls : Array Slot} (hl : lv_has ls 3 []) (hp : sX8_line_41 σ = some (r, u)) : W p l e rmX8_line s m args below meth c H locs 1 6 (vx_MQ below (gQx D vwCl r (gS 78 q (TX cy q) u) (gA 78 q)) (gXx D vwCl r (gS 78 q (TX cy q) u) (gA 78 q)) args s 2 12 (gA 78 q)) (F0 m 41 ls []) := by
  obtain ⟨hx, hb, hr, hml, hown, hts, hlocks⟩ := id C0
  unfold sX8_line_41 at hp
  obtain ⟨rfl, rfl⟩ := o_r hp
  exact n_throwW (text := "no such line") hx hb hlf hown hts hXP mxX8_line_242 mwX8_line_0 mwX8_line_1 (by decide +kernel) hP hS (hl.1.trans hml.symm) dX8_line_41 dX8_line_44 dX8_line_45 dX8_line_48 dX8_line_51 hex (Nat.le_of_ble_eq_true rfl) (Nat.le_of_ble_eq_true rfl) (Nat.le_of_ble_eq_true rfl) (Nat.le_of_ble_eq_true rfl) hlocks (Nat.le_of_ble_eq_true rfl) (Nat.le_of_ble_eq_true rfl)
def sX8_line_66 (sx0 : Int32) (σ : TS) : Option XR := some (Sum.inl sx0, σ)
set_option maxHeartbeats 4000000 in
set_option maxRecDepth 100000 in
theorem kX8_line_66 {r : Int32 ⊕ Nat} {u : TS} (C0 : gC RX8 cX8_line 3 ((some .int)) wsX8_line p s m args meth c) (hlf : l.stackTraces = false) (hXP : xPre (gA 78 q) s) (hex : ∀ x ∈ c.exceptionTable.toList, False) (hK : va_K D vwCl (tyL cy) s) (hJ : gJ 78 q) {H : Heap} {locs : List Loc} {σ : TS} {sx0 : Int32} (hP : va_P D vwCl (gS 78 q (TX cy q) σ) H) (hS : va_S (gA 78 q) s.heap H locs) {ls : Array Slot} (hl : lv_has ls 3 []) (hp : sX8_line_66 sx0 σ = some (r, u)) : W p l e rmX8_line s m args below meth c H locs 1 6 (vx_MQ below (gQx D vwCl r (gS 78 q (TX cy q) u) (gA 78 q)) (gXx D vwCl r (gS 78 q (TX cy q) u) (gA 78 q)) args s 2 12 (gA 78 q)) (F0 m 66 ls [.int sx0]) := by
  obtain ⟨hx, hb, hr, hml, hown, hts, hlocks⟩ := id C0
  unfold sX8_line_66 at hp
  obtain ⟨rfl, rfl⟩ := o_r hp
  refine W.widen (k := 2) (n := 12) (Nat.le_of_ble_eq_true rfl) (Nat.le_of_ble_eq_true rfl) ?_
  refine vx_ret ?_
  exact W.iret (v := sx0) hx hb hr (fun t ht hW => ⟨⟨sx0, (), rfl, rfl, by subst ht; exact hP⟩, hS.F ht⟩) hS.2.2 dX8_line_66
def sX8_line_92 (sx0 : Int32) (σ : TS) : Option XR := some (Sum.inl sx0, σ)
set_option maxHeartbeats 4000000 in
set_option maxRecDepth 100000 in
theorem kX8_line_92 {r : Int32 ⊕ Nat} {u : TS} (C0 : gC RX8 cX8_line 3 ((some .int)) wsX8_line p s m args meth c) (hlf : l.stackTraces = false) (hXP : xPre (gA 78 q) s) (hex : ∀ x ∈ c.exceptionTable.toList, False) (hK : va_K D vwCl (tyL cy) s) (hJ : gJ 78 q) {H : Heap} {locs : List Loc} {σ : TS} {sx0 : Int32} (hP : va_P D vwCl (gS 78 q (TX cy q) σ) H) (hS : va_S (gA 78 q) s.heap H locs) {ls : Array Slot} (hl : lv_has ls 3 []) (hp : sX8_line_92 sx0 σ = some (r, u)) : W p l e rmX8_line s m args below meth c H locs 1 6 (vx_MQ below (gQx D vwCl r (gS 78 q (TX cy q) u) (gA 78 q)) (gXx D vwCl r (gS 78 q (TX cy q) u) (gA 78 q)) args s 2 12 (gA 78 q)) (F0 m 92 ls [.int sx0]) := by
  obtain ⟨hx, hb, hr, hml, hown, hts, hlocks⟩ := id C0
  unfold sX8_line_92 at hp
  obtain ⟨rfl, rfl⟩ := o_r hp
  refine W.widen (k := 2) (n := 12) (Nat.le_of_ble_eq_true rfl) (Nat.le_of_ble_eq_true rfl) ?_
  refine vx_ret ?_
  exact W.iret (v := sx0) hx hb hr (fun t ht hW => ⟨⟨sx0, (), rfl, rfl, by subst ht; exact hP⟩, hS.F ht⟩) hS.2.2 dX8_line_92
def sX8_line_81 (sx0 : Int32) (σ : TS) : Option XR := sX8_line_92 sx0 σ
set_option maxHeartbeats 4000000 in
set_option maxRecDepth 100000 in
theorem kX8_line_81 {r : Int32 ⊕ Nat} {u : TS} (C0 : gC RX8 cX8_line 3 ((some .int)) wsX8_line p s m args meth c) (hlf : l.stackTraces = false) (hXP : xPre (gA 78 q) s) (hex : ∀ x ∈ c.exceptionTable.toList, False) (hK : va_K D vwCl (tyL cy) s) (hJ : gJ 78 q) {H : Heap} {locs : List Loc} {σ : TS} {sx0 : Int32} (hP : va_P D vwCl (gS 78 q (TX cy q) σ) H) (hS : va_S (gA 78 q) s.heap H locs) {ls : Array Slot} (hl : lv_has ls 3 []) (hp : sX8_line_81 sx0 σ = some (r, u)) : W p l e rmX8_line s m args below meth c H locs 1 6 (vx_MQ below (gQx D vwCl r (gS 78 q (TX cy q) u) (gA 78 q)) (gXx D vwCl r (gS 78 q (TX cy q) u) (gA 78 q)) args s 2 12 (gA 78 q)) (F0 m 81 ls [.int sx0]) := by
  obtain ⟨hx, hb, hr, hml, hown, hts, hlocks⟩ := id C0
  unfold sX8_line_81 at hp
  refine lv_goto (tgt := 92) hx hb dX8_line_81 (by decide) ?_
  exact kX8_line_92 C0 hlf hXP hex hK hJ  hP hS hl hp
def sX8_line_38 (x1 : Int32) (x2 : Int32) (sx0 : Int32) (sx1 : Int32) (σ : TS) : Option XR := (if sx0 < sx1 then (if x2 = ((116 : Int32)) then ((sX3_timeOf x1 σ).bind (fun z => sX8_line_66 z.1 z.2)) else (if x2 = ((99 : Int32)) then ((sX3_computerOf x1 σ).bind (fun z => sX8_line_81 z.1 z.2)) else ((sX3_letterOf x1 σ).bind (fun z => sX8_line_92 z.1 z.2)))) else sX8_line_41 σ)
set_option maxHeartbeats 4000000 in
set_option maxRecDepth 100000 in
theorem kX8_line_38 {r : Int32 ⊕ Nat} {u : TS} (C0 : gC RX8 cX8_line 3 ((some .int)) wsX8_line p s m args meth c) (hlf : l.stackTraces = false) (hXP : xPre (gA 78 q) s) (hex : ∀ x ∈ c.exceptionTable.toList, False) (hK : va_K D vwCl (tyL cy) s) (hJ : gJ 78 q) {H : Heap} {locs : List Loc} {σ : TS} {x1 : Int32} {x2 : Int32} {sx0 : Int32} {sx1 : Int32} (hP : va_P D vwCl (gS 78 q (TX cy q) σ) H) (hS : va_S (gA 78 q) s.heap H locs) {ls : Array Slot} (hl : lv_has ls 3 [(0, .ref (q (0))), (1, .int x1), (2, .int x2)]) (hp : sX8_line_38 x1 x2 sx0 sx1 σ = some (r, u)) : W p l e rmX8_line s m args below meth c H locs 1 6 (vx_MQ below (gQx D vwCl r (gS 78 q (TX cy q) u) (gA 78 q)) (gXx D vwCl r (gS 78 q (TX cy q) u) (gA 78 q)) args s 2 12 (gA 78 q)) (F0 m 38 ls [.int sx1, .int sx0]) := by
  obtain ⟨hx, hb, hr, hml, hown, hts, hlocks⟩ := id C0
  unfold sX8_line_38 at hp
  refine lv_icmp_lt (tgt := 52) hx hb dX8_line_38 (by decide) (fun hcd1 => ?_) (fun hcd1 => ?_)
  · have hp := o_t hp hcd1
    refine lv_iload_n hx hb dX8_line_52 rfl (lv_at hl 2 rfl) ?_
    refine lv_bipush (v := (116 : Int32)) hx hb dX8_line_53 (by decide) ?_
    refine lv_icmp_ne (tgt := 67) hx hb dX8_line_55 (by decide) (fun hcd2 => ?_) (fun hcd2 => ?_)
    · have hp := o_f hp hcd2
      refine lv_iload_n hx hb dX8_line_67 rfl (lv_at hl 2 rfl) ?_
      refine lv_bipush (v := (99 : Int32)) hx hb dX8_line_68 (by decide) ?_
      refine lv_icmp_ne (tgt := 84) hx hb dX8_line_70 (by decide) (fun hcd3 => ?_) (fun hcd3 => ?_)
      · have hp := o_f hp hcd3
        refine lv_aload_n hx hb dX8_line_84 rfl (lv_at hl 0 rfl) ?_
        refine g_get (v := .ref (q (11))) hx hb hts miX8_line_X8 hown hK hP (kk_Tri) (ce_Tri) rfl 9 (by decide) mwX8_line_2 rfl dX8_line_85 ?_
        refine lv_iload_n hx hb dX8_line_88 rfl (lv_at hl 1 rfl) ?_
        obtain ⟨⟨r4, u5⟩, hq6, hp⟩ := o_b hp
        refine g_cVi (As := [.int x1]) (rest := []) hx hb hml hown hts hK hP hS (mX3_letterOf l hJ hq6) (cwV 1 hts gX8_line_X3_letterOf rfl rfl rfl nVX3_letterOf ⟨Nat.le_of_ble_eq_true rfl, Nat.le_of_ble_eq_true rfl⟩) (g_recv hK hP (kk_Log) (ce_Log) rfl) rfl hl.1 rfl (Nat.le_of_ble_eq_true rfl) dX8_line_89 ⟨Nat.le_of_ble_eq_true rfl, Nat.le_of_ble_eq_true rfl⟩ (fun H locs hP hS => ?_)
        exact kX8_line_92 C0 hlf hXP hex hK hJ  hP hS (lv_sub hl [] rfl) hp
      · have hp := o_t hp hcd3
        refine lv_aload_n hx hb dX8_line_73 rfl (lv_at hl 0 rfl) ?_
        refine g_get (v := .ref (q (11))) hx hb hts miX8_line_X8 hown hK hP (kk_Tri) (ce_Tri) rfl 9 (by decide) mwX8_line_2 rfl dX8_line_74 ?_
        refine lv_iload_n hx hb dX8_line_77 rfl (lv_at hl 1 rfl) ?_
        obtain ⟨⟨r7, u8⟩, hq9, hp⟩ := o_b hp
        refine g_cVi (As := [.int x1]) (rest := []) hx hb hml hown hts hK hP hS (mX3_computerOf l hJ hq9) (cwV 1 hts gX8_line_X3_computerOf rfl rfl rfl nVX3_computerOf ⟨Nat.le_of_ble_eq_true rfl, Nat.le_of_ble_eq_true rfl⟩) (g_recv hK hP (kk_Log) (ce_Log) rfl) rfl hl.1 rfl (Nat.le_of_ble_eq_true rfl) dX8_line_78 ⟨Nat.le_of_ble_eq_true rfl, Nat.le_of_ble_eq_true rfl⟩ (fun H locs hP hS => ?_)
        exact kX8_line_81 C0 hlf hXP hex hK hJ  hP hS (lv_sub hl [] rfl) hp
    · have hp := o_t hp hcd2
      refine lv_aload_n hx hb dX8_line_58 rfl (lv_at hl 0 rfl) ?_
      refine g_get (v := .ref (q (11))) hx hb hts miX8_line_X8 hown hK hP (kk_Tri) (ce_Tri) rfl 9 (by decide) mwX8_line_2 rfl dX8_line_59 ?_
      refine lv_iload_n hx hb dX8_line_62 rfl (lv_at hl 1 rfl) ?_
      obtain ⟨⟨r10, u11⟩, hq12, hp⟩ := o_b hp
      refine g_cVi (As := [.int x1]) (rest := []) hx hb hml hown hts hK hP hS (mX3_timeOf l hJ hq12) (cwV 1 hts gX8_line_X3_timeOf rfl rfl rfl nVX3_timeOf ⟨Nat.le_of_ble_eq_true rfl, Nat.le_of_ble_eq_true rfl⟩) (g_recv hK hP (kk_Log) (ce_Log) rfl) rfl hl.1 rfl (Nat.le_of_ble_eq_true rfl) dX8_line_63 ⟨Nat.le_of_ble_eq_true rfl, Nat.le_of_ble_eq_true rfl⟩ (fun H locs hP hS => ?_)
      exact kX8_line_66 C0 hlf hXP hex hK hJ  hP hS (lv_sub hl [] rfl) hp
  · have hp := o_f hp hcd1
    exact kX8_line_41 C0 hlf hXP hex hK hJ  hP hS (lv_sub hl [] rfl) hp
def sX8_line_26 (x1 : Int32) (x2 : Int32) (σ : TS) : Option XR := (if x1 < 0 then sX8_line_41 σ else ((sX3_countKept σ).bind (fun z => sX8_line_38 x1 x2 x1 z.1 z.2)))
set_option maxHeartbeats 4000000 in
set_option maxRecDepth 100000 in
theorem kX8_line_26 {r : Int32 ⊕ Nat} {u : TS} (C0 : gC RX8 cX8_line 3 ((some .int)) wsX8_line p s m args meth c) (hlf : l.stackTraces = false) (hXP : xPre (gA 78 q) s) (hex : ∀ x ∈ c.exceptionTable.toList, False) (hK : va_K D vwCl (tyL cy) s) (hJ : gJ 78 q) {H : Heap} {locs : List Loc} {σ : TS} {x1 : Int32} {x2 : Int32} (hP : va_P D vwCl (gS 78 q (TX cy q) σ) H) (hS : va_S (gA 78 q) s.heap H locs) {ls : Array Slot} (hl : lv_has ls 3 [(0, .ref (q (0))), (1, .int x1), (2, .int x2)]) (hp : sX8_line_26 x1 x2 σ = some (r, u)) : W p l e rmX8_line s m args below meth c H locs 1 6 (vx_MQ below (gQx D vwCl r (gS 78 q (TX cy q) u) (gA 78 q)) (gXx D vwCl r (gS 78 q (TX cy q) u) (gA 78 q)) args s 2 12 (gA 78 q)) (F0 m 26 ls []) := by
  obtain ⟨hx, hb, hr, hml, hown, hts, hlocks⟩ := id C0
  unfold sX8_line_26 at hp
  refine lv_iload_n hx hb dX8_line_26 rfl (lv_at hl 1 rfl) ?_
  refine lv_if_lt (tgt := 41) hx hb dX8_line_27 (by decide) (fun hcd13 => ?_) (fun hcd13 => ?_)
  · have hp := o_t hp hcd13
    exact kX8_line_41 C0 hlf hXP hex hK hJ  hP hS (lv_sub hl [] rfl) hp
  · have hp := o_f hp hcd13
    refine lv_iload_n hx hb dX8_line_30 rfl (lv_at hl 1 rfl) ?_
    refine lv_aload_n hx hb dX8_line_31 rfl (lv_at hl 0 rfl) ?_
    refine g_get (v := .ref (q (11))) hx hb hts miX8_line_X8 hown hK hP (kk_Tri) (ce_Tri) rfl 9 (by decide) mwX8_line_2 rfl dX8_line_32 ?_
    obtain ⟨⟨r14, u15⟩, hq16, hp⟩ := o_b hp
    refine g_cVi (As := []) (rest := [.int x1]) hx hb hml hown hts hK hP hS (mX3_countKept l hJ hq16) (cwV 0 hts gX8_line_X3_countKept rfl rfl rfl nVX3_countKept ⟨Nat.le_of_ble_eq_true rfl, Nat.le_of_ble_eq_true rfl⟩) (g_recv hK hP (kk_Log) (ce_Log) rfl) rfl hl.1 rfl (Nat.le_of_ble_eq_true rfl) dX8_line_35 ⟨Nat.le_of_ble_eq_true rfl, Nat.le_of_ble_eq_true rfl⟩ (fun H locs hP hS => ?_)
    exact kX8_line_38 C0 hlf hXP hex hK hJ  hP hS hl hp
def sX8_line_23 (x1 : Int32) (x2 : Int32) (sx0 : Int32) (σ : TS) : Option XR := ((sX8_requireFit sx0 σ).bind (fun z => o_x z (fun _ zs => sX8_line_26 x1 x2 zs)))
set_option maxHeartbeats 4000000 in
set_option maxRecDepth 100000 in
theorem kX8_line_23 {r : Int32 ⊕ Nat} {u : TS} (C0 : gC RX8 cX8_line 3 ((some .int)) wsX8_line p s m args meth c) (hlf : l.stackTraces = false) (hXP : xPre (gA 78 q) s) (hex : ∀ x ∈ c.exceptionTable.toList, False) (hK : va_K D vwCl (tyL cy) s) (hJ : gJ 78 q) {H : Heap} {locs : List Loc} {σ : TS} {x1 : Int32} {x2 : Int32} {sx0 : Int32} (hP : va_P D vwCl (gS 78 q (TX cy q) σ) H) (hS : va_S (gA 78 q) s.heap H locs) {ls : Array Slot} (hl : lv_has ls 3 [(0, .ref (q (0))), (1, .int x1), (2, .int x2)]) (hp : sX8_line_23 x1 x2 sx0 σ = some (r, u)) : W p l e rmX8_line s m args below meth c H locs 0 0 (vx_MQ below (gQx D vwCl r (gS 78 q (TX cy q) u) (gA 78 q)) (gXx D vwCl r (gS 78 q (TX cy q) u) (gA 78 q)) args s 2 12 (gA 78 q)) (F0 m 23 ls [.int sx0]) := by
  obtain ⟨hx, hb, hr, hml, hown, hts, hlocks⟩ := id C0
  unfold sX8_line_23 at hp
  obtain ⟨⟨r17, u18⟩, hq19, hp⟩ := o_b hp
  rcases r17 with r17 | r17
  · refine g_xSv (As := [.int sx0]) (rest := []) hx hb hml hown hts hK hXP hP hS (mX8_requireFit l hlf hJ hq19) (va_cwS 1 hts gX8_line_X8_requireFit rfl rfl rfl nVX8_requireFit ⟨Nat.le_of_ble_eq_true rfl, Nat.le_of_ble_eq_true rfl⟩) rfl hl.1 rfl (Nat.le_of_ble_eq_true rfl) dX8_line_23 ⟨Nat.le_of_ble_eq_true rfl, Nat.le_of_ble_eq_true rfl⟩ (fun H locs hP hS => ?_)
    exact kX8_line_26 C0 hlf hXP hex hK hJ  hP hS hl hp
  · obtain ⟨rfl, rfl⟩ := o_r (a := (Sum.inr r17 : Int32 ⊕ Nat)) (b := u18) hp
    exact g_xSt (As := [.int sx0]) (rest := []) hx hb hml hown hts hK hXP hP hS (mX8_requireFit l hlf hJ hq19) (va_cwS 1 hts gX8_line_X8_requireFit rfl rfl rfl nVX8_requireFit ⟨Nat.le_of_ble_eq_true rfl, Nat.le_of_ble_eq_true rfl⟩) rfl hl.1 rfl (Nat.le_of_ble_eq_true rfl) dX8_line_23 ⟨Nat.le_of_ble_eq_true rfl, Nat.le_of_ble_eq_true rfl⟩ hex hlocks (Nat.le_of_ble_eq_true rfl) (Nat.le_of_ble_eq_true rfl)
def sX8_line_18 (x1 : Int32) (x2 : Int32) (σ : TS) : Option XR := sX8_line_23 x1 x2 ((1 : Int32)) σ
set_option maxHeartbeats 4000000 in
set_option maxRecDepth 100000 in
theorem kX8_line_18 {r : Int32 ⊕ Nat} {u : TS} (C0 : gC RX8 cX8_line 3 ((some .int)) wsX8_line p s m args meth c) (hlf : l.stackTraces = false) (hXP : xPre (gA 78 q) s) (hex : ∀ x ∈ c.exceptionTable.toList, False) (hK : va_K D vwCl (tyL cy) s) (hJ : gJ 78 q) {H : Heap} {locs : List Loc} {σ : TS} {x1 : Int32} {x2 : Int32} (hP : va_P D vwCl (gS 78 q (TX cy q) σ) H) (hS : va_S (gA 78 q) s.heap H locs) {ls : Array Slot} (hl : lv_has ls 3 [(0, .ref (q (0))), (1, .int x1), (2, .int x2)]) (hp : sX8_line_18 x1 x2 σ = some (r, u)) : W p l e rmX8_line s m args below meth c H locs 0 0 (vx_MQ below (gQx D vwCl r (gS 78 q (TX cy q) u) (gA 78 q)) (gXx D vwCl r (gS 78 q (TX cy q) u) (gA 78 q)) args s 2 12 (gA 78 q)) (F0 m 18 ls []) := by
  obtain ⟨hx, hb, hr, hml, hown, hts, hlocks⟩ := id C0
  unfold sX8_line_18 at hp
  refine lv_iconst (v := (1 : Int32)) hx hb dX8_line_18 (by decide) ?_
  refine lv_goto (tgt := 23) hx hb dX8_line_19 (by decide) ?_
  exact kX8_line_23 C0 hlf hXP hex hK hJ  hP hS hl hp
def sX8_line_0 (x1 : Int32) (x2 : Int32) (σ : TS) : Option XR := (if x2 = ((116 : Int32)) then sX8_line_18 x1 x2 σ else (if x2 = ((99 : Int32)) then sX8_line_18 x1 x2 σ else (if x2 = ((114 : Int32)) then sX8_line_18 x1 x2 σ else sX8_line_23 x1 x2 ((0 : Int32)) σ)))
set_option maxHeartbeats 4000000 in
set_option maxRecDepth 100000 in
theorem kX8_line_0 {r : Int32 ⊕ Nat} {u : TS} (C0 : gC RX8 cX8_line 3 ((some .int)) wsX8_line p s m args meth c) (hlf : l.stackTraces = false) (hXP : xPre (gA 78 q) s) (hex : ∀ x ∈ c.exceptionTable.toList, False) (hK : va_K D vwCl (tyL cy) s) (hJ : gJ 78 q) {H : Heap} {locs : List Loc} {σ : TS} {x1 : Int32} {x2 : Int32} (hP : va_P D vwCl (gS 78 q (TX cy q) σ) H) (hS : va_S (gA 78 q) s.heap H locs) {ls : Array Slot} (hl : lv_has ls 3 [(0, .ref (q (0))), (1, .int x1), (2, .int x2)]) (hp : sX8_line_0 x1 x2 σ = some (r, u)) : W p l e rmX8_line s m args below meth c H locs 0 0 (vx_MQ below (gQx D vwCl r (gS 78 q (TX cy q) u) (gA 78 q)) (gXx D vwCl r (gS 78 q (TX cy q) u) (gA 78 q)) args s 2 12 (gA 78 q)) (F0 m 0 ls []) := by
  obtain ⟨hx, hb, hr, hml, hown, hts, hlocks⟩ := id C0
  unfold sX8_line_0 at hp
  refine lv_iload_n hx hb dX8_line_0 rfl (lv_at hl 2 rfl) ?_
  refine lv_bipush (v := (116 : Int32)) hx hb dX8_line_1 (by decide) ?_
  refine lv_icmp_eq (tgt := 18) hx hb dX8_line_3 (by decide) (fun hcd20 => ?_) (fun hcd20 => ?_)
  · have hp := o_t hp hcd20
    exact kX8_line_18 C0 hlf hXP hex hK hJ  hP hS hl hp
  · have hp := o_f hp hcd20
    refine lv_iload_n hx hb dX8_line_6 rfl (lv_at hl 2 rfl) ?_
    refine lv_bipush (v := (99 : Int32)) hx hb dX8_line_7 (by decide) ?_
    refine lv_icmp_eq (tgt := 18) hx hb dX8_line_9 (by decide) (fun hcd21 => ?_) (fun hcd21 => ?_)
    · have hp := o_t hp hcd21
      exact kX8_line_18 C0 hlf hXP hex hK hJ  hP hS hl hp
    · have hp := o_f hp hcd21
      refine lv_iload_n hx hb dX8_line_12 rfl (lv_at hl 2 rfl) ?_
      refine lv_bipush (v := (114 : Int32)) hx hb dX8_line_13 (by decide) ?_
      refine lv_icmp_ne (tgt := 22) hx hb dX8_line_15 (by decide) (fun hcd22 => ?_) (fun hcd22 => ?_)
      · have hp := o_f hp hcd22
        refine lv_iconst (v := (0 : Int32)) hx hb dX8_line_22 (by decide) ?_
        exact kX8_line_23 C0 hlf hXP hex hK hJ  hP hS hl hp
      · have hp := o_t hp hcd22
        exact kX8_line_18 C0 hlf hXP hex hK hJ  hP hS hl hp
def sX8_line (x1 : Int32) (x2 : Int32) (σ : TS) : Option XR := sX8_line_0 x1 x2 σ
theorem nVX8_line : yX8_line.cls = RX8 ∧ yX8_line.cls ≠ "java/lang/invoke/MethodHandle" ∧ yX8_line.cls ≠ "java/lang/invoke/VarHandle" ∧ (parseMethodDescriptor yX8_line.desc).map (fun d => d.parameters.length) = some 2 := by decide +kernel
set_option maxHeartbeats 4000000 in
set_option maxRecDepth 100000 in
theorem mX8_line (l : Launch) (hlf : l.stackTraces = false) (hJ : gJ 78 q) {x1 : Int32} {x2 : Int32} {σ : TS} {r : Int32 ⊕ Nat} {u : TS} (hp : sX8_line x1 x2 σ = some (r, u)) : vx_Met l yX8_line wsX8_line rmX8_line (va_Pc [.ref (q (0)), .int x1, .int x2] (gPreX D vwCl (tyL cy) (gS 78 q (TX cy q) σ) (gA 78 q))) (gQx D vwCl r (gS 78 q (TX cy q) u) (gA 78 q)) (gXx D vwCl r (gS 78 q (TX cy q) u) (gA 78 q)) 2 12 (gA 78 q) := by
  refine vx_ofW (cc := cX8_line) (maxL := 3) (ret := (some .int)) (by decide +kernel) rfl ?_
  intro p e s m args below meth c s₁ B hml hex hv
  obtain ⟨rfl, ⟨hP, hK⟩, hXP⟩ := hv
  have hl := lv_entry ([.ref (q (0)), .int x1, .int x2]) (n := 3) (Nat.le_of_ble_eq_true rfl)
  rw [lg_entry_eq]
  generalize (lg_sl ([.ref (q (0)), .int x1, .int x2]) ++ List.replicate (3 - (lg_sl ([.ref (q (0)), .int x1, .int x2])).length) Slot.unset).toArray = ls at hl ⊢
  have hl : lv_has ls 3 [(0, .ref (q (0))), (1, .int x1), (2, .int x2)] := hl
  exact kX8_line_0 ⟨B.exec, B.bytes, B.returns, hml, findClass_of_methodNamed B.named, atoms_spec (ws := wsX8_line) B.pre, B.notSynchronized⟩ hlf hXP hex hK hJ  hP va_S.rf hl hp
theorem mwX8_onShare_0 : Cond.constantFloat RX8 279 (1077936128) ∈ wsX8_onShare := by decide +kernel
abbrev rmX8_onShare : Room := { frames := 1, cells := 0, slots := 0, locals := 22 }
def sX8_onShare_4 (sx0 : Int32) (σ : TS) : Option (UInt32 × TS) := (if fok (FP.fdiv (FP.i2f sx0) ((1077936128 : UInt32))) = true then some (FP.fdiv (FP.i2f sx0) ((1077936128 : UInt32)), σ) else none)
set_option maxHeartbeats 4000000 in
set_option maxRecDepth 100000 in
theorem kX8_onShare_4 {r : UInt32} {u : TS} (C0 : gC RX8 cX8_onShare 1 ((some .float)) wsX8_onShare p s m args meth c) (hK : va_K D vwCl (tyL cy) s) (hJ : gJ 78 q) {H : Heap} {locs : List Loc} {σ : TS} {sx0 : Int32} (hP : va_P D vwCl (gS 78 q (TX cy q) σ) H) (hS : va_S (gA 78 q) s.heap H locs) {ls : Array Slot} (hl : lv_has ls 1 []) (hp : sX8_onShare_4 sx0 σ = some (r, u)) : W p l e rmX8_onShare s m args below meth c H locs 0 0 (MQ below (gQf D vwCl r (gS 78 q (TX cy q) u) (gA 78 q)) args s 0 0 (gA 78 q)) (F0 m 4 ls [.int sx0]) := by
  obtain ⟨hx, hb, hr, hml, hown, hts, hlocks⟩ := id C0
  unfold sX8_onShare_4 at hp
  refine lv_i2f hx hb dX8_onShare_4 ?_
  refine g_ldcfw (v := (1077936128 : UInt32)) hx hb hown (hts _ mwX8_onShare_0) dX8_onShare_5 ?_
  obtain ⟨hz1, hp⟩ := o_chk hp
  refine lv_fdiv hx hb dX8_onShare_8 (fok_n hz1) ?_
  obtain ⟨rfl, rfl⟩ := o_r hp
  exact W.fret (v := FP.fdiv (FP.i2f sx0) ((1077936128 : UInt32))) hx hb hr (fun t ht hW => ⟨⟨FP.fdiv (FP.i2f sx0) ((1077936128 : UInt32)), (), rfl, rfl, by subst ht; exact hP⟩, hS.F ht⟩) hS.2.2 dX8_onShare_9
def sX8_onShare_0 (σ : TS) : Option (UInt32 × TS) := ((sX8_countOn σ).bind (fun z => sX8_onShare_4 z.1 z.2))
set_option maxHeartbeats 4000000 in
set_option maxRecDepth 100000 in
theorem kX8_onShare_0 {r : UInt32} {u : TS} (C0 : gC RX8 cX8_onShare 1 ((some .float)) wsX8_onShare p s m args meth c) (hK : va_K D vwCl (tyL cy) s) (hJ : gJ 78 q) {H : Heap} {locs : List Loc} {σ : TS} (hP : va_P D vwCl (gS 78 q (TX cy q) σ) H) (hS : va_S (gA 78 q) s.heap H locs) {ls : Array Slot} (hl : lv_has ls 1 [(0, .ref (q (0)))]) (hp : sX8_onShare_0 σ = some (r, u)) : W p l e rmX8_onShare s m args below meth c H locs 0 0 (MQ below (gQf D vwCl r (gS 78 q (TX cy q) u) (gA 78 q)) args s 0 0 (gA 78 q)) (F0 m 0 ls []) := by
  obtain ⟨hx, hb, hr, hml, hown, hts, hlocks⟩ := id C0
  unfold sX8_onShare_0 at hp
  refine lv_aload_n hx hb dX8_onShare_0 rfl (lv_at hl 0 rfl) ?_
  obtain ⟨⟨r2, u3⟩, hq4, hp⟩ := o_b hp
  refine g_cVi (As := []) (rest := []) hx hb hml hown hts hK hP hS (mX8_countOn l hJ hq4) (cwV 0 hts gX8_onShare_X8_countOn rfl rfl rfl nVX8_countOn ⟨Nat.le_of_ble_eq_true rfl, Nat.le_of_ble_eq_true rfl⟩) (g_recv hK hP (kk_Tri) (ce_Tri) rfl) rfl hl.1 rfl (Nat.le_of_ble_eq_true rfl) dX8_onShare_1 ⟨Nat.le_of_ble_eq_true rfl, Nat.le_of_ble_eq_true rfl⟩ (fun H locs hP hS => ?_)
  exact kX8_onShare_4 C0 hK hJ  hP hS (lv_sub hl [] rfl) hp
def sX8_onShare (σ : TS) : Option (UInt32 × TS) := sX8_onShare_0 σ
theorem nVX8_onShare : yX8_onShare.cls = RX8 ∧ yX8_onShare.cls ≠ "java/lang/invoke/MethodHandle" ∧ yX8_onShare.cls ≠ "java/lang/invoke/VarHandle" ∧ (parseMethodDescriptor yX8_onShare.desc).map (fun d => d.parameters.length) = some 0 := by decide +kernel
set_option maxHeartbeats 4000000 in
set_option maxRecDepth 100000 in
theorem mX8_onShare (l : Launch) (hJ : gJ 78 q) {σ : TS} {r : UInt32} {u : TS} (hp : sX8_onShare σ = some (r, u)) : Met l yX8_onShare wsX8_onShare rmX8_onShare (va_Pc [.ref (q (0))] (gPre D vwCl (tyL cy) (gS 78 q (TX cy q) σ))) (gQf D vwCl r (gS 78 q (TX cy q) u) (gA 78 q)) 0 0 (gA 78 q) := by
  refine Met.ofW (cc := cX8_onShare) (maxL := 1) (ret := (some .float)) (by decide +kernel) rfl ?_
  intro p e s m args below meth c s₁ B hml hv
  obtain ⟨rfl, hP, hK⟩ := hv
  have hl := lv_entry ([.ref (q (0))]) (n := 1) (Nat.le_of_ble_eq_true rfl)
  rw [lg_entry_eq]
  generalize (lg_sl ([.ref (q (0))]) ++ List.replicate (1 - (lg_sl ([.ref (q (0))])).length) Slot.unset).toArray = ls at hl ⊢
  have hl : lv_has ls 1 [(0, .ref (q (0)))] := hl
  exact kX8_onShare_0 ⟨B.exec, B.bytes, B.returns, hml, findClass_of_methodNamed B.named, atoms_spec (ws := wsX8_onShare) B.pre, B.notSynchronized⟩ hK hJ  hP va_S.rf hl hp
theorem miX8_meanOutput_X8 : ∀ w ∈ u_ws RX8 TX8 16, w ∈ wsX8_meanOutput := by decide +kernel
theorem mwX8_meanOutput_0 : Cond.constantDouble RX8 280 (4616189618054758400) ∈ wsX8_meanOutput := by decide +kernel
theorem mwX8_meanOutput_1 : Cond.fieldLink RX8 49 "Triplane" "outputs" "[I" ∈ wsX8_meanOutput := by decide +kernel
abbrev rmX8_meanOutput : Room := { frames := 0, cells := 0, slots := 0, locals := 0 }
def sX8_meanOutput_4 : Nat → Int32 → Int32 → TS → Option (UInt64 × TS)
  | 0, _, _, _ => none
  | n + 1, x1, x2, σ => (if ((4 : Int32)) ≤ x2 then (if dok (FP.ddiv (FP.i2d x1) ((4616189618054758400 : UInt64))) = true then some (FP.ddiv (FP.i2d x1) ((4616189618054758400 : UInt64)), σ) else none) else (if vin x2 4 = true then sX8_meanOutput_4 n (x1 + (σ (9+0) (x2.toNatClampNeg))) (x2 + (1 : Int32)) σ else none))
set_option maxHeartbeats 4000000 in
set_option maxRecDepth 100000 in
theorem kX8_meanOutput_4 {r : UInt64} {u : TS} (C0 : gC RX8 cX8_meanOutput 3 ((some .double)) wsX8_meanOutput p s m args meth c) (hK : va_K D vwCl (tyL cy) s) (hJ : gJ 78 q) : ∀ (n : Nat) (H : Heap) (locs : List Loc) (σ : TS) (x1 : Int32) (x2 : Int32) (hP : va_P D vwCl (gS 78 q (TX cy q) σ) H) (hS : va_S (gA 78 q) s.heap H locs) (ls : Array Slot) (hl : lv_has ls 3 [(0, .ref (q (0))), (1, .int x1), (2, .int x2)]) (hp : sX8_meanOutput_4 n x1 x2 σ = some (r, u)), W p l e rmX8_meanOutput s m args below meth c H locs 0 0 (MQ below (gQd D vwCl r (gS 78 q (TX cy q) u) (gA 78 q)) args s 0 0 (gA 78 q)) (F0 m 4 ls []) := by
  obtain ⟨hx, hb, hr, hml, hown, hts, hlocks⟩ := id C0
  intro n
  induction n with
  | zero =>
    intro H locs σ x1 x2 hP hS ls hl hp
    cases hp
  | succ n ih =>
    intro H locs σ x1 x2 hP hS ls hl hp
    unfold sX8_meanOutput_4 at hp
    refine lv_iload_n hx hb dX8_meanOutput_4 rfl (lv_at hl 2 rfl) ?_
    refine lv_iconst (v := (4 : Int32)) hx hb dX8_meanOutput_5 (by decide) ?_
    refine lv_icmp_ge (tgt := 24) hx hb dX8_meanOutput_6 (by decide) (fun hcd1 => ?_) (fun hcd1 => ?_)
    · have hp := o_t hp hcd1
      refine lv_iload_n hx hb dX8_meanOutput_24 rfl (lv_at hl 1 rfl) ?_
      refine lv_i2d hx hb dX8_meanOutput_25 ?_
      refine lv_ldc2d (v := (4616189618054758400 : UInt64)) hx hb hown (hts _ mwX8_meanOutput_0) dX8_meanOutput_26 ?_
      obtain ⟨hz2, hp⟩ := o_chk hp
      refine lv_ddiv hx hb dX8_meanOutput_29 (dok_n hz2) ?_
      obtain ⟨rfl, rfl⟩ := o_r hp
      exact W.dret (v := FP.ddiv (FP.i2d x1) ((4616189618054758400 : UInt64))) hx hb hr (fun t ht hW => ⟨⟨FP.ddiv (FP.i2d x1) ((4616189618054758400 : UInt64)), (), rfl, rfl, by subst ht; exact hP⟩, hS.F ht⟩) hS.2.2 dX8_meanOutput_30
    · have hp := o_f hp hcd1
      refine lv_iload_n hx hb dX8_meanOutput_9 rfl (lv_at hl 1 rfl) ?_
      refine lv_aload_n hx hb dX8_meanOutput_10 rfl (lv_at hl 0 rfl) ?_
      refine g_get (v := .ref (q (9+0))) hx hb hts miX8_meanOutput_X8 hown hK hP (kk_Tri) (ce_Tri) rfl 7 (by decide) mwX8_meanOutput_1 rfl dX8_meanOutput_11 ?_
      refine lv_iload_n hx hb dX8_meanOutput_14 rfl (lv_at hl 2 rfl) ?_
      obtain ⟨hi3, hp⟩ := o_chk hp
      refine g_iald (j := x2.toNatClampNeg) hx hb hK hP (kk_Out (by decide)) (ce_Out (by decide)) 0 rfl (vin_of hi3) rfl dX8_meanOutput_15 ?_
      refine lv_iadd hx hb dX8_meanOutput_16 ?_
      refine lv_istore_n (lv' := [(1, .int (x1 + (σ (9+0) (x2.toNatClampNeg)))), (0, .ref (q (0))), (2, .int x2)]) hx hb dX8_meanOutput_17 rfl hl (by decide) rfl (fun ls hl => ?_)
      refine lv_iinc (v := x2 + (1 : Int32)) (lv' := [(2, .int (x2 + (1 : Int32))), (1, .int (x1 + (σ (9+0) (x2.toNatClampNeg)))), (0, .ref (q (0)))]) hx hb dX8_meanOutput_18 hl (k := 2) rfl rfl (by decide) rfl (fun ls hl => ?_)
      refine lv_goto (tgt := 4) hx hb dX8_meanOutput_21 (by decide) ?_
      exact ih _ _ _ _ _  hP hS _ (lv_sub hl [2, 1, 0] rfl) hp
def sX8_meanOutput_0 (σ : TS) : Option (UInt64 × TS) := sX8_meanOutput_4 5 ((0 : Int32)) ((0 : Int32)) σ
set_option maxHeartbeats 4000000 in
set_option maxRecDepth 100000 in
theorem kX8_meanOutput_0 {r : UInt64} {u : TS} (C0 : gC RX8 cX8_meanOutput 3 ((some .double)) wsX8_meanOutput p s m args meth c) (hK : va_K D vwCl (tyL cy) s) (hJ : gJ 78 q) {H : Heap} {locs : List Loc} {σ : TS} (hP : va_P D vwCl (gS 78 q (TX cy q) σ) H) (hS : va_S (gA 78 q) s.heap H locs) {ls : Array Slot} (hl : lv_has ls 3 [(0, .ref (q (0)))]) (hp : sX8_meanOutput_0 σ = some (r, u)) : W p l e rmX8_meanOutput s m args below meth c H locs 0 0 (MQ below (gQd D vwCl r (gS 78 q (TX cy q) u) (gA 78 q)) args s 0 0 (gA 78 q)) (F0 m 0 ls []) := by
  obtain ⟨hx, hb, hr, hml, hown, hts, hlocks⟩ := id C0
  unfold sX8_meanOutput_0 at hp
  refine lv_iconst (v := (0 : Int32)) hx hb dX8_meanOutput_0 (by decide) ?_
  refine lv_istore_n (lv' := [(1, .int ((0 : Int32))), (0, .ref (q (0)))]) hx hb dX8_meanOutput_1 rfl hl (by decide) rfl (fun ls hl => ?_)
  refine lv_iconst (v := (0 : Int32)) hx hb dX8_meanOutput_2 (by decide) ?_
  refine lv_istore_n (lv' := [(2, .int ((0 : Int32))), (1, .int ((0 : Int32))), (0, .ref (q (0)))]) hx hb dX8_meanOutput_3 rfl hl (by decide) rfl (fun ls hl => ?_)
  exact kX8_meanOutput_4 C0 hK hJ _ _ _ _ _ _  hP hS _ (lv_sub hl [2, 1, 0] rfl) hp
def sX8_meanOutput (σ : TS) : Option (UInt64 × TS) := sX8_meanOutput_0 σ
theorem nVX8_meanOutput : yX8_meanOutput.cls = RX8 ∧ yX8_meanOutput.cls ≠ "java/lang/invoke/MethodHandle" ∧ yX8_meanOutput.cls ≠ "java/lang/invoke/VarHandle" ∧ (parseMethodDescriptor yX8_meanOutput.desc).map (fun d => d.parameters.length) = some 0 := by decide +kernel
set_option maxHeartbeats 4000000 in
set_option maxRecDepth 100000 in
theorem mX8_meanOutput (l : Launch) (hJ : gJ 78 q) {σ : TS} {r : UInt64} {u : TS} (hp : sX8_meanOutput σ = some (r, u)) : Met l yX8_meanOutput wsX8_meanOutput rmX8_meanOutput (va_Pc [.ref (q (0))] (gPre D vwCl (tyL cy) (gS 78 q (TX cy q) σ))) (gQd D vwCl r (gS 78 q (TX cy q) u) (gA 78 q)) 0 0 (gA 78 q) := by
  refine Met.ofW (cc := cX8_meanOutput) (maxL := 3) (ret := (some .double)) (by decide +kernel) rfl ?_
  intro p e s m args below meth c s₁ B hml hv
  obtain ⟨rfl, hP, hK⟩ := hv
  have hl := lv_entry ([.ref (q (0))]) (n := 3) (Nat.le_of_ble_eq_true rfl)
  rw [lg_entry_eq]
  generalize (lg_sl ([.ref (q (0))]) ++ List.replicate (3 - (lg_sl ([.ref (q (0))])).length) Slot.unset).toArray = ls at hl ⊢
  have hl : lv_has ls 3 [(0, .ref (q (0)))] := hl
  exact kX8_meanOutput_0 ⟨B.exec, B.bytes, B.returns, hml, findClass_of_methodNamed B.named, atoms_spec (ws := wsX8_meanOutput) B.pre, B.notSynchronized⟩ hK hJ  hP va_S.rf hl hp
end

section
variable {p : Program} {l : Launch} {e : Env} {s : State} {m : MethodId} {args : Array Value} {below : List Frame} {meth : Method} {c : Code} {D : va_G} {cy : Nat → ClassId} {q : Nat → Nat}
theorem miX9_thrown_X9 : ∀ w ∈ u_ws RX9 TX9 44, w ∈ wsX9_thrown := by decide +kernel
theorem mwX9_thrown_0 : Cond.fieldLink RX9 130 "TriplaneModel" "thrown" "I" ∈ wsX9_thrown := by decide +kernel
abbrev rmX9_thrown : Room := { frames := 0, cells := 0, slots := 0, locals := 0 }
def sX9_thrown_0 (σ : TS) : Option (Int32 × TS) := some (σ 0 0, σ)
set_option maxHeartbeats 4000000 in
set_option maxRecDepth 100000 in
theorem kX9_thrown_0 {r : Int32} {u : TS} (C0 : gC RX9 cX9_thrown 1 ((some .int)) wsX9_thrown p s m args meth c) (hK : va_K D vwCl (tyL cy) s) (hJ : gJ 39 q) {H : Heap} {locs : List Loc} {σ : TS} (hP : va_P D vwCl (gS 39 q (MX cy q) σ) H) (hS : va_S (gA 39 q) s.heap H locs) {ls : Array Slot} (hl : lv_has ls 1 [(0, .ref (q (0)))]) (hp : sX9_thrown_0 σ = some (r, u)) : W p l e rmX9_thrown s m args below meth c H locs 0 0 (MQ below (gQi D vwCl r (gS 39 q (MX cy q) u) (gA 39 q)) args s 0 0 (gA 39 q)) (F0 m 0 ls []) := by
  obtain ⟨hx, hb, hr, hml, hown, hts, hlocks⟩ := id C0
  unfold sX9_thrown_0 at hp
  refine lv_aload_n hx hb dX9_thrown_0 rfl (lv_at hl 0 rfl) ?_
  refine g_get (v := .int (σ 0 0)) hx hb hts miX9_thrown_X9 hown hK hP (kk_Mod) (ce_Mod) rfl 0 (by decide) mwX9_thrown_0 rfl dX9_thrown_1 ?_
  obtain ⟨rfl, rfl⟩ := o_r hp
  exact W.iret (v := σ 0 0) hx hb hr (fun t ht hW => ⟨⟨σ 0 0, (), rfl, rfl, by subst ht; exact hP⟩, hS.F ht⟩) hS.2.2 dX9_thrown_4
def sX9_thrown (σ : TS) : Option (Int32 × TS) := sX9_thrown_0 σ
theorem nVX9_thrown : yX9_thrown.cls = RX9 ∧ yX9_thrown.cls ≠ "java/lang/invoke/MethodHandle" ∧ yX9_thrown.cls ≠ "java/lang/invoke/VarHandle" ∧ (parseMethodDescriptor yX9_thrown.desc).map (fun d => d.parameters.length) = some 0 := by decide +kernel
set_option maxHeartbeats 4000000 in
set_option maxRecDepth 100000 in
theorem mX9_thrown (l : Launch) (hJ : gJ 39 q) {σ : TS} {r : Int32} {u : TS} (hp : sX9_thrown σ = some (r, u)) : Met l yX9_thrown wsX9_thrown rmX9_thrown (va_Pc [.ref (q (0))] (gPre D vwCl (tyL cy) (gS 39 q (MX cy q) σ))) (gQi D vwCl r (gS 39 q (MX cy q) u) (gA 39 q)) 0 0 (gA 39 q) := by
  refine Met.ofW (cc := cX9_thrown) (maxL := 1) (ret := (some .int)) (by decide +kernel) rfl ?_
  intro p e s m args below meth c s₁ B hml hv
  obtain ⟨rfl, hP, hK⟩ := hv
  have hl := lv_entry ([.ref (q (0))]) (n := 1) (Nat.le_of_ble_eq_true rfl)
  rw [lg_entry_eq]
  generalize (lg_sl ([.ref (q (0))]) ++ List.replicate (1 - (lg_sl ([.ref (q (0))])).length) Slot.unset).toArray = ls at hl ⊢
  have hl : lv_has ls 1 [(0, .ref (q (0)))] := hl
  exact kX9_thrown_0 ⟨B.exec, B.bytes, B.returns, hml, findClass_of_methodNamed B.named, atoms_spec (ws := wsX9_thrown) B.pre, B.notSynchronized⟩ hK hJ  hP va_S.rf hl hp
abbrev rmX9_in : Room := { frames := 0, cells := 0, slots := 0, locals := 0 }
def sX9_in_15 (sx0 : Int32) (σ : TS) : Option (Int32 × TS) := (if zok sx0 = true then some (sx0, σ) else none)
set_option maxHeartbeats 4000000 in
set_option maxRecDepth 100000 in
theorem kX9_in_15 {r : Int32} {u : TS} (C0 : gC RX9 cX9_in 3 ((some .boolean)) wsX9_in p s m args meth c) (hK : va_K D vwCl (tyL cy) s) (hJ : gJ 39 q) {H : Heap} {locs : List Loc} {σ : TS} {sx0 : Int32} (hP : va_P D vwCl (gS 39 q (MX cy q) σ) H) (hS : va_S (gA 39 q) s.heap H locs) {ls : Array Slot} (hl : lv_has ls 3 []) (hp : sX9_in_15 sx0 σ = some (r, u)) : W p l e rmX9_in s m args below meth c H locs 0 0 (MQ below (gQi D vwCl r (gS 39 q (MX cy q) u) (gA 39 q)) args s 0 0 (gA 39 q)) (F0 m 15 ls [.int sx0]) := by
  obtain ⟨hx, hb, hr, hml, hown, hts, hlocks⟩ := id C0
  unfold sX9_in_15 at hp
  obtain ⟨hz1, hp⟩ := o_chk hp
  obtain ⟨rfl, rfl⟩ := o_r hp
  exact W.zret (v := sx0) hx hb hr (zok_n hz1).1 (fun t ht hW => ⟨⟨sx0, (), rfl, rfl, by subst ht; exact hP⟩, hS.F ht⟩) hS.2.2 dX9_in_15
def sX9_in_14 (σ : TS) : Option (Int32 × TS) := sX9_in_15 ((0 : Int32)) σ
set_option maxHeartbeats 4000000 in
set_option maxRecDepth 100000 in
theorem kX9_in_14 {r : Int32} {u : TS} (C0 : gC RX9 cX9_in 3 ((some .boolean)) wsX9_in p s m args meth c) (hK : va_K D vwCl (tyL cy) s) (hJ : gJ 39 q) {H : Heap} {locs : List Loc} {σ : TS} (hP : va_P D vwCl (gS 39 q (MX cy q) σ) H) (hS : va_S (gA 39 q) s.heap H locs) {ls : Array Slot} (hl : lv_has ls 3 []) (hp : sX9_in_14 σ = some (r, u)) : W p l e rmX9_in s m args below meth c H locs 0 0 (MQ below (gQi D vwCl r (gS 39 q (MX cy q) u) (gA 39 q)) args s 0 0 (gA 39 q)) (F0 m 14 ls []) := by
  obtain ⟨hx, hb, hr, hml, hown, hts, hlocks⟩ := id C0
  unfold sX9_in_14 at hp
  refine lv_iconst (v := (0 : Int32)) hx hb dX9_in_14 (by decide) ?_
  exact kX9_in_15 C0 hK hJ  hP hS hl hp
def sX9_in_0 (x0 : Int32) (x1 : Int32) (x2 : Int32) (σ : TS) : Option (Int32 × TS) := (if x0 < x1 then sX9_in_14 σ else (if x2 < x0 then sX9_in_14 σ else sX9_in_15 ((1 : Int32)) σ))
set_option maxHeartbeats 4000000 in
set_option maxRecDepth 100000 in
theorem kX9_in_0 {r : Int32} {u : TS} (C0 : gC RX9 cX9_in 3 ((some .boolean)) wsX9_in p s m args meth c) (hK : va_K D vwCl (tyL cy) s) (hJ : gJ 39 q) {H : Heap} {locs : List Loc} {σ : TS} {x0 : Int32} {x1 : Int32} {x2 : Int32} (hP : va_P D vwCl (gS 39 q (MX cy q) σ) H) (hS : va_S (gA 39 q) s.heap H locs) {ls : Array Slot} (hl : lv_has ls 3 [(0, .int x0), (1, .int x1), (2, .int x2)]) (hp : sX9_in_0 x0 x1 x2 σ = some (r, u)) : W p l e rmX9_in s m args below meth c H locs 0 0 (MQ below (gQi D vwCl r (gS 39 q (MX cy q) u) (gA 39 q)) args s 0 0 (gA 39 q)) (F0 m 0 ls []) := by
  obtain ⟨hx, hb, hr, hml, hown, hts, hlocks⟩ := id C0
  unfold sX9_in_0 at hp
  refine lv_iload_n hx hb dX9_in_0 rfl (lv_at hl 0 rfl) ?_
  refine lv_iload_n hx hb dX9_in_1 rfl (lv_at hl 1 rfl) ?_
  refine lv_icmp_lt (tgt := 14) hx hb dX9_in_2 (by decide) (fun hcd2 => ?_) (fun hcd2 => ?_)
  · have hp := o_t hp hcd2
    exact kX9_in_14 C0 hK hJ  hP hS (lv_sub hl [] rfl) hp
  · have hp := o_f hp hcd2
    refine lv_iload_n hx hb dX9_in_5 rfl (lv_at hl 0 rfl) ?_
    refine lv_iload_n hx hb dX9_in_6 rfl (lv_at hl 2 rfl) ?_
    refine lv_icmp_gt (tgt := 14) hx hb dX9_in_7 (by decide) (fun hcd3 => ?_) (fun hcd3 => ?_)
    · have hp := o_t hp hcd3
      exact kX9_in_14 C0 hK hJ  hP hS (lv_sub hl [] rfl) hp
    · have hp := o_f hp hcd3
      refine lv_iconst (v := (1 : Int32)) hx hb dX9_in_10 (by decide) ?_
      refine lv_goto (tgt := 15) hx hb dX9_in_11 (by decide) ?_
      exact kX9_in_15 C0 hK hJ  hP hS (lv_sub hl [] rfl) hp
def sX9_in (x0 : Int32) (x1 : Int32) (x2 : Int32) (σ : TS) : Option (Int32 × TS) := sX9_in_0 x0 x1 x2 σ
theorem nVX9_in : yX9_in.cls ≠ "java/lang/invoke/MethodHandle" ∧ yX9_in.cls ≠ "java/lang/invoke/VarHandle" ∧ (parseMethodDescriptor yX9_in.desc).map (fun d => d.parameters.length) = some 3 := by decide +kernel
set_option maxHeartbeats 4000000 in
set_option maxRecDepth 100000 in
theorem mX9_in (l : Launch) (hJ : gJ 39 q) {x0 : Int32} {x1 : Int32} {x2 : Int32} {σ : TS} {r : Int32} {u : TS} (hp : sX9_in x0 x1 x2 σ = some (r, u)) : Met l yX9_in wsX9_in rmX9_in (va_Pc [.int x0, .int x1, .int x2] (gPre D vwCl (tyL cy) (gS 39 q (MX cy q) σ))) (gQi D vwCl r (gS 39 q (MX cy q) u) (gA 39 q)) 0 0 (gA 39 q) := by
  refine Met.ofW (cc := cX9_in) (maxL := 3) (ret := (some .boolean)) (by decide +kernel) rfl ?_
  intro p e s m args below meth c s₁ B hml hv
  obtain ⟨rfl, hP, hK⟩ := hv
  have hl := lv_entry ([.int x0, .int x1, .int x2]) (n := 3) (Nat.le_of_ble_eq_true rfl)
  rw [lg_entry_eq]
  generalize (lg_sl ([.int x0, .int x1, .int x2]) ++ List.replicate (3 - (lg_sl ([.int x0, .int x1, .int x2])).length) Slot.unset).toArray = ls at hl ⊢
  have hl : lv_has ls 3 [(0, .int x0), (1, .int x1), (2, .int x2)] := hl
  exact kX9_in_0 ⟨B.exec, B.bytes, B.returns, hml, findClass_of_methodNamed B.named, atoms_spec (ws := wsX9_in) B.pre, B.notSynchronized⟩ hK hJ  hP va_S.rf hl hp
abbrev rmX9_greater : Room := { frames := 0, cells := 0, slots := 0, locals := 0 }
def sX9_greater_10 (sx0 : Int32) (σ : TS) : Option (Int32 × TS) := some (sx0, σ)
set_option maxHeartbeats 4000000 in
set_option maxRecDepth 100000 in
theorem kX9_greater_10 {r : Int32} {u : TS} (C0 : gC RX9 cX9_greater 2 ((some .int)) wsX9_greater p s m args meth c) (hK : va_K D vwCl (tyL cy) s) (hJ : gJ 39 q) {H : Heap} {locs : List Loc} {σ : TS} {sx0 : Int32} (hP : va_P D vwCl (gS 39 q (MX cy q) σ) H) (hS : va_S (gA 39 q) s.heap H locs) {ls : Array Slot} (hl : lv_has ls 2 []) (hp : sX9_greater_10 sx0 σ = some (r, u)) : W p l e rmX9_greater s m args below meth c H locs 0 0 (MQ below (gQi D vwCl r (gS 39 q (MX cy q) u) (gA 39 q)) args s 0 0 (gA 39 q)) (F0 m 10 ls [.int sx0]) := by
  obtain ⟨hx, hb, hr, hml, hown, hts, hlocks⟩ := id C0
  unfold sX9_greater_10 at hp
  obtain ⟨rfl, rfl⟩ := o_r hp
  exact W.iret (v := sx0) hx hb hr (fun t ht hW => ⟨⟨sx0, (), rfl, rfl, by subst ht; exact hP⟩, hS.F ht⟩) hS.2.2 dX9_greater_10
def sX9_greater_0 (x0 : Int32) (x1 : Int32) (σ : TS) : Option (Int32 × TS) := (if x0 ≤ x1 then sX9_greater_10 x1 σ else sX9_greater_10 x0 σ)
set_option maxHeartbeats 4000000 in
set_option maxRecDepth 100000 in
theorem kX9_greater_0 {r : Int32} {u : TS} (C0 : gC RX9 cX9_greater 2 ((some .int)) wsX9_greater p s m args meth c) (hK : va_K D vwCl (tyL cy) s) (hJ : gJ 39 q) {H : Heap} {locs : List Loc} {σ : TS} {x0 : Int32} {x1 : Int32} (hP : va_P D vwCl (gS 39 q (MX cy q) σ) H) (hS : va_S (gA 39 q) s.heap H locs) {ls : Array Slot} (hl : lv_has ls 2 [(0, .int x0), (1, .int x1)]) (hp : sX9_greater_0 x0 x1 σ = some (r, u)) : W p l e rmX9_greater s m args below meth c H locs 0 0 (MQ below (gQi D vwCl r (gS 39 q (MX cy q) u) (gA 39 q)) args s 0 0 (gA 39 q)) (F0 m 0 ls []) := by
  obtain ⟨hx, hb, hr, hml, hown, hts, hlocks⟩ := id C0
  unfold sX9_greater_0 at hp
  refine lv_iload_n hx hb dX9_greater_0 rfl (lv_at hl 0 rfl) ?_
  refine lv_iload_n hx hb dX9_greater_1 rfl (lv_at hl 1 rfl) ?_
  refine lv_icmp_le (tgt := 9) hx hb dX9_greater_2 (by decide) (fun hcd1 => ?_) (fun hcd1 => ?_)
  · have hp := o_t hp hcd1
    refine lv_iload_n hx hb dX9_greater_9 rfl (lv_at hl 1 rfl) ?_
    exact kX9_greater_10 C0 hK hJ  hP hS (lv_sub hl [] rfl) hp
  · have hp := o_f hp hcd1
    refine lv_iload_n hx hb dX9_greater_5 rfl (lv_at hl 0 rfl) ?_
    refine lv_goto (tgt := 10) hx hb dX9_greater_6 (by decide) ?_
    exact kX9_greater_10 C0 hK hJ  hP hS (lv_sub hl [] rfl) hp
def sX9_greater (x0 : Int32) (x1 : Int32) (σ : TS) : Option (Int32 × TS) := sX9_greater_0 x0 x1 σ
theorem nVX9_greater : yX9_greater.cls ≠ "java/lang/invoke/MethodHandle" ∧ yX9_greater.cls ≠ "java/lang/invoke/VarHandle" ∧ (parseMethodDescriptor yX9_greater.desc).map (fun d => d.parameters.length) = some 2 := by decide +kernel
set_option maxHeartbeats 4000000 in
set_option maxRecDepth 100000 in
theorem mX9_greater (l : Launch) (hJ : gJ 39 q) {x0 : Int32} {x1 : Int32} {σ : TS} {r : Int32} {u : TS} (hp : sX9_greater x0 x1 σ = some (r, u)) : Met l yX9_greater wsX9_greater rmX9_greater (va_Pc [.int x0, .int x1] (gPre D vwCl (tyL cy) (gS 39 q (MX cy q) σ))) (gQi D vwCl r (gS 39 q (MX cy q) u) (gA 39 q)) 0 0 (gA 39 q) := by
  refine Met.ofW (cc := cX9_greater) (maxL := 2) (ret := (some .int)) (by decide +kernel) rfl ?_
  intro p e s m args below meth c s₁ B hml hv
  obtain ⟨rfl, hP, hK⟩ := hv
  have hl := lv_entry ([.int x0, .int x1]) (n := 2) (Nat.le_of_ble_eq_true rfl)
  rw [lg_entry_eq]
  generalize (lg_sl ([.int x0, .int x1]) ++ List.replicate (2 - (lg_sl ([.int x0, .int x1])).length) Slot.unset).toArray = ls at hl ⊢
  have hl : lv_has ls 2 [(0, .int x0), (1, .int x1)] := hl
  exact kX9_greater_0 ⟨B.exec, B.bytes, B.returns, hml, findClass_of_methodNamed B.named, atoms_spec (ws := wsX9_greater) B.pre, B.notSynchronized⟩ hK hJ  hP va_S.rf hl hp
abbrev rmX9_lesser : Room := { frames := 0, cells := 0, slots := 0, locals := 0 }
def sX9_lesser_10 (sx0 : Int32) (σ : TS) : Option (Int32 × TS) := some (sx0, σ)
set_option maxHeartbeats 4000000 in
set_option maxRecDepth 100000 in
theorem kX9_lesser_10 {r : Int32} {u : TS} (C0 : gC RX9 cX9_lesser 2 ((some .int)) wsX9_lesser p s m args meth c) (hK : va_K D vwCl (tyL cy) s) (hJ : gJ 39 q) {H : Heap} {locs : List Loc} {σ : TS} {sx0 : Int32} (hP : va_P D vwCl (gS 39 q (MX cy q) σ) H) (hS : va_S (gA 39 q) s.heap H locs) {ls : Array Slot} (hl : lv_has ls 2 []) (hp : sX9_lesser_10 sx0 σ = some (r, u)) : W p l e rmX9_lesser s m args below meth c H locs 0 0 (MQ below (gQi D vwCl r (gS 39 q (MX cy q) u) (gA 39 q)) args s 0 0 (gA 39 q)) (F0 m 10 ls [.int sx0]) := by
  obtain ⟨hx, hb, hr, hml, hown, hts, hlocks⟩ := id C0
  unfold sX9_lesser_10 at hp
  obtain ⟨rfl, rfl⟩ := o_r hp
  exact W.iret (v := sx0) hx hb hr (fun t ht hW => ⟨⟨sx0, (), rfl, rfl, by subst ht; exact hP⟩, hS.F ht⟩) hS.2.2 dX9_lesser_10
def sX9_lesser_0 (x0 : Int32) (x1 : Int32) (σ : TS) : Option (Int32 × TS) := (if x1 ≤ x0 then sX9_lesser_10 x1 σ else sX9_lesser_10 x0 σ)
set_option maxHeartbeats 4000000 in
set_option maxRecDepth 100000 in
theorem kX9_lesser_0 {r : Int32} {u : TS} (C0 : gC RX9 cX9_lesser 2 ((some .int)) wsX9_lesser p s m args meth c) (hK : va_K D vwCl (tyL cy) s) (hJ : gJ 39 q) {H : Heap} {locs : List Loc} {σ : TS} {x0 : Int32} {x1 : Int32} (hP : va_P D vwCl (gS 39 q (MX cy q) σ) H) (hS : va_S (gA 39 q) s.heap H locs) {ls : Array Slot} (hl : lv_has ls 2 [(0, .int x0), (1, .int x1)]) (hp : sX9_lesser_0 x0 x1 σ = some (r, u)) : W p l e rmX9_lesser s m args below meth c H locs 0 0 (MQ below (gQi D vwCl r (gS 39 q (MX cy q) u) (gA 39 q)) args s 0 0 (gA 39 q)) (F0 m 0 ls []) := by
  obtain ⟨hx, hb, hr, hml, hown, hts, hlocks⟩ := id C0
  unfold sX9_lesser_0 at hp
  refine lv_iload_n hx hb dX9_lesser_0 rfl (lv_at hl 0 rfl) ?_
  refine lv_iload_n hx hb dX9_lesser_1 rfl (lv_at hl 1 rfl) ?_
  refine lv_icmp_ge (tgt := 9) hx hb dX9_lesser_2 (by decide) (fun hcd1 => ?_) (fun hcd1 => ?_)
  · have hp := o_t hp hcd1
    refine lv_iload_n hx hb dX9_lesser_9 rfl (lv_at hl 1 rfl) ?_
    exact kX9_lesser_10 C0 hK hJ  hP hS (lv_sub hl [] rfl) hp
  · have hp := o_f hp hcd1
    refine lv_iload_n hx hb dX9_lesser_5 rfl (lv_at hl 0 rfl) ?_
    refine lv_goto (tgt := 10) hx hb dX9_lesser_6 (by decide) ?_
    exact kX9_lesser_10 C0 hK hJ  hP hS (lv_sub hl [] rfl) hp
def sX9_lesser (x0 : Int32) (x1 : Int32) (σ : TS) : Option (Int32 × TS) := sX9_lesser_0 x0 x1 σ
theorem nVX9_lesser : yX9_lesser.cls ≠ "java/lang/invoke/MethodHandle" ∧ yX9_lesser.cls ≠ "java/lang/invoke/VarHandle" ∧ (parseMethodDescriptor yX9_lesser.desc).map (fun d => d.parameters.length) = some 2 := by decide +kernel
set_option maxHeartbeats 4000000 in
set_option maxRecDepth 100000 in
theorem mX9_lesser (l : Launch) (hJ : gJ 39 q) {x0 : Int32} {x1 : Int32} {σ : TS} {r : Int32} {u : TS} (hp : sX9_lesser x0 x1 σ = some (r, u)) : Met l yX9_lesser wsX9_lesser rmX9_lesser (va_Pc [.int x0, .int x1] (gPre D vwCl (tyL cy) (gS 39 q (MX cy q) σ))) (gQi D vwCl r (gS 39 q (MX cy q) u) (gA 39 q)) 0 0 (gA 39 q) := by
  refine Met.ofW (cc := cX9_lesser) (maxL := 2) (ret := (some .int)) (by decide +kernel) rfl ?_
  intro p e s m args below meth c s₁ B hml hv
  obtain ⟨rfl, hP, hK⟩ := hv
  have hl := lv_entry ([.int x0, .int x1]) (n := 2) (Nat.le_of_ble_eq_true rfl)
  rw [lg_entry_eq]
  generalize (lg_sl ([.int x0, .int x1]) ++ List.replicate (2 - (lg_sl ([.int x0, .int x1])).length) Slot.unset).toArray = ls at hl ⊢
  have hl : lv_has ls 2 [(0, .int x0), (1, .int x1)] := hl
  exact kX9_lesser_0 ⟨B.exec, B.bytes, B.returns, hml, findClass_of_methodNamed B.named, atoms_spec (ws := wsX9_lesser) B.pre, B.notSynchronized⟩ hK hJ  hP va_S.rf hl hp
abbrev rmX9_middle : Room := { frames := 1, cells := 0, slots := 0, locals := 21 }
def sX9_middle_17 (sx0 : Int32) (σ : TS) : Option (Int32 × TS) := some (sx0, σ)
set_option maxHeartbeats 4000000 in
set_option maxRecDepth 100000 in
theorem kX9_middle_17 {r : Int32} {u : TS} (C0 : gC RX9 cX9_middle 3 ((some .int)) wsX9_middle p s m args meth c) (hK : va_K D vwCl (tyL cy) s) (hJ : gJ 39 q) {H : Heap} {locs : List Loc} {σ : TS} {sx0 : Int32} (hP : va_P D vwCl (gS 39 q (MX cy q) σ) H) (hS : va_S (gA 39 q) s.heap H locs) {ls : Array Slot} (hl : lv_has ls 3 []) (hp : sX9_middle_17 sx0 σ = some (r, u)) : W p l e rmX9_middle s m args below meth c H locs 0 0 (MQ below (gQi D vwCl r (gS 39 q (MX cy q) u) (gA 39 q)) args s 0 0 (gA 39 q)) (F0 m 17 ls [.int sx0]) := by
  obtain ⟨hx, hb, hr, hml, hown, hts, hlocks⟩ := id C0
  unfold sX9_middle_17 at hp
  obtain ⟨rfl, rfl⟩ := o_r hp
  exact W.iret (v := sx0) hx hb hr (fun t ht hW => ⟨⟨sx0, (), rfl, rfl, by subst ht; exact hP⟩, hS.F ht⟩) hS.2.2 dX9_middle_17
def sX9_middle_14 (sx0 : Int32) (sx1 : Int32) (σ : TS) : Option (Int32 × TS) := ((sX9_greater sx0 sx1 σ).bind (fun z => sX9_middle_17 z.1 z.2))
set_option maxHeartbeats 4000000 in
set_option maxRecDepth 100000 in
theorem kX9_middle_14 {r : Int32} {u : TS} (C0 : gC RX9 cX9_middle 3 ((some .int)) wsX9_middle p s m args meth c) (hK : va_K D vwCl (tyL cy) s) (hJ : gJ 39 q) {H : Heap} {locs : List Loc} {σ : TS} {sx0 : Int32} {sx1 : Int32} (hP : va_P D vwCl (gS 39 q (MX cy q) σ) H) (hS : va_S (gA 39 q) s.heap H locs) {ls : Array Slot} (hl : lv_has ls 3 []) (hp : sX9_middle_14 sx0 sx1 σ = some (r, u)) : W p l e rmX9_middle s m args below meth c H locs 0 0 (MQ below (gQi D vwCl r (gS 39 q (MX cy q) u) (gA 39 q)) args s 0 0 (gA 39 q)) (F0 m 14 ls [.int sx1, .int sx0]) := by
  obtain ⟨hx, hb, hr, hml, hown, hts, hlocks⟩ := id C0
  unfold sX9_middle_14 at hp
  obtain ⟨⟨r1, u2⟩, hq3, hp⟩ := o_b hp
  refine g_cSi (As := [.int sx0, .int sx1]) (rest := []) hx hb hml hown hts hK hP hS (mX9_greater l hJ hq3) (va_cwS 2 hts gX9_middle_X9_greater rfl rfl rfl nVX9_greater ⟨Nat.le_of_ble_eq_true rfl, Nat.le_of_ble_eq_true rfl⟩) rfl hl.1 rfl (Nat.le_of_ble_eq_true rfl) dX9_middle_14 ⟨Nat.le_of_ble_eq_true rfl, Nat.le_of_ble_eq_true rfl⟩ (fun H locs hP hS => ?_)
  exact kX9_middle_17 C0 hK hJ  hP hS hl hp
def sX9_middle_10 (x2 : Int32) (sx0 : Int32) (sx1 : Int32) (σ : TS) : Option (Int32 × TS) := ((sX9_lesser sx1 x2 σ).bind (fun z => sX9_middle_14 sx0 z.1 z.2))
set_option maxHeartbeats 4000000 in
set_option maxRecDepth 100000 in
theorem kX9_middle_10 {r : Int32} {u : TS} (C0 : gC RX9 cX9_middle 3 ((some .int)) wsX9_middle p s m args meth c) (hK : va_K D vwCl (tyL cy) s) (hJ : gJ 39 q) {H : Heap} {locs : List Loc} {σ : TS} {x2 : Int32} {sx0 : Int32} {sx1 : Int32} (hP : va_P D vwCl (gS 39 q (MX cy q) σ) H) (hS : va_S (gA 39 q) s.heap H locs) {ls : Array Slot} (hl : lv_has ls 3 [(2, .int x2)]) (hp : sX9_middle_10 x2 sx0 sx1 σ = some (r, u)) : W p l e rmX9_middle s m args below meth c H locs 0 0 (MQ below (gQi D vwCl r (gS 39 q (MX cy q) u) (gA 39 q)) args s 0 0 (gA 39 q)) (F0 m 10 ls [.int sx1, .int sx0]) := by
  obtain ⟨hx, hb, hr, hml, hown, hts, hlocks⟩ := id C0
  unfold sX9_middle_10 at hp
  refine lv_iload_n hx hb dX9_middle_10 rfl (lv_at hl 0 rfl) ?_
  obtain ⟨⟨r4, u5⟩, hq6, hp⟩ := o_b hp
  refine g_cSi (As := [.int sx1, .int x2]) (rest := [.int sx0]) hx hb hml hown hts hK hP hS (mX9_lesser l hJ hq6) (va_cwS 2 hts gX9_middle_X9_lesser rfl rfl rfl nVX9_lesser ⟨Nat.le_of_ble_eq_true rfl, Nat.le_of_ble_eq_true rfl⟩) rfl hl.1 rfl (Nat.le_of_ble_eq_true rfl) dX9_middle_11 ⟨Nat.le_of_ble_eq_true rfl, Nat.le_of_ble_eq_true rfl⟩ (fun H locs hP hS => ?_)
  exact kX9_middle_14 C0 hK hJ  hP hS (lv_sub hl [] rfl) hp
def sX9_middle_5 (x0 : Int32) (x1 : Int32) (x2 : Int32) (sx0 : Int32) (σ : TS) : Option (Int32 × TS) := ((sX9_greater x0 x1 σ).bind (fun z => sX9_middle_10 x2 sx0 z.1 z.2))
set_option maxHeartbeats 4000000 in
set_option maxRecDepth 100000 in
theorem kX9_middle_5 {r : Int32} {u : TS} (C0 : gC RX9 cX9_middle 3 ((some .int)) wsX9_middle p s m args meth c) (hK : va_K D vwCl (tyL cy) s) (hJ : gJ 39 q) {H : Heap} {locs : List Loc} {σ : TS} {x0 : Int32} {x1 : Int32} {x2 : Int32} {sx0 : Int32} (hP : va_P D vwCl (gS 39 q (MX cy q) σ) H) (hS : va_S (gA 39 q) s.heap H locs) {ls : Array Slot} (hl : lv_has ls 3 [(0, .int x0), (1, .int x1), (2, .int x2)]) (hp : sX9_middle_5 x0 x1 x2 sx0 σ = some (r, u)) : W p l e rmX9_middle s m args below meth c H locs 0 0 (MQ below (gQi D vwCl r (gS 39 q (MX cy q) u) (gA 39 q)) args s 0 0 (gA 39 q)) (F0 m 5 ls [.int sx0]) := by
  obtain ⟨hx, hb, hr, hml, hown, hts, hlocks⟩ := id C0
  unfold sX9_middle_5 at hp
  refine lv_iload_n hx hb dX9_middle_5 rfl (lv_at hl 0 rfl) ?_
  refine lv_iload_n hx hb dX9_middle_6 rfl (lv_at hl 1 rfl) ?_
  obtain ⟨⟨r7, u8⟩, hq9, hp⟩ := o_b hp
  refine g_cSi (As := [.int x0, .int x1]) (rest := [.int sx0]) hx hb hml hown hts hK hP hS (mX9_greater l hJ hq9) (va_cwS 2 hts gX9_middle_X9_greater rfl rfl rfl nVX9_greater ⟨Nat.le_of_ble_eq_true rfl, Nat.le_of_ble_eq_true rfl⟩) rfl hl.1 rfl (Nat.le_of_ble_eq_true rfl) dX9_middle_7 ⟨Nat.le_of_ble_eq_true rfl, Nat.le_of_ble_eq_true rfl⟩ (fun H locs hP hS => ?_)
  exact kX9_middle_10 C0 hK hJ  hP hS (lv_sub hl [2] rfl) hp
def sX9_middle_0 (x0 : Int32) (x1 : Int32) (x2 : Int32) (σ : TS) : Option (Int32 × TS) := ((sX9_lesser x0 x1 σ).bind (fun z => sX9_middle_5 x0 x1 x2 z.1 z.2))
set_option maxHeartbeats 4000000 in
set_option maxRecDepth 100000 in
theorem kX9_middle_0 {r : Int32} {u : TS} (C0 : gC RX9 cX9_middle 3 ((some .int)) wsX9_middle p s m args meth c) (hK : va_K D vwCl (tyL cy) s) (hJ : gJ 39 q) {H : Heap} {locs : List Loc} {σ : TS} {x0 : Int32} {x1 : Int32} {x2 : Int32} (hP : va_P D vwCl (gS 39 q (MX cy q) σ) H) (hS : va_S (gA 39 q) s.heap H locs) {ls : Array Slot} (hl : lv_has ls 3 [(0, .int x0), (1, .int x1), (2, .int x2)]) (hp : sX9_middle_0 x0 x1 x2 σ = some (r, u)) : W p l e rmX9_middle s m args below meth c H locs 0 0 (MQ below (gQi D vwCl r (gS 39 q (MX cy q) u) (gA 39 q)) args s 0 0 (gA 39 q)) (F0 m 0 ls []) := by
  obtain ⟨hx, hb, hr, hml, hown, hts, hlocks⟩ := id C0
  unfold sX9_middle_0 at hp
  refine lv_iload_n hx hb dX9_middle_0 rfl (lv_at hl 0 rfl) ?_
  refine lv_iload_n hx hb dX9_middle_1 rfl (lv_at hl 1 rfl) ?_
  obtain ⟨⟨r10, u11⟩, hq12, hp⟩ := o_b hp
  refine g_cSi (As := [.int x0, .int x1]) (rest := []) hx hb hml hown hts hK hP hS (mX9_lesser l hJ hq12) (va_cwS 2 hts gX9_middle_X9_lesser rfl rfl rfl nVX9_lesser ⟨Nat.le_of_ble_eq_true rfl, Nat.le_of_ble_eq_true rfl⟩) rfl hl.1 rfl (Nat.le_of_ble_eq_true rfl) dX9_middle_2 ⟨Nat.le_of_ble_eq_true rfl, Nat.le_of_ble_eq_true rfl⟩ (fun H locs hP hS => ?_)
  exact kX9_middle_5 C0 hK hJ  hP hS hl hp
def sX9_middle (x0 : Int32) (x1 : Int32) (x2 : Int32) (σ : TS) : Option (Int32 × TS) := sX9_middle_0 x0 x1 x2 σ
theorem nVX9_middle : yX9_middle.cls ≠ "java/lang/invoke/MethodHandle" ∧ yX9_middle.cls ≠ "java/lang/invoke/VarHandle" ∧ (parseMethodDescriptor yX9_middle.desc).map (fun d => d.parameters.length) = some 3 := by decide +kernel
set_option maxHeartbeats 4000000 in
set_option maxRecDepth 100000 in
theorem mX9_middle (l : Launch) (hJ : gJ 39 q) {x0 : Int32} {x1 : Int32} {x2 : Int32} {σ : TS} {r : Int32} {u : TS} (hp : sX9_middle x0 x1 x2 σ = some (r, u)) : Met l yX9_middle wsX9_middle rmX9_middle (va_Pc [.int x0, .int x1, .int x2] (gPre D vwCl (tyL cy) (gS 39 q (MX cy q) σ))) (gQi D vwCl r (gS 39 q (MX cy q) u) (gA 39 q)) 0 0 (gA 39 q) := by
  refine Met.ofW (cc := cX9_middle) (maxL := 3) (ret := (some .int)) (by decide +kernel) rfl ?_
  intro p e s m args below meth c s₁ B hml hv
  obtain ⟨rfl, hP, hK⟩ := hv
  have hl := lv_entry ([.int x0, .int x1, .int x2]) (n := 3) (Nat.le_of_ble_eq_true rfl)
  rw [lg_entry_eq]
  generalize (lg_sl ([.int x0, .int x1, .int x2]) ++ List.replicate (3 - (lg_sl ([.int x0, .int x1, .int x2])).length) Slot.unset).toArray = ls at hl ⊢
  have hl : lv_has ls 3 [(0, .int x0), (1, .int x1), (2, .int x2)] := hl
  exact kX9_middle_0 ⟨B.exec, B.bytes, B.returns, hml, findClass_of_methodNamed B.named, atoms_spec (ws := wsX9_middle) B.pre, B.notSynchronized⟩ hK hJ  hP va_S.rf hl hp
abbrev rmX9_round : Room := { frames := 0, cells := 0, slots := 0, locals := 0 }
def sX9_round_0 (x0 : Int32) (σ : TS) : Option (Int32 × TS) := some (x0.toInt16.toInt32, σ)
set_option maxHeartbeats 4000000 in
set_option maxRecDepth 100000 in
theorem kX9_round_0 {r : Int32} {u : TS} (C0 : gC RX9 cX9_round 1 ((some .int)) wsX9_round p s m args meth c) (hK : va_K D vwCl (tyL cy) s) (hJ : gJ 39 q) {H : Heap} {locs : List Loc} {σ : TS} {x0 : Int32} (hP : va_P D vwCl (gS 39 q (MX cy q) σ) H) (hS : va_S (gA 39 q) s.heap H locs) {ls : Array Slot} (hl : lv_has ls 1 [(0, .int x0)]) (hp : sX9_round_0 x0 σ = some (r, u)) : W p l e rmX9_round s m args below meth c H locs 0 0 (MQ below (gQi D vwCl r (gS 39 q (MX cy q) u) (gA 39 q)) args s 0 0 (gA 39 q)) (F0 m 0 ls []) := by
  obtain ⟨hx, hb, hr, hml, hown, hts, hlocks⟩ := id C0
  unfold sX9_round_0 at hp
  refine lv_iload_n hx hb dX9_round_0 rfl (lv_at hl 0 rfl) ?_
  refine lv_i2s hx hb dX9_round_1 rfl ?_
  obtain ⟨rfl, rfl⟩ := o_r hp
  exact W.iret (v := x0.toInt16.toInt32) hx hb hr (fun t ht hW => ⟨⟨x0.toInt16.toInt32, (), rfl, rfl, by subst ht; exact hP⟩, hS.F ht⟩) hS.2.2 dX9_round_2
def sX9_round (x0 : Int32) (σ : TS) : Option (Int32 × TS) := sX9_round_0 x0 σ
theorem nVX9_round : yX9_round.cls ≠ "java/lang/invoke/MethodHandle" ∧ yX9_round.cls ≠ "java/lang/invoke/VarHandle" ∧ (parseMethodDescriptor yX9_round.desc).map (fun d => d.parameters.length) = some 1 := by decide +kernel
set_option maxHeartbeats 4000000 in
set_option maxRecDepth 100000 in
theorem mX9_round (l : Launch) (hJ : gJ 39 q) {x0 : Int32} {σ : TS} {r : Int32} {u : TS} (hp : sX9_round x0 σ = some (r, u)) : Met l yX9_round wsX9_round rmX9_round (va_Pc [.int x0] (gPre D vwCl (tyL cy) (gS 39 q (MX cy q) σ))) (gQi D vwCl r (gS 39 q (MX cy q) u) (gA 39 q)) 0 0 (gA 39 q) := by
  refine Met.ofW (cc := cX9_round) (maxL := 1) (ret := (some .int)) (by decide +kernel) rfl ?_
  intro p e s m args below meth c s₁ B hml hv
  obtain ⟨rfl, hP, hK⟩ := hv
  have hl := lv_entry ([.int x0]) (n := 1) (Nat.le_of_ble_eq_true rfl)
  rw [lg_entry_eq]
  generalize (lg_sl ([.int x0]) ++ List.replicate (1 - (lg_sl ([.int x0])).length) Slot.unset).toArray = ls at hl ⊢
  have hl : lv_has ls 1 [(0, .int x0)] := hl
  exact kX9_round_0 ⟨B.exec, B.bytes, B.returns, hml, findClass_of_methodNamed B.named, atoms_spec (ws := wsX9_round) B.pre, B.notSynchronized⟩ hK hJ  hP va_S.rf hl hp
abbrev rmX9_ones : Room := { frames := 0, cells := 0, slots := 0, locals := 0 }
def sX9_ones_4 : Nat → Int32 → Int32 → Int32 → TS → Option (Int32 × TS)
  | 0, _, _, _, _ => none
  | n + 1, x0, x1, x2, σ => (if ((16 : Int32)) ≤ x2 then some (x1, σ) else sX9_ones_4 n x0 (x1 + ((x0 >>> (x2 &&& 31)) &&& ((1 : Int32)))) (x2 + (1 : Int32)) σ)
set_option maxHeartbeats 4000000 in
set_option maxRecDepth 100000 in
theorem kX9_ones_4 {r : Int32} {u : TS} (C0 : gC RX9 cX9_ones 3 ((some .int)) wsX9_ones p s m args meth c) (hK : va_K D vwCl (tyL cy) s) (hJ : gJ 39 q) : ∀ (n : Nat) (H : Heap) (locs : List Loc) (σ : TS) (x0 : Int32) (x1 : Int32) (x2 : Int32) (hP : va_P D vwCl (gS 39 q (MX cy q) σ) H) (hS : va_S (gA 39 q) s.heap H locs) (ls : Array Slot) (hl : lv_has ls 3 [(0, .int x0), (1, .int x1), (2, .int x2)]) (hp : sX9_ones_4 n x0 x1 x2 σ = some (r, u)), W p l e rmX9_ones s m args below meth c H locs 0 0 (MQ below (gQi D vwCl r (gS 39 q (MX cy q) u) (gA 39 q)) args s 0 0 (gA 39 q)) (F0 m 4 ls []) := by
  obtain ⟨hx, hb, hr, hml, hown, hts, hlocks⟩ := id C0
  intro n
  induction n with
  | zero =>
    intro H locs σ x0 x1 x2 hP hS ls hl hp
    cases hp
  | succ n ih =>
    intro H locs σ x0 x1 x2 hP hS ls hl hp
    unfold sX9_ones_4 at hp
    refine lv_iload_n hx hb dX9_ones_4 rfl (lv_at hl 2 rfl) ?_
    refine lv_bipush (v := (16 : Int32)) hx hb dX9_ones_5 (by decide) ?_
    refine lv_icmp_ge (tgt := 24) hx hb dX9_ones_7 (by decide) (fun hcd1 => ?_) (fun hcd1 => ?_)
    · have hp := o_t hp hcd1
      refine lv_iload_n hx hb dX9_ones_24 rfl (lv_at hl 1 rfl) ?_
      obtain ⟨rfl, rfl⟩ := o_r hp
      exact W.iret (v := x1) hx hb hr (fun t ht hW => ⟨⟨x1, (), rfl, rfl, by subst ht; exact hP⟩, hS.F ht⟩) hS.2.2 dX9_ones_25
    · have hp := o_f hp hcd1
      refine lv_iload_n hx hb dX9_ones_10 rfl (lv_at hl 1 rfl) ?_
      refine lv_iload_n hx hb dX9_ones_11 rfl (lv_at hl 0 rfl) ?_
      refine lv_iload_n hx hb dX9_ones_12 rfl (lv_at hl 2 rfl) ?_
      refine lv_ishr hx hb dX9_ones_13 ?_
      refine lv_iconst (v := (1 : Int32)) hx hb dX9_ones_14 (by decide) ?_
      refine lv_iand hx hb dX9_ones_15 ?_
      refine lv_iadd hx hb dX9_ones_16 ?_
      refine lv_istore_n (lv' := [(1, .int (x1 + ((x0 >>> (x2 &&& 31)) &&& ((1 : Int32))))), (0, .int x0), (2, .int x2)]) hx hb dX9_ones_17 rfl hl (by decide) rfl (fun ls hl => ?_)
      refine lv_iinc (v := x2 + (1 : Int32)) (lv' := [(2, .int (x2 + (1 : Int32))), (1, .int (x1 + ((x0 >>> (x2 &&& 31)) &&& ((1 : Int32))))), (0, .int x0)]) hx hb dX9_ones_18 hl (k := 2) rfl rfl (by decide) rfl (fun ls hl => ?_)
      refine lv_goto (tgt := 4) hx hb dX9_ones_21 (by decide) ?_
      exact ih _ _ _ _ _ _  hP hS _ (lv_sub hl [2, 1, 0] rfl) hp
def sX9_ones_0 (x0 : Int32) (σ : TS) : Option (Int32 × TS) := sX9_ones_4 17 x0 ((0 : Int32)) ((0 : Int32)) σ
set_option maxHeartbeats 4000000 in
set_option maxRecDepth 100000 in
theorem kX9_ones_0 {r : Int32} {u : TS} (C0 : gC RX9 cX9_ones 3 ((some .int)) wsX9_ones p s m args meth c) (hK : va_K D vwCl (tyL cy) s) (hJ : gJ 39 q) {H : Heap} {locs : List Loc} {σ : TS} {x0 : Int32} (hP : va_P D vwCl (gS 39 q (MX cy q) σ) H) (hS : va_S (gA 39 q) s.heap H locs) {ls : Array Slot} (hl : lv_has ls 3 [(0, .int x0)]) (hp : sX9_ones_0 x0 σ = some (r, u)) : W p l e rmX9_ones s m args below meth c H locs 0 0 (MQ below (gQi D vwCl r (gS 39 q (MX cy q) u) (gA 39 q)) args s 0 0 (gA 39 q)) (F0 m 0 ls []) := by
  obtain ⟨hx, hb, hr, hml, hown, hts, hlocks⟩ := id C0
  unfold sX9_ones_0 at hp
  refine lv_iconst (v := (0 : Int32)) hx hb dX9_ones_0 (by decide) ?_
  refine lv_istore_n (lv' := [(1, .int ((0 : Int32))), (0, .int x0)]) hx hb dX9_ones_1 rfl hl (by decide) rfl (fun ls hl => ?_)
  refine lv_iconst (v := (0 : Int32)) hx hb dX9_ones_2 (by decide) ?_
  refine lv_istore_n (lv' := [(2, .int ((0 : Int32))), (1, .int ((0 : Int32))), (0, .int x0)]) hx hb dX9_ones_3 rfl hl (by decide) rfl (fun ls hl => ?_)
  exact kX9_ones_4 C0 hK hJ _ _ _ _ _ _ _  hP hS _ (lv_sub hl [2, 1, 0] rfl) hp
def sX9_ones (x0 : Int32) (σ : TS) : Option (Int32 × TS) := sX9_ones_0 x0 σ
theorem nVX9_ones : yX9_ones.cls ≠ "java/lang/invoke/MethodHandle" ∧ yX9_ones.cls ≠ "java/lang/invoke/VarHandle" ∧ (parseMethodDescriptor yX9_ones.desc).map (fun d => d.parameters.length) = some 1 := by decide +kernel
set_option maxHeartbeats 4000000 in
set_option maxRecDepth 100000 in
theorem mX9_ones (l : Launch) (hJ : gJ 39 q) {x0 : Int32} {σ : TS} {r : Int32} {u : TS} (hp : sX9_ones x0 σ = some (r, u)) : Met l yX9_ones wsX9_ones rmX9_ones (va_Pc [.int x0] (gPre D vwCl (tyL cy) (gS 39 q (MX cy q) σ))) (gQi D vwCl r (gS 39 q (MX cy q) u) (gA 39 q)) 0 0 (gA 39 q) := by
  refine Met.ofW (cc := cX9_ones) (maxL := 3) (ret := (some .int)) (by decide +kernel) rfl ?_
  intro p e s m args below meth c s₁ B hml hv
  obtain ⟨rfl, hP, hK⟩ := hv
  have hl := lv_entry ([.int x0]) (n := 3) (Nat.le_of_ble_eq_true rfl)
  rw [lg_entry_eq]
  generalize (lg_sl ([.int x0]) ++ List.replicate (3 - (lg_sl ([.int x0])).length) Slot.unset).toArray = ls at hl ⊢
  have hl : lv_has ls 3 [(0, .int x0)] := hl
  exact kX9_ones_0 ⟨B.exec, B.bytes, B.returns, hml, findClass_of_methodNamed B.named, atoms_spec (ws := wsX9_ones) B.pre, B.notSynchronized⟩ hK hJ  hP va_S.rf hl hp
theorem miX9_isOut_X9 : ∀ w ∈ u_ws RX9 TX9 44, w ∈ wsX9_isOut := by decide +kernel
theorem mwX9_isOut_0 : Cond.fieldLink RX9 130 "TriplaneModel" "thrown" "I" ∈ wsX9_isOut := by decide +kernel
abbrev rmX9_isOut : Room := { frames := 0, cells := 0, slots := 0, locals := 0 }
def sX9_isOut_25 (sx0 : Int32) (σ : TS) : Option (Int32 × TS) := (if zok sx0 = true then some (sx0, σ) else none)
set_option maxHeartbeats 4000000 in
set_option maxRecDepth 100000 in
theorem kX9_isOut_25 {r : Int32} {u : TS} (C0 : gC RX9 cX9_isOut 2 ((some .boolean)) wsX9_isOut p s m args meth c) (hK : va_K D vwCl (tyL cy) s) (hJ : gJ 39 q) {H : Heap} {locs : List Loc} {σ : TS} {sx0 : Int32} (hP : va_P D vwCl (gS 39 q (MX cy q) σ) H) (hS : va_S (gA 39 q) s.heap H locs) {ls : Array Slot} (hl : lv_has ls 2 []) (hp : sX9_isOut_25 sx0 σ = some (r, u)) : W p l e rmX9_isOut s m args below meth c H locs 0 0 (MQ below (gQi D vwCl r (gS 39 q (MX cy q) u) (gA 39 q)) args s 0 0 (gA 39 q)) (F0 m 25 ls [.int sx0]) := by
  obtain ⟨hx, hb, hr, hml, hown, hts, hlocks⟩ := id C0
  unfold sX9_isOut_25 at hp
  obtain ⟨hz1, hp⟩ := o_chk hp
  obtain ⟨rfl, rfl⟩ := o_r hp
  exact W.zret (v := sx0) hx hb hr (zok_n hz1).1 (fun t ht hW => ⟨⟨sx0, (), rfl, rfl, by subst ht; exact hP⟩, hS.F ht⟩) hS.2.2 dX9_isOut_25
def sX9_isOut_10 (sx1 : Int32) (σ : TS) : Option (Int32 × TS) := (if ((st2 σ 0 0 sx1) 0 0) ≤ 0 then sX9_isOut_25 ((0 : Int32)) (st2 σ 0 0 sx1) else sX9_isOut_25 ((1 : Int32)) (st2 σ 0 0 sx1))
set_option maxHeartbeats 4000000 in
set_option maxRecDepth 100000 in
theorem kX9_isOut_10 {r : Int32} {u : TS} (C0 : gC RX9 cX9_isOut 2 ((some .boolean)) wsX9_isOut p s m args meth c) (hK : va_K D vwCl (tyL cy) s) (hJ : gJ 39 q) {H : Heap} {locs : List Loc} {σ : TS} {sx1 : Int32} (hP : va_P D vwCl (gS 39 q (MX cy q) σ) H) (hS : va_S (gA 39 q) s.heap H locs) {ls : Array Slot} (hl : lv_has ls 2 [(0, .ref (q (0)))]) (hp : sX9_isOut_10 sx1 σ = some (r, u)) : W p l e rmX9_isOut s m args below meth c H locs 0 0 (MQ below (gQi D vwCl r (gS 39 q (MX cy q) u) (gA 39 q)) args s 0 0 (gA 39 q)) (F0 m 10 ls [.int sx1, .ref (q (0))]) := by
  obtain ⟨hx, hb, hr, hml, hown, hts, hlocks⟩ := id C0
  unfold sX9_isOut_10 at hp
  refine g_put (v := sx1) hx hb hts miX9_isOut_X9 tyX9 tyX9_ok nmX9 hown hK hJ hP hS (kk_Mod) (ce_Mod) rfl 0 (by decide) mwX9_isOut_0 rfl rfl rfl (Nat.le_of_ble_eq_true rfl) rfl dX9_isOut_10 (fun H locs hP hS => ?_)
  refine lv_aload_n hx hb dX9_isOut_13 rfl (lv_at hl 0 rfl) ?_
  refine g_get (v := .int ((st2 σ 0 0 sx1) 0 0)) hx hb hts miX9_isOut_X9 hown hK hP (kk_Mod) (ce_Mod) rfl 0 (by decide) mwX9_isOut_0 rfl dX9_isOut_14 ?_
  refine lv_if_le (tgt := 24) hx hb dX9_isOut_17 (by decide) (fun hcd2 => ?_) (fun hcd2 => ?_)
  · have hp := o_t hp hcd2
    refine lv_iconst (v := (0 : Int32)) hx hb dX9_isOut_24 (by decide) ?_
    exact kX9_isOut_25 C0 hK hJ  hP hS (lv_sub hl [] rfl) hp
  · have hp := o_f hp hcd2
    refine lv_iconst (v := (1 : Int32)) hx hb dX9_isOut_20 (by decide) ?_
    refine lv_goto (tgt := 25) hx hb dX9_isOut_21 (by decide) ?_
    exact kX9_isOut_25 C0 hK hJ  hP hS (lv_sub hl [] rfl) hp
def sX9_isOut_0 (x1 : Int32) (σ : TS) : Option (Int32 × TS) := (if x1 = 0 then sX9_isOut_10 ((1 : Int32)) σ else sX9_isOut_10 ((0 : Int32)) σ)
set_option maxHeartbeats 4000000 in
set_option maxRecDepth 100000 in
theorem kX9_isOut_0 {r : Int32} {u : TS} (C0 : gC RX9 cX9_isOut 2 ((some .boolean)) wsX9_isOut p s m args meth c) (hK : va_K D vwCl (tyL cy) s) (hJ : gJ 39 q) {H : Heap} {locs : List Loc} {σ : TS} {x1 : Int32} (hP : va_P D vwCl (gS 39 q (MX cy q) σ) H) (hS : va_S (gA 39 q) s.heap H locs) {ls : Array Slot} (hl : lv_has ls 2 [(0, .ref (q (0))), (1, .int x1)]) (hp : sX9_isOut_0 x1 σ = some (r, u)) : W p l e rmX9_isOut s m args below meth c H locs 0 0 (MQ below (gQi D vwCl r (gS 39 q (MX cy q) u) (gA 39 q)) args s 0 0 (gA 39 q)) (F0 m 0 ls []) := by
  obtain ⟨hx, hb, hr, hml, hown, hts, hlocks⟩ := id C0
  unfold sX9_isOut_0 at hp
  refine lv_aload_n hx hb dX9_isOut_0 rfl (lv_at hl 0 rfl) ?_
  refine lv_iload_n hx hb dX9_isOut_1 rfl (lv_at hl 1 rfl) ?_
  refine lv_if_eq (tgt := 9) hx hb dX9_isOut_2 (by decide) (fun hcd3 => ?_) (fun hcd3 => ?_)
  · have hp := o_t hp hcd3
    refine lv_iconst (v := (1 : Int32)) hx hb dX9_isOut_9 (by decide) ?_
    exact kX9_isOut_10 C0 hK hJ  hP hS (lv_sub hl [0] rfl) hp
  · have hp := o_f hp hcd3
    refine lv_iconst (v := (0 : Int32)) hx hb dX9_isOut_5 (by decide) ?_
    refine lv_goto (tgt := 10) hx hb dX9_isOut_6 (by decide) ?_
    exact kX9_isOut_10 C0 hK hJ  hP hS (lv_sub hl [0] rfl) hp
def sX9_isOut (x1 : Int32) (σ : TS) : Option (Int32 × TS) := sX9_isOut_0 x1 σ
theorem nVX9_isOut : yX9_isOut.cls = RX9 ∧ yX9_isOut.cls ≠ "java/lang/invoke/MethodHandle" ∧ yX9_isOut.cls ≠ "java/lang/invoke/VarHandle" ∧ (parseMethodDescriptor yX9_isOut.desc).map (fun d => d.parameters.length) = some 1 := by decide +kernel
set_option maxHeartbeats 4000000 in
set_option maxRecDepth 100000 in
theorem mX9_isOut (l : Launch) (hJ : gJ 39 q) {x1 : Int32} {σ : TS} {r : Int32} {u : TS} (hp : sX9_isOut x1 σ = some (r, u)) : Met l yX9_isOut wsX9_isOut rmX9_isOut (va_Pc [.ref (q (0)), .int x1] (gPre D vwCl (tyL cy) (gS 39 q (MX cy q) σ))) (gQi D vwCl r (gS 39 q (MX cy q) u) (gA 39 q)) 0 0 (gA 39 q) := by
  refine Met.ofW (cc := cX9_isOut) (maxL := 2) (ret := (some .boolean)) (by decide +kernel) rfl ?_
  intro p e s m args below meth c s₁ B hml hv
  obtain ⟨rfl, hP, hK⟩ := hv
  have hl := lv_entry ([.ref (q (0)), .int x1]) (n := 2) (Nat.le_of_ble_eq_true rfl)
  rw [lg_entry_eq]
  generalize (lg_sl ([.ref (q (0)), .int x1]) ++ List.replicate (2 - (lg_sl ([.ref (q (0)), .int x1])).length) Slot.unset).toArray = ls at hl ⊢
  have hl : lv_has ls 2 [(0, .ref (q (0))), (1, .int x1)] := hl
  exact kX9_isOut_0 ⟨B.exec, B.bytes, B.returns, hml, findClass_of_methodNamed B.named, atoms_spec (ws := wsX9_isOut) B.pre, B.notSynchronized⟩ hK hJ  hP va_S.rf hl hp
abbrev rmX9_isThree : Room := { frames := 1, cells := 0, slots := 0, locals := 22 }
def sX9_isThree_6 (sx0 : Int32) (σ : TS) : Option (Int32 × TS) := (if zok sx0 = true then some (sx0, σ) else none)
set_option maxHeartbeats 4000000 in
set_option maxRecDepth 100000 in
theorem kX9_isThree_6 {r : Int32} {u : TS} (C0 : gC RX9 cX9_isThree 1 ((some .boolean)) wsX9_isThree p s m args meth c) (hK : va_K D vwCl (tyL cy) s) (hJ : gJ 39 q) {H : Heap} {locs : List Loc} {σ : TS} {sx0 : Int32} (hP : va_P D vwCl (gS 39 q (MX cy q) σ) H) (hS : va_S (gA 39 q) s.heap H locs) {ls : Array Slot} (hl : lv_has ls 1 []) (hp : sX9_isThree_6 sx0 σ = some (r, u)) : W p l e rmX9_isThree s m args below meth c H locs 0 0 (MQ below (gQi D vwCl r (gS 39 q (MX cy q) u) (gA 39 q)) args s 0 0 (gA 39 q)) (F0 m 6 ls [.int sx0]) := by
  obtain ⟨hx, hb, hr, hml, hown, hts, hlocks⟩ := id C0
  unfold sX9_isThree_6 at hp
  obtain ⟨hz1, hp⟩ := o_chk hp
  obtain ⟨rfl, rfl⟩ := o_r hp
  exact W.zret (v := sx0) hx hb hr (zok_n hz1).1 (fun t ht hW => ⟨⟨sx0, (), rfl, rfl, by subst ht; exact hP⟩, hS.F ht⟩) hS.2.2 dX9_isThree_6
def sX9_isThree_0 (x0 : Int32) (σ : TS) : Option (Int32 × TS) := ((sX9_in x0 ((0 : Int32)) ((2 : Int32)) σ).bind (fun z => sX9_isThree_6 z.1 z.2))
set_option maxHeartbeats 4000000 in
set_option maxRecDepth 100000 in
theorem kX9_isThree_0 {r : Int32} {u : TS} (C0 : gC RX9 cX9_isThree 1 ((some .boolean)) wsX9_isThree p s m args meth c) (hK : va_K D vwCl (tyL cy) s) (hJ : gJ 39 q) {H : Heap} {locs : List Loc} {σ : TS} {x0 : Int32} (hP : va_P D vwCl (gS 39 q (MX cy q) σ) H) (hS : va_S (gA 39 q) s.heap H locs) {ls : Array Slot} (hl : lv_has ls 1 [(0, .int x0)]) (hp : sX9_isThree_0 x0 σ = some (r, u)) : W p l e rmX9_isThree s m args below meth c H locs 0 0 (MQ below (gQi D vwCl r (gS 39 q (MX cy q) u) (gA 39 q)) args s 0 0 (gA 39 q)) (F0 m 0 ls []) := by
  obtain ⟨hx, hb, hr, hml, hown, hts, hlocks⟩ := id C0
  unfold sX9_isThree_0 at hp
  refine lv_iload_n hx hb dX9_isThree_0 rfl (lv_at hl 0 rfl) ?_
  refine lv_iconst (v := (0 : Int32)) hx hb dX9_isThree_1 (by decide) ?_
  refine lv_iconst (v := (2 : Int32)) hx hb dX9_isThree_2 (by decide) ?_
  obtain ⟨⟨r2, u3⟩, hq4, hp⟩ := o_b hp
  refine g_cSi (As := [.int x0, .int ((0 : Int32)), .int ((2 : Int32))]) (rest := []) hx hb hml hown hts hK hP hS (mX9_in l hJ hq4) (va_cwS 3 hts gX9_isThree_X9_in rfl rfl rfl nVX9_in ⟨Nat.le_of_ble_eq_true rfl, Nat.le_of_ble_eq_true rfl⟩) rfl hl.1 rfl (Nat.le_of_ble_eq_true rfl) dX9_isThree_3 ⟨Nat.le_of_ble_eq_true rfl, Nat.le_of_ble_eq_true rfl⟩ (fun H locs hP hS => ?_)
  exact kX9_isThree_6 C0 hK hJ  hP hS (lv_sub hl [] rfl) hp
def sX9_isThree (x0 : Int32) (σ : TS) : Option (Int32 × TS) := sX9_isThree_0 x0 σ
theorem nVX9_isThree : yX9_isThree.cls ≠ "java/lang/invoke/MethodHandle" ∧ yX9_isThree.cls ≠ "java/lang/invoke/VarHandle" ∧ (parseMethodDescriptor yX9_isThree.desc).map (fun d => d.parameters.length) = some 1 := by decide +kernel
set_option maxHeartbeats 4000000 in
set_option maxRecDepth 100000 in
theorem mX9_isThree (l : Launch) (hJ : gJ 39 q) {x0 : Int32} {σ : TS} {r : Int32} {u : TS} (hp : sX9_isThree x0 σ = some (r, u)) : Met l yX9_isThree wsX9_isThree rmX9_isThree (va_Pc [.int x0] (gPre D vwCl (tyL cy) (gS 39 q (MX cy q) σ))) (gQi D vwCl r (gS 39 q (MX cy q) u) (gA 39 q)) 0 0 (gA 39 q) := by
  refine Met.ofW (cc := cX9_isThree) (maxL := 1) (ret := (some .boolean)) (by decide +kernel) rfl ?_
  intro p e s m args below meth c s₁ B hml hv
  obtain ⟨rfl, hP, hK⟩ := hv
  have hl := lv_entry ([.int x0]) (n := 1) (Nat.le_of_ble_eq_true rfl)
  rw [lg_entry_eq]
  generalize (lg_sl ([.int x0]) ++ List.replicate (1 - (lg_sl ([.int x0])).length) Slot.unset).toArray = ls at hl ⊢
  have hl : lv_has ls 1 [(0, .int x0)] := hl
  exact kX9_isThree_0 ⟨B.exec, B.bytes, B.returns, hml, findClass_of_methodNamed B.named, atoms_spec (ws := wsX9_isThree) B.pre, B.notSynchronized⟩ hK hJ  hP va_S.rf hl hp
abbrev rmX9_isFour : Room := { frames := 1, cells := 0, slots := 0, locals := 22 }
def sX9_isFour_6 (sx0 : Int32) (σ : TS) : Option (Int32 × TS) := (if zok sx0 = true then some (sx0, σ) else none)
set_option maxHeartbeats 4000000 in
set_option maxRecDepth 100000 in
theorem kX9_isFour_6 {r : Int32} {u : TS} (C0 : gC RX9 cX9_isFour 1 ((some .boolean)) wsX9_isFour p s m args meth c) (hK : va_K D vwCl (tyL cy) s) (hJ : gJ 39 q) {H : Heap} {locs : List Loc} {σ : TS} {sx0 : Int32} (hP : va_P D vwCl (gS 39 q (MX cy q) σ) H) (hS : va_S (gA 39 q) s.heap H locs) {ls : Array Slot} (hl : lv_has ls 1 []) (hp : sX9_isFour_6 sx0 σ = some (r, u)) : W p l e rmX9_isFour s m args below meth c H locs 0 0 (MQ below (gQi D vwCl r (gS 39 q (MX cy q) u) (gA 39 q)) args s 0 0 (gA 39 q)) (F0 m 6 ls [.int sx0]) := by
  obtain ⟨hx, hb, hr, hml, hown, hts, hlocks⟩ := id C0
  unfold sX9_isFour_6 at hp
  obtain ⟨hz1, hp⟩ := o_chk hp
  obtain ⟨rfl, rfl⟩ := o_r hp
  exact W.zret (v := sx0) hx hb hr (zok_n hz1).1 (fun t ht hW => ⟨⟨sx0, (), rfl, rfl, by subst ht; exact hP⟩, hS.F ht⟩) hS.2.2 dX9_isFour_6
def sX9_isFour_0 (x0 : Int32) (σ : TS) : Option (Int32 × TS) := ((sX9_in x0 ((0 : Int32)) ((3 : Int32)) σ).bind (fun z => sX9_isFour_6 z.1 z.2))
set_option maxHeartbeats 4000000 in
set_option maxRecDepth 100000 in
theorem kX9_isFour_0 {r : Int32} {u : TS} (C0 : gC RX9 cX9_isFour 1 ((some .boolean)) wsX9_isFour p s m args meth c) (hK : va_K D vwCl (tyL cy) s) (hJ : gJ 39 q) {H : Heap} {locs : List Loc} {σ : TS} {x0 : Int32} (hP : va_P D vwCl (gS 39 q (MX cy q) σ) H) (hS : va_S (gA 39 q) s.heap H locs) {ls : Array Slot} (hl : lv_has ls 1 [(0, .int x0)]) (hp : sX9_isFour_0 x0 σ = some (r, u)) : W p l e rmX9_isFour s m args below meth c H locs 0 0 (MQ below (gQi D vwCl r (gS 39 q (MX cy q) u) (gA 39 q)) args s 0 0 (gA 39 q)) (F0 m 0 ls []) := by
  obtain ⟨hx, hb, hr, hml, hown, hts, hlocks⟩ := id C0
  unfold sX9_isFour_0 at hp
  refine lv_iload_n hx hb dX9_isFour_0 rfl (lv_at hl 0 rfl) ?_
  refine lv_iconst (v := (0 : Int32)) hx hb dX9_isFour_1 (by decide) ?_
  refine lv_iconst (v := (3 : Int32)) hx hb dX9_isFour_2 (by decide) ?_
  obtain ⟨⟨r2, u3⟩, hq4, hp⟩ := o_b hp
  refine g_cSi (As := [.int x0, .int ((0 : Int32)), .int ((3 : Int32))]) (rest := []) hx hb hml hown hts hK hP hS (mX9_in l hJ hq4) (va_cwS 3 hts gX9_isFour_X9_in rfl rfl rfl nVX9_in ⟨Nat.le_of_ble_eq_true rfl, Nat.le_of_ble_eq_true rfl⟩) rfl hl.1 rfl (Nat.le_of_ble_eq_true rfl) dX9_isFour_3 ⟨Nat.le_of_ble_eq_true rfl, Nat.le_of_ble_eq_true rfl⟩ (fun H locs hP hS => ?_)
  exact kX9_isFour_6 C0 hK hJ  hP hS (lv_sub hl [] rfl) hp
def sX9_isFour (x0 : Int32) (σ : TS) : Option (Int32 × TS) := sX9_isFour_0 x0 σ
theorem nVX9_isFour : yX9_isFour.cls ≠ "java/lang/invoke/MethodHandle" ∧ yX9_isFour.cls ≠ "java/lang/invoke/VarHandle" ∧ (parseMethodDescriptor yX9_isFour.desc).map (fun d => d.parameters.length) = some 1 := by decide +kernel
set_option maxHeartbeats 4000000 in
set_option maxRecDepth 100000 in
theorem mX9_isFour (l : Launch) (hJ : gJ 39 q) {x0 : Int32} {σ : TS} {r : Int32} {u : TS} (hp : sX9_isFour x0 σ = some (r, u)) : Met l yX9_isFour wsX9_isFour rmX9_isFour (va_Pc [.int x0] (gPre D vwCl (tyL cy) (gS 39 q (MX cy q) σ))) (gQi D vwCl r (gS 39 q (MX cy q) u) (gA 39 q)) 0 0 (gA 39 q) := by
  refine Met.ofW (cc := cX9_isFour) (maxL := 1) (ret := (some .boolean)) (by decide +kernel) rfl ?_
  intro p e s m args below meth c s₁ B hml hv
  obtain ⟨rfl, hP, hK⟩ := hv
  have hl := lv_entry ([.int x0]) (n := 1) (Nat.le_of_ble_eq_true rfl)
  rw [lg_entry_eq]
  generalize (lg_sl ([.int x0]) ++ List.replicate (1 - (lg_sl ([.int x0])).length) Slot.unset).toArray = ls at hl ⊢
  have hl : lv_has ls 1 [(0, .int x0)] := hl
  exact kX9_isFour_0 ⟨B.exec, B.bytes, B.returns, hml, findClass_of_methodNamed B.named, atoms_spec (ws := wsX9_isFour) B.pre, B.notSynchronized⟩ hK hJ  hP va_S.rf hl hp
theorem miX9_on_X9 : ∀ w ∈ u_ws RX9 TX9 44, w ∈ wsX9_on := by decide +kernel
theorem mwX9_on_0 : Cond.fieldLink RX9 38 "TriplaneModel" "isOff" "[Z" ∈ wsX9_on := by decide +kernel
abbrev rmX9_on : Room := { frames := 0, cells := 0, slots := 0, locals := 0 }
def sX9_on_24 (K4 : Int32 → Int32 → TS → Option (Int32 × TS)) (x2 : Int32) (sx0 : Int32) (sx1 : Int32) (σ : TS) : Option (Int32 × TS) := K4 (sx0 + sx1) (x2 + (1 : Int32)) σ
set_option maxHeartbeats 4000000 in
set_option maxRecDepth 100000 in
theorem kX9_on_24 {r : Int32} {u : TS} {K4 : Int32 → Int32 → TS → Option (Int32 × TS)} (C0 : gC RX9 cX9_on 3 ((some .int)) wsX9_on p s m args meth c) (hK : va_K D vwCl (tyL cy) s) (hJ : gJ 39 q) (kh4 : ∀ (H : Heap) (locs : List Loc) (σ : TS) (x1 : Int32) (x2 : Int32) (hP : va_P D vwCl (gS 39 q (MX cy q) σ) H) (hS : va_S (gA 39 q) s.heap H locs) (ls : Array Slot) (hl : lv_has ls 3 [(0, .ref (q (0))), (1, .int x1), (2, .int x2)]) (hp : K4 x1 x2 σ = some (r, u)), W p l e rmX9_on s m args below meth c H locs 0 0 (MQ below (gQi D vwCl r (gS 39 q (MX cy q) u) (gA 39 q)) args s 0 0 (gA 39 q)) (F0 m 4 ls [])) {H : Heap} {locs : List Loc} {σ : TS} {x2 : Int32} {sx0 : Int32} {sx1 : Int32} (hP : va_P D vwCl (gS 39 q (MX cy q) σ) H) (hS : va_S (gA 39 q) s.heap H locs) {ls : Array Slot} (hl : lv_has ls 3 [(0, .ref (q (0))), (2, .int x2)]) (hp : sX9_on_24 K4 x2 sx0 sx1 σ = some (r, u)) : W p l e rmX9_on s m args below meth c H locs 0 0 (MQ below (gQi D vwCl r (gS 39 q (MX cy q) u) (gA 39 q)) args s 0 0 (gA 39 q)) (F0 m 24 ls [.int sx1, .int sx0]) := by
  obtain ⟨hx, hb, hr, hml, hown, hts, hlocks⟩ := id C0
  unfold sX9_on_24 at hp
  refine lv_iadd hx hb dX9_on_24 ?_
  refine lv_istore_n (lv' := [(1, .int (sx0 + sx1)), (0, .ref (q (0))), (2, .int x2)]) hx hb dX9_on_25 rfl hl (by decide) rfl (fun ls hl => ?_)
  refine lv_iinc (v := x2 + (1 : Int32)) (lv' := [(2, .int (x2 + (1 : Int32))), (1, .int (sx0 + sx1)), (0, .ref (q (0)))]) hx hb dX9_on_26 hl (k := 2) rfl rfl (by decide) rfl (fun ls hl => ?_)
  refine lv_goto (tgt := 4) hx hb dX9_on_29 (by decide) ?_
  exact kh4 _ _ _ _ _  hP hS _ (lv_sub hl [2, 1, 0] rfl) hp
def sX9_on_4 : Nat → Int32 → Int32 → TS → Option (Int32 × TS)
  | 0, _, _, _ => none
  | n + 1, x1, x2, σ => (if ((3 : Int32)) ≤ x2 then some (x1, σ) else (if vin x2 4 = true then (if (σ 10 (x2.toNatClampNeg)) = 0 then sX9_on_24 (sX9_on_4 n) x2 x1 ((1 : Int32)) σ else sX9_on_24 (sX9_on_4 n) x2 x1 ((0 : Int32)) σ) else none))
set_option maxHeartbeats 4000000 in
set_option maxRecDepth 100000 in
theorem kX9_on_4 {r : Int32} {u : TS} (C0 : gC RX9 cX9_on 3 ((some .int)) wsX9_on p s m args meth c) (hK : va_K D vwCl (tyL cy) s) (hJ : gJ 39 q) : ∀ (n : Nat) (H : Heap) (locs : List Loc) (σ : TS) (x1 : Int32) (x2 : Int32) (hP : va_P D vwCl (gS 39 q (MX cy q) σ) H) (hS : va_S (gA 39 q) s.heap H locs) (ls : Array Slot) (hl : lv_has ls 3 [(0, .ref (q (0))), (1, .int x1), (2, .int x2)]) (hp : sX9_on_4 n x1 x2 σ = some (r, u)), W p l e rmX9_on s m args below meth c H locs 0 0 (MQ below (gQi D vwCl r (gS 39 q (MX cy q) u) (gA 39 q)) args s 0 0 (gA 39 q)) (F0 m 4 ls []) := by
  obtain ⟨hx, hb, hr, hml, hown, hts, hlocks⟩ := id C0
  intro n
  induction n with
  | zero =>
    intro H locs σ x1 x2 hP hS ls hl hp
    cases hp
  | succ n ih =>
    intro H locs σ x1 x2 hP hS ls hl hp
    unfold sX9_on_4 at hp
    refine lv_iload_n hx hb dX9_on_4 rfl (lv_at hl 2 rfl) ?_
    refine lv_iconst (v := (3 : Int32)) hx hb dX9_on_5 (by decide) ?_
    refine lv_icmp_ge (tgt := 32) hx hb dX9_on_6 (by decide) (fun hcd1 => ?_) (fun hcd1 => ?_)
    · have hp := o_t hp hcd1
      refine lv_iload_n hx hb dX9_on_32 rfl (lv_at hl 1 rfl) ?_
      obtain ⟨rfl, rfl⟩ := o_r hp
      exact W.iret (v := x1) hx hb hr (fun t ht hW => ⟨⟨x1, (), rfl, rfl, by subst ht; exact hP⟩, hS.F ht⟩) hS.2.2 dX9_on_33
    · have hp := o_f hp hcd1
      refine lv_iload_n hx hb dX9_on_9 rfl (lv_at hl 1 rfl) ?_
      refine lv_aload_n hx hb dX9_on_10 rfl (lv_at hl 0 rfl) ?_
      refine g_get (v := .ref (q (10))) hx hb hts miX9_on_X9 hown hK hP (kk_Mod) (ce_Mod) rfl 12 (by decide) mwX9_on_0 rfl dX9_on_11 ?_
      refine lv_iload_n hx hb dX9_on_14 rfl (lv_at hl 2 rfl) ?_
      obtain ⟨hi2, hp⟩ := o_chk hp
      refine g_zald (j := x2.toNatClampNeg) hx hb hK hP (kk_M_isOff) (ce_M_isOff) 1 rfl (vin_of hi2) rfl dX9_on_15 ?_
      refine lv_if_eq (tgt := 23) hx hb dX9_on_16 (by decide) (fun hcd3 => ?_) (fun hcd3 => ?_)
      · have hp := o_t hp hcd3
        refine lv_iconst (v := (1 : Int32)) hx hb dX9_on_23 (by decide) ?_
        exact kX9_on_24 C0 hK hJ ih  hP hS (lv_sub hl [0, 2] rfl) hp
      · have hp := o_f hp hcd3
        refine lv_iconst (v := (0 : Int32)) hx hb dX9_on_19 (by decide) ?_
        refine lv_goto (tgt := 24) hx hb dX9_on_20 (by decide) ?_
        exact kX9_on_24 C0 hK hJ ih  hP hS (lv_sub hl [0, 2] rfl) hp
def sX9_on_0 (σ : TS) : Option (Int32 × TS) := sX9_on_4 4 ((0 : Int32)) ((0 : Int32)) σ
set_option maxHeartbeats 4000000 in
set_option maxRecDepth 100000 in
theorem kX9_on_0 {r : Int32} {u : TS} (C0 : gC RX9 cX9_on 3 ((some .int)) wsX9_on p s m args meth c) (hK : va_K D vwCl (tyL cy) s) (hJ : gJ 39 q) {H : Heap} {locs : List Loc} {σ : TS} (hP : va_P D vwCl (gS 39 q (MX cy q) σ) H) (hS : va_S (gA 39 q) s.heap H locs) {ls : Array Slot} (hl : lv_has ls 3 [(0, .ref (q (0)))]) (hp : sX9_on_0 σ = some (r, u)) : W p l e rmX9_on s m args below meth c H locs 0 0 (MQ below (gQi D vwCl r (gS 39 q (MX cy q) u) (gA 39 q)) args s 0 0 (gA 39 q)) (F0 m 0 ls []) := by
  obtain ⟨hx, hb, hr, hml, hown, hts, hlocks⟩ := id C0
  unfold sX9_on_0 at hp
  refine lv_iconst (v := (0 : Int32)) hx hb dX9_on_0 (by decide) ?_
  refine lv_istore_n (lv' := [(1, .int ((0 : Int32))), (0, .ref (q (0)))]) hx hb dX9_on_1 rfl hl (by decide) rfl (fun ls hl => ?_)
  refine lv_iconst (v := (0 : Int32)) hx hb dX9_on_2 (by decide) ?_
  refine lv_istore_n (lv' := [(2, .int ((0 : Int32))), (1, .int ((0 : Int32))), (0, .ref (q (0)))]) hx hb dX9_on_3 rfl hl (by decide) rfl (fun ls hl => ?_)
  exact kX9_on_4 C0 hK hJ _ _ _ _ _ _  hP hS _ (lv_sub hl [2, 1, 0] rfl) hp
def sX9_on (σ : TS) : Option (Int32 × TS) := sX9_on_0 σ
theorem nVX9_on : yX9_on.cls = RX9 ∧ yX9_on.cls ≠ "java/lang/invoke/MethodHandle" ∧ yX9_on.cls ≠ "java/lang/invoke/VarHandle" ∧ (parseMethodDescriptor yX9_on.desc).map (fun d => d.parameters.length) = some 0 := by decide +kernel
set_option maxHeartbeats 4000000 in
set_option maxRecDepth 100000 in
theorem mX9_on (l : Launch) (hJ : gJ 39 q) {σ : TS} {r : Int32} {u : TS} (hp : sX9_on σ = some (r, u)) : Met l yX9_on wsX9_on rmX9_on (va_Pc [.ref (q (0))] (gPre D vwCl (tyL cy) (gS 39 q (MX cy q) σ))) (gQi D vwCl r (gS 39 q (MX cy q) u) (gA 39 q)) 0 0 (gA 39 q) := by
  refine Met.ofW (cc := cX9_on) (maxL := 3) (ret := (some .int)) (by decide +kernel) rfl ?_
  intro p e s m args below meth c s₁ B hml hv
  obtain ⟨rfl, hP, hK⟩ := hv
  have hl := lv_entry ([.ref (q (0))]) (n := 3) (Nat.le_of_ble_eq_true rfl)
  rw [lg_entry_eq]
  generalize (lg_sl ([.ref (q (0))]) ++ List.replicate (3 - (lg_sl ([.ref (q (0))])).length) Slot.unset).toArray = ls at hl ⊢
  have hl : lv_has ls 3 [(0, .ref (q (0)))] := hl
  exact kX9_on_0 ⟨B.exec, B.bytes, B.returns, hml, findClass_of_methodNamed B.named, atoms_spec (ws := wsX9_on) B.pre, B.notSynchronized⟩ hK hJ  hP va_S.rf hl hp
theorem miX9_lowest_X9 : ∀ w ∈ u_ws RX9 TX9 44, w ∈ wsX9_lowest := by decide +kernel
theorem mwX9_lowest_0 : Cond.fieldLink RX9 38 "TriplaneModel" "isOff" "[Z" ∈ wsX9_lowest := by decide +kernel
abbrev rmX9_lowest : Room := { frames := 0, cells := 0, slots := 0, locals := 0 }
def sX9_lowest_2 : Nat → Int32 → TS → Option (Int32 × TS)
  | 0, _, _ => none
  | n + 1, x1, σ => (if ((3 : Int32)) ≤ x1 then some ((-1 : Int32), σ) else (if vin x1 4 = true then (if (σ 10 (x1.toNatClampNeg)) = 0 then some (x1, σ) else sX9_lowest_2 n (x1 + (1 : Int32)) σ) else none))
set_option maxHeartbeats 4000000 in
set_option maxRecDepth 100000 in
theorem kX9_lowest_2 {r : Int32} {u : TS} (C0 : gC RX9 cX9_lowest 2 ((some .int)) wsX9_lowest p s m args meth c) (hK : va_K D vwCl (tyL cy) s) (hJ : gJ 39 q) : ∀ (n : Nat) (H : Heap) (locs : List Loc) (σ : TS) (x1 : Int32) (hP : va_P D vwCl (gS 39 q (MX cy q) σ) H) (hS : va_S (gA 39 q) s.heap H locs) (ls : Array Slot) (hl : lv_has ls 2 [(0, .ref (q (0))), (1, .int x1)]) (hp : sX9_lowest_2 n x1 σ = some (r, u)), W p l e rmX9_lowest s m args below meth c H locs 0 0 (MQ below (gQi D vwCl r (gS 39 q (MX cy q) u) (gA 39 q)) args s 0 0 (gA 39 q)) (F0 m 2 ls []) := by
  obtain ⟨hx, hb, hr, hml, hown, hts, hlocks⟩ := id C0
  intro n
  induction n with
  | zero =>
    intro H locs σ x1 hP hS ls hl hp
    cases hp
  | succ n ih =>
    intro H locs σ x1 hP hS ls hl hp
    unfold sX9_lowest_2 at hp
    refine lv_iload_n hx hb dX9_lowest_2 rfl (lv_at hl 1 rfl) ?_
    refine lv_iconst (v := (3 : Int32)) hx hb dX9_lowest_3 (by decide) ?_
    refine lv_icmp_ge (tgt := 24) hx hb dX9_lowest_4 (by decide) (fun hcd1 => ?_) (fun hcd1 => ?_)
    · have hp := o_t hp hcd1
      refine lv_iconst (v := (-1 : Int32)) hx hb dX9_lowest_24 (by decide) ?_
      obtain ⟨rfl, rfl⟩ := o_r hp
      exact W.iret (v := (-1 : Int32)) hx hb hr (fun t ht hW => ⟨⟨(-1 : Int32), (), rfl, rfl, by subst ht; exact hP⟩, hS.F ht⟩) hS.2.2 dX9_lowest_25
    · have hp := o_f hp hcd1
      refine lv_aload_n hx hb dX9_lowest_7 rfl (lv_at hl 0 rfl) ?_
      refine g_get (v := .ref (q (10))) hx hb hts miX9_lowest_X9 hown hK hP (kk_Mod) (ce_Mod) rfl 12 (by decide) mwX9_lowest_0 rfl dX9_lowest_8 ?_
      refine lv_iload_n hx hb dX9_lowest_11 rfl (lv_at hl 1 rfl) ?_
      obtain ⟨hi2, hp⟩ := o_chk hp
      refine g_zald (j := x1.toNatClampNeg) hx hb hK hP (kk_M_isOff) (ce_M_isOff) 1 rfl (vin_of hi2) rfl dX9_lowest_12 ?_
      refine lv_if_ne (tgt := 18) hx hb dX9_lowest_13 (by decide) (fun hcd3 => ?_) (fun hcd3 => ?_)
      · have hp := o_f hp hcd3
        refine lv_iinc (v := x1 + (1 : Int32)) (lv' := [(1, .int (x1 + (1 : Int32))), (0, .ref (q (0)))]) hx hb dX9_lowest_18 hl (k := 1) rfl rfl (by decide) rfl (fun ls hl => ?_)
        refine lv_goto (tgt := 2) hx hb dX9_lowest_21 (by decide) ?_
        exact ih _ _ _ _  hP hS _ (lv_sub hl [1, 0] rfl) hp
      · have hp := o_t hp hcd3
        refine lv_iload_n hx hb dX9_lowest_16 rfl (lv_at hl 1 rfl) ?_
        obtain ⟨rfl, rfl⟩ := o_r hp
        exact W.iret (v := x1) hx hb hr (fun t ht hW => ⟨⟨x1, (), rfl, rfl, by subst ht; exact hP⟩, hS.F ht⟩) hS.2.2 dX9_lowest_17
def sX9_lowest_0 (σ : TS) : Option (Int32 × TS) := sX9_lowest_2 4 ((0 : Int32)) σ
set_option maxHeartbeats 4000000 in
set_option maxRecDepth 100000 in
theorem kX9_lowest_0 {r : Int32} {u : TS} (C0 : gC RX9 cX9_lowest 2 ((some .int)) wsX9_lowest p s m args meth c) (hK : va_K D vwCl (tyL cy) s) (hJ : gJ 39 q) {H : Heap} {locs : List Loc} {σ : TS} (hP : va_P D vwCl (gS 39 q (MX cy q) σ) H) (hS : va_S (gA 39 q) s.heap H locs) {ls : Array Slot} (hl : lv_has ls 2 [(0, .ref (q (0)))]) (hp : sX9_lowest_0 σ = some (r, u)) : W p l e rmX9_lowest s m args below meth c H locs 0 0 (MQ below (gQi D vwCl r (gS 39 q (MX cy q) u) (gA 39 q)) args s 0 0 (gA 39 q)) (F0 m 0 ls []) := by
  obtain ⟨hx, hb, hr, hml, hown, hts, hlocks⟩ := id C0
  unfold sX9_lowest_0 at hp
  refine lv_iconst (v := (0 : Int32)) hx hb dX9_lowest_0 (by decide) ?_
  refine lv_istore_n (lv' := [(1, .int ((0 : Int32))), (0, .ref (q (0)))]) hx hb dX9_lowest_1 rfl hl (by decide) rfl (fun ls hl => ?_)
  exact kX9_lowest_2 C0 hK hJ _ _ _ _ _  hP hS _ (lv_sub hl [1, 0] rfl) hp
def sX9_lowest (σ : TS) : Option (Int32 × TS) := sX9_lowest_0 σ
theorem nVX9_lowest : yX9_lowest.cls = RX9 ∧ yX9_lowest.cls ≠ "java/lang/invoke/MethodHandle" ∧ yX9_lowest.cls ≠ "java/lang/invoke/VarHandle" ∧ (parseMethodDescriptor yX9_lowest.desc).map (fun d => d.parameters.length) = some 0 := by decide +kernel
set_option maxHeartbeats 4000000 in
set_option maxRecDepth 100000 in
theorem mX9_lowest (l : Launch) (hJ : gJ 39 q) {σ : TS} {r : Int32} {u : TS} (hp : sX9_lowest σ = some (r, u)) : Met l yX9_lowest wsX9_lowest rmX9_lowest (va_Pc [.ref (q (0))] (gPre D vwCl (tyL cy) (gS 39 q (MX cy q) σ))) (gQi D vwCl r (gS 39 q (MX cy q) u) (gA 39 q)) 0 0 (gA 39 q) := by
  refine Met.ofW (cc := cX9_lowest) (maxL := 2) (ret := (some .int)) (by decide +kernel) rfl ?_
  intro p e s m args below meth c s₁ B hml hv
  obtain ⟨rfl, hP, hK⟩ := hv
  have hl := lv_entry ([.ref (q (0))]) (n := 2) (Nat.le_of_ble_eq_true rfl)
  rw [lg_entry_eq]
  generalize (lg_sl ([.ref (q (0))]) ++ List.replicate (2 - (lg_sl ([.ref (q (0))])).length) Slot.unset).toArray = ls at hl ⊢
  have hl : lv_has ls 2 [(0, .ref (q (0)))] := hl
  exact kX9_lowest_0 ⟨B.exec, B.bytes, B.returns, hml, findClass_of_methodNamed B.named, atoms_spec (ws := wsX9_lowest) B.pre, B.notSynchronized⟩ hK hJ  hP va_S.rf hl hp
theorem miX9_logs_X9 : ∀ w ∈ u_ws RX9 TX9 44, w ∈ wsX9_logs := by decide +kernel
theorem mwX9_logs_0 : Cond.fieldLink RX9 121 "TriplaneModel" "lineTimes" "[I" ∈ wsX9_logs := by decide +kernel
theorem mwX9_logs_1 : Cond.fieldLink RX9 145 "TriplaneModel" "logged" "I" ∈ wsX9_logs := by decide +kernel
theorem mwX9_logs_2 : Cond.fieldLink RX9 148 "TriplaneModel" "time" "I" ∈ wsX9_logs := by decide +kernel
theorem mwX9_logs_3 : Cond.fieldLink RX9 124 "TriplaneModel" "lineComputers" "[I" ∈ wsX9_logs := by decide +kernel
theorem mwX9_logs_4 : Cond.fieldLink RX9 127 "TriplaneModel" "lineLetters" "[I" ∈ wsX9_logs := by decide +kernel
abbrev rmX9_logs : Room := { frames := 0, cells := 0, slots := 0, locals := 0 }
def sX9_logs_0 (x1 : Int32) (x2 : Int32) (σ : TS) : Option (Int32 × TS) := (if vin ((σ 0 43) - (σ 0 43) / ((30 : Int32)) * ((30 : Int32))) 30 = true then (if vin (((st2 σ 36 (((σ 0 43) - (σ 0 43) / ((30 : Int32)) * ((30 : Int32))).toNatClampNeg) (σ 0 1)) 0 43) - ((st2 σ 36 (((σ 0 43) - (σ 0 43) / ((30 : Int32)) * ((30 : Int32))).toNatClampNeg) (σ 0 1)) 0 43) / ((30 : Int32)) * ((30 : Int32))) 30 = true then (if vin (((st2 (st2 σ 36 (((σ 0 43) - (σ 0 43) / ((30 : Int32)) * ((30 : Int32))).toNatClampNeg) (σ 0 1)) 37 ((((st2 σ 36 (((σ 0 43) - (σ 0 43) / ((30 : Int32)) * ((30 : Int32))).toNatClampNeg) (σ 0 1)) 0 43) - ((st2 σ 36 (((σ 0 43) - (σ 0 43) / ((30 : Int32)) * ((30 : Int32))).toNatClampNeg) (σ 0 1)) 0 43) / ((30 : Int32)) * ((30 : Int32))).toNatClampNeg) x1) 0 43) - ((st2 (st2 σ 36 (((σ 0 43) - (σ 0 43) / ((30 : Int32)) * ((30 : Int32))).toNatClampNeg) (σ 0 1)) 37 ((((st2 σ 36 (((σ 0 43) - (σ 0 43) / ((30 : Int32)) * ((30 : Int32))).toNatClampNeg) (σ 0 1)) 0 43) - ((st2 σ 36 (((σ 0 43) - (σ 0 43) / ((30 : Int32)) * ((30 : Int32))).toNatClampNeg) (σ 0 1)) 0 43) / ((30 : Int32)) * ((30 : Int32))).toNatClampNeg) x1) 0 43) / ((30 : Int32)) * ((30 : Int32))) 30 = true then some (0, st2 (st2 (st2 (st2 σ 36 (((σ 0 43) - (σ 0 43) / ((30 : Int32)) * ((30 : Int32))).toNatClampNeg) (σ 0 1)) 37 ((((st2 σ 36 (((σ 0 43) - (σ 0 43) / ((30 : Int32)) * ((30 : Int32))).toNatClampNeg) (σ 0 1)) 0 43) - ((st2 σ 36 (((σ 0 43) - (σ 0 43) / ((30 : Int32)) * ((30 : Int32))).toNatClampNeg) (σ 0 1)) 0 43) / ((30 : Int32)) * ((30 : Int32))).toNatClampNeg) x1) 38 ((((st2 (st2 σ 36 (((σ 0 43) - (σ 0 43) / ((30 : Int32)) * ((30 : Int32))).toNatClampNeg) (σ 0 1)) 37 ((((st2 σ 36 (((σ 0 43) - (σ 0 43) / ((30 : Int32)) * ((30 : Int32))).toNatClampNeg) (σ 0 1)) 0 43) - ((st2 σ 36 (((σ 0 43) - (σ 0 43) / ((30 : Int32)) * ((30 : Int32))).toNatClampNeg) (σ 0 1)) 0 43) / ((30 : Int32)) * ((30 : Int32))).toNatClampNeg) x1) 0 43) - ((st2 (st2 σ 36 (((σ 0 43) - (σ 0 43) / ((30 : Int32)) * ((30 : Int32))).toNatClampNeg) (σ 0 1)) 37 ((((st2 σ 36 (((σ 0 43) - (σ 0 43) / ((30 : Int32)) * ((30 : Int32))).toNatClampNeg) (σ 0 1)) 0 43) - ((st2 σ 36 (((σ 0 43) - (σ 0 43) / ((30 : Int32)) * ((30 : Int32))).toNatClampNeg) (σ 0 1)) 0 43) / ((30 : Int32)) * ((30 : Int32))).toNatClampNeg) x1) 0 43) / ((30 : Int32)) * ((30 : Int32))).toNatClampNeg) x2) 0 43 (((st2 (st2 (st2 σ 36 (((σ 0 43) - (σ 0 43) / ((30 : Int32)) * ((30 : Int32))).toNatClampNeg) (σ 0 1)) 37 ((((st2 σ 36 (((σ 0 43) - (σ 0 43) / ((30 : Int32)) * ((30 : Int32))).toNatClampNeg) (σ 0 1)) 0 43) - ((st2 σ 36 (((σ 0 43) - (σ 0 43) / ((30 : Int32)) * ((30 : Int32))).toNatClampNeg) (σ 0 1)) 0 43) / ((30 : Int32)) * ((30 : Int32))).toNatClampNeg) x1) 38 ((((st2 (st2 σ 36 (((σ 0 43) - (σ 0 43) / ((30 : Int32)) * ((30 : Int32))).toNatClampNeg) (σ 0 1)) 37 ((((st2 σ 36 (((σ 0 43) - (σ 0 43) / ((30 : Int32)) * ((30 : Int32))).toNatClampNeg) (σ 0 1)) 0 43) - ((st2 σ 36 (((σ 0 43) - (σ 0 43) / ((30 : Int32)) * ((30 : Int32))).toNatClampNeg) (σ 0 1)) 0 43) / ((30 : Int32)) * ((30 : Int32))).toNatClampNeg) x1) 0 43) - ((st2 (st2 σ 36 (((σ 0 43) - (σ 0 43) / ((30 : Int32)) * ((30 : Int32))).toNatClampNeg) (σ 0 1)) 37 ((((st2 σ 36 (((σ 0 43) - (σ 0 43) / ((30 : Int32)) * ((30 : Int32))).toNatClampNeg) (σ 0 1)) 0 43) - ((st2 σ 36 (((σ 0 43) - (σ 0 43) / ((30 : Int32)) * ((30 : Int32))).toNatClampNeg) (σ 0 1)) 0 43) / ((30 : Int32)) * ((30 : Int32))).toNatClampNeg) x1) 0 43) / ((30 : Int32)) * ((30 : Int32))).toNatClampNeg) x2) 0 43) + ((1 : Int32)))) else none) else none) else none)
set_option maxHeartbeats 4000000 in
set_option maxRecDepth 100000 in
theorem kX9_logs_0 {r : Int32} {u : TS} (C0 : gC RX9 cX9_logs 3 none wsX9_logs p s m args meth c) (hK : va_K D vwCl (tyL cy) s) (hJ : gJ 39 q) {H : Heap} {locs : List Loc} {σ : TS} {x1 : Int32} {x2 : Int32} (hP : va_P D vwCl (gS 39 q (MX cy q) σ) H) (hS : va_S (gA 39 q) s.heap H locs) {ls : Array Slot} (hl : lv_has ls 3 [(0, .ref (q (0))), (1, .int x1), (2, .int x2)]) (hp : sX9_logs_0 x1 x2 σ = some (r, u)) : W p l e rmX9_logs s m args below meth c H locs 0 0 (MQ below (gQv D vwCl (gS 39 q (MX cy q) u) (gA 39 q)) args s 0 0 (gA 39 q)) (F0 m 0 ls []) := by
  obtain ⟨hx, hb, hr, hml, hown, hts, hlocks⟩ := id C0
  unfold sX9_logs_0 at hp
  refine lv_aload_n hx hb dX9_logs_0 rfl (lv_at hl 0 rfl) ?_
  refine g_get (v := .ref (q (36))) hx hb hts miX9_logs_X9 hown hK hP (kk_Mod) (ce_Mod) rfl 40 (by decide) mwX9_logs_0 rfl dX9_logs_1 ?_
  refine lv_aload_n hx hb dX9_logs_4 rfl (lv_at hl 0 rfl) ?_
  refine g_get (v := .int (σ 0 43)) hx hb hts miX9_logs_X9 hown hK hP (kk_Mod) (ce_Mod) rfl 43 (by decide) mwX9_logs_1 rfl dX9_logs_5 ?_
  refine lv_bipush (v := (30 : Int32)) hx hb dX9_logs_8 (by decide) ?_
  refine lv_irem hx hb dX9_logs_10 (by decide) ?_
  refine lv_aload_n hx hb dX9_logs_11 rfl (lv_at hl 0 rfl) ?_
  refine g_get (v := .int (σ 0 1)) hx hb hts miX9_logs_X9 hown hK hP (kk_Mod) (ce_Mod) rfl 1 (by decide) mwX9_logs_2 rfl dX9_logs_12 ?_
  obtain ⟨hi1, hp⟩ := o_chk hp
  refine g_iast (j := ((σ 0 43) - (σ 0 43) / ((30 : Int32)) * ((30 : Int32))).toNatClampNeg) hx hb hK hJ hP hS (kk_M_lineTimes) (ce_M_lineTimes) 0 rfl (vin_of hi1) rfl dX9_logs_15 (fun H locs hP hS => ?_)
  refine lv_aload_n hx hb dX9_logs_16 rfl (lv_at hl 0 rfl) ?_
  refine g_get (v := .ref (q (37))) hx hb hts miX9_logs_X9 hown hK hP (kk_Mod) (ce_Mod) rfl 41 (by decide) mwX9_logs_3 rfl dX9_logs_17 ?_
  refine lv_aload_n hx hb dX9_logs_20 rfl (lv_at hl 0 rfl) ?_
  refine g_get (v := .int ((st2 σ 36 (((σ 0 43) - (σ 0 43) / ((30 : Int32)) * ((30 : Int32))).toNatClampNeg) (σ 0 1)) 0 43)) hx hb hts miX9_logs_X9 hown hK hP (kk_Mod) (ce_Mod) rfl 43 (by decide) mwX9_logs_1 rfl dX9_logs_21 ?_
  refine lv_bipush (v := (30 : Int32)) hx hb dX9_logs_24 (by decide) ?_
  refine lv_irem hx hb dX9_logs_26 (by decide) ?_
  refine lv_iload_n hx hb dX9_logs_27 rfl (lv_at hl 1 rfl) ?_
  obtain ⟨hi2, hp⟩ := o_chk hp
  refine g_iast (j := (((st2 σ 36 (((σ 0 43) - (σ 0 43) / ((30 : Int32)) * ((30 : Int32))).toNatClampNeg) (σ 0 1)) 0 43) - ((st2 σ 36 (((σ 0 43) - (σ 0 43) / ((30 : Int32)) * ((30 : Int32))).toNatClampNeg) (σ 0 1)) 0 43) / ((30 : Int32)) * ((30 : Int32))).toNatClampNeg) hx hb hK hJ hP hS (kk_M_lineComputers) (ce_M_lineComputers) 0 rfl (vin_of hi2) rfl dX9_logs_28 (fun H locs hP hS => ?_)
  refine lv_aload_n hx hb dX9_logs_29 rfl (lv_at hl 0 rfl) ?_
  refine g_get (v := .ref (q (38))) hx hb hts miX9_logs_X9 hown hK hP (kk_Mod) (ce_Mod) rfl 42 (by decide) mwX9_logs_4 rfl dX9_logs_30 ?_
  refine lv_aload_n hx hb dX9_logs_33 rfl (lv_at hl 0 rfl) ?_
  refine g_get (v := .int ((st2 (st2 σ 36 (((σ 0 43) - (σ 0 43) / ((30 : Int32)) * ((30 : Int32))).toNatClampNeg) (σ 0 1)) 37 ((((st2 σ 36 (((σ 0 43) - (σ 0 43) / ((30 : Int32)) * ((30 : Int32))).toNatClampNeg) (σ 0 1)) 0 43) - ((st2 σ 36 (((σ 0 43) - (σ 0 43) / ((30 : Int32)) * ((30 : Int32))).toNatClampNeg) (σ 0 1)) 0 43) / ((30 : Int32)) * ((30 : Int32))).toNatClampNeg) x1) 0 43)) hx hb hts miX9_logs_X9 hown hK hP (kk_Mod) (ce_Mod) rfl 43 (by decide) mwX9_logs_1 rfl dX9_logs_34 ?_
  refine lv_bipush (v := (30 : Int32)) hx hb dX9_logs_37 (by decide) ?_
  refine lv_irem hx hb dX9_logs_39 (by decide) ?_
  refine lv_iload_n hx hb dX9_logs_40 rfl (lv_at hl 2 rfl) ?_
  obtain ⟨hi3, hp⟩ := o_chk hp
  refine g_iast (j := (((st2 (st2 σ 36 (((σ 0 43) - (σ 0 43) / ((30 : Int32)) * ((30 : Int32))).toNatClampNeg) (σ 0 1)) 37 ((((st2 σ 36 (((σ 0 43) - (σ 0 43) / ((30 : Int32)) * ((30 : Int32))).toNatClampNeg) (σ 0 1)) 0 43) - ((st2 σ 36 (((σ 0 43) - (σ 0 43) / ((30 : Int32)) * ((30 : Int32))).toNatClampNeg) (σ 0 1)) 0 43) / ((30 : Int32)) * ((30 : Int32))).toNatClampNeg) x1) 0 43) - ((st2 (st2 σ 36 (((σ 0 43) - (σ 0 43) / ((30 : Int32)) * ((30 : Int32))).toNatClampNeg) (σ 0 1)) 37 ((((st2 σ 36 (((σ 0 43) - (σ 0 43) / ((30 : Int32)) * ((30 : Int32))).toNatClampNeg) (σ 0 1)) 0 43) - ((st2 σ 36 (((σ 0 43) - (σ 0 43) / ((30 : Int32)) * ((30 : Int32))).toNatClampNeg) (σ 0 1)) 0 43) / ((30 : Int32)) * ((30 : Int32))).toNatClampNeg) x1) 0 43) / ((30 : Int32)) * ((30 : Int32))).toNatClampNeg) hx hb hK hJ hP hS (kk_M_lineLetters) (ce_M_lineLetters) 0 rfl (vin_of hi3) rfl dX9_logs_41 (fun H locs hP hS => ?_)
  refine lv_aload_n hx hb dX9_logs_42 rfl (lv_at hl 0 rfl) ?_
  refine lv_dup hx hb dX9_logs_43 rfl ?_
  refine g_get (v := .int ((st2 (st2 (st2 σ 36 (((σ 0 43) - (σ 0 43) / ((30 : Int32)) * ((30 : Int32))).toNatClampNeg) (σ 0 1)) 37 ((((st2 σ 36 (((σ 0 43) - (σ 0 43) / ((30 : Int32)) * ((30 : Int32))).toNatClampNeg) (σ 0 1)) 0 43) - ((st2 σ 36 (((σ 0 43) - (σ 0 43) / ((30 : Int32)) * ((30 : Int32))).toNatClampNeg) (σ 0 1)) 0 43) / ((30 : Int32)) * ((30 : Int32))).toNatClampNeg) x1) 38 ((((st2 (st2 σ 36 (((σ 0 43) - (σ 0 43) / ((30 : Int32)) * ((30 : Int32))).toNatClampNeg) (σ 0 1)) 37 ((((st2 σ 36 (((σ 0 43) - (σ 0 43) / ((30 : Int32)) * ((30 : Int32))).toNatClampNeg) (σ 0 1)) 0 43) - ((st2 σ 36 (((σ 0 43) - (σ 0 43) / ((30 : Int32)) * ((30 : Int32))).toNatClampNeg) (σ 0 1)) 0 43) / ((30 : Int32)) * ((30 : Int32))).toNatClampNeg) x1) 0 43) - ((st2 (st2 σ 36 (((σ 0 43) - (σ 0 43) / ((30 : Int32)) * ((30 : Int32))).toNatClampNeg) (σ 0 1)) 37 ((((st2 σ 36 (((σ 0 43) - (σ 0 43) / ((30 : Int32)) * ((30 : Int32))).toNatClampNeg) (σ 0 1)) 0 43) - ((st2 σ 36 (((σ 0 43) - (σ 0 43) / ((30 : Int32)) * ((30 : Int32))).toNatClampNeg) (σ 0 1)) 0 43) / ((30 : Int32)) * ((30 : Int32))).toNatClampNeg) x1) 0 43) / ((30 : Int32)) * ((30 : Int32))).toNatClampNeg) x2) 0 43)) hx hb hts miX9_logs_X9 hown hK hP (kk_Mod) (ce_Mod) rfl 43 (by decide) mwX9_logs_1 rfl dX9_logs_44 ?_
  refine lv_iconst (v := (1 : Int32)) hx hb dX9_logs_47 (by decide) ?_
  refine lv_iadd hx hb dX9_logs_48 ?_
  refine g_put (v := ((st2 (st2 (st2 σ 36 (((σ 0 43) - (σ 0 43) / ((30 : Int32)) * ((30 : Int32))).toNatClampNeg) (σ 0 1)) 37 ((((st2 σ 36 (((σ 0 43) - (σ 0 43) / ((30 : Int32)) * ((30 : Int32))).toNatClampNeg) (σ 0 1)) 0 43) - ((st2 σ 36 (((σ 0 43) - (σ 0 43) / ((30 : Int32)) * ((30 : Int32))).toNatClampNeg) (σ 0 1)) 0 43) / ((30 : Int32)) * ((30 : Int32))).toNatClampNeg) x1) 38 ((((st2 (st2 σ 36 (((σ 0 43) - (σ 0 43) / ((30 : Int32)) * ((30 : Int32))).toNatClampNeg) (σ 0 1)) 37 ((((st2 σ 36 (((σ 0 43) - (σ 0 43) / ((30 : Int32)) * ((30 : Int32))).toNatClampNeg) (σ 0 1)) 0 43) - ((st2 σ 36 (((σ 0 43) - (σ 0 43) / ((30 : Int32)) * ((30 : Int32))).toNatClampNeg) (σ 0 1)) 0 43) / ((30 : Int32)) * ((30 : Int32))).toNatClampNeg) x1) 0 43) - ((st2 (st2 σ 36 (((σ 0 43) - (σ 0 43) / ((30 : Int32)) * ((30 : Int32))).toNatClampNeg) (σ 0 1)) 37 ((((st2 σ 36 (((σ 0 43) - (σ 0 43) / ((30 : Int32)) * ((30 : Int32))).toNatClampNeg) (σ 0 1)) 0 43) - ((st2 σ 36 (((σ 0 43) - (σ 0 43) / ((30 : Int32)) * ((30 : Int32))).toNatClampNeg) (σ 0 1)) 0 43) / ((30 : Int32)) * ((30 : Int32))).toNatClampNeg) x1) 0 43) / ((30 : Int32)) * ((30 : Int32))).toNatClampNeg) x2) 0 43) + ((1 : Int32))) hx hb hts miX9_logs_X9 tyX9 tyX9_ok nmX9 hown hK hJ hP hS (kk_Mod) (ce_Mod) rfl 43 (by decide) mwX9_logs_1 rfl rfl rfl (Nat.le_of_ble_eq_true rfl) rfl dX9_logs_49 (fun H locs hP hS => ?_)
  obtain ⟨rfl, rfl⟩ := o_r hp
  exact W.vret hx hb hr (fun t ht hW => ⟨⟨(), rfl, trivial, by subst ht; exact hP⟩, hS.F ht⟩) hS.2.2 dX9_logs_52
def sX9_logs (x1 : Int32) (x2 : Int32) (σ : TS) : Option (Int32 × TS) := sX9_logs_0 x1 x2 σ
theorem nVX9_logs : yX9_logs.cls = RX9 ∧ yX9_logs.cls ≠ "java/lang/invoke/MethodHandle" ∧ yX9_logs.cls ≠ "java/lang/invoke/VarHandle" ∧ (parseMethodDescriptor yX9_logs.desc).map (fun d => d.parameters.length) = some 2 := by decide +kernel
set_option maxHeartbeats 4000000 in
set_option maxRecDepth 100000 in
theorem mX9_logs (l : Launch) (hJ : gJ 39 q) {x1 : Int32} {x2 : Int32} {σ : TS} {r : Int32} {u : TS} (hp : sX9_logs x1 x2 σ = some (r, u)) : Met l yX9_logs wsX9_logs rmX9_logs (va_Pc [.ref (q (0)), .int x1, .int x2] (gPre D vwCl (tyL cy) (gS 39 q (MX cy q) σ))) (gQv D vwCl (gS 39 q (MX cy q) u) (gA 39 q)) 0 0 (gA 39 q) := by
  refine Met.ofW (cc := cX9_logs) (maxL := 3) (ret := none) (by decide +kernel) rfl ?_
  intro p e s m args below meth c s₁ B hml hv
  obtain ⟨rfl, hP, hK⟩ := hv
  have hl := lv_entry ([.ref (q (0)), .int x1, .int x2]) (n := 3) (Nat.le_of_ble_eq_true rfl)
  rw [lg_entry_eq]
  generalize (lg_sl ([.ref (q (0)), .int x1, .int x2]) ++ List.replicate (3 - (lg_sl ([.ref (q (0)), .int x1, .int x2])).length) Slot.unset).toArray = ls at hl ⊢
  have hl : lv_has ls 3 [(0, .ref (q (0))), (1, .int x1), (2, .int x2)] := hl
  exact kX9_logs_0 ⟨B.exec, B.bytes, B.returns, hml, findClass_of_methodNamed B.named, atoms_spec (ws := wsX9_logs) B.pre, B.notSynchronized⟩ hK hJ  hP va_S.rf hl hp
theorem miX9_off_X9 : ∀ w ∈ u_ws RX9 TX9 44, w ∈ wsX9_off := by decide +kernel
theorem mwX9_off_0 : Cond.fieldLink RX9 38 "TriplaneModel" "isOff" "[Z" ∈ wsX9_off := by decide +kernel
theorem mwX9_off_1 : Cond.fieldLink RX9 42 "TriplaneModel" "isTested" "[Z" ∈ wsX9_off := by decide +kernel
abbrev rmX9_off : Room := { frames := 1, cells := 0, slots := 0, locals := 22 }
def sX9_off_20 (σ : TS) : Option (Int32 × TS) := some (0, σ)
set_option maxHeartbeats 4000000 in
set_option maxRecDepth 100000 in
theorem kX9_off_20 {r : Int32} {u : TS} (C0 : gC RX9 cX9_off 3 none wsX9_off p s m args meth c) (hK : va_K D vwCl (tyL cy) s) (hJ : gJ 39 q) {H : Heap} {locs : List Loc} {σ : TS} (hP : va_P D vwCl (gS 39 q (MX cy q) σ) H) (hS : va_S (gA 39 q) s.heap H locs) {ls : Array Slot} (hl : lv_has ls 3 []) (hp : sX9_off_20 σ = some (r, u)) : W p l e rmX9_off s m args below meth c H locs 0 0 (MQ below (gQv D vwCl (gS 39 q (MX cy q) u) (gA 39 q)) args s 0 0 (gA 39 q)) (F0 m 20 ls []) := by
  obtain ⟨hx, hb, hr, hml, hown, hts, hlocks⟩ := id C0
  unfold sX9_off_20 at hp
  obtain ⟨rfl, rfl⟩ := o_r hp
  exact W.vret hx hb hr (fun t ht hW => ⟨⟨(), rfl, trivial, by subst ht; exact hP⟩, hS.F ht⟩) hS.2.2 dX9_off_20
def sX9_off_0 (x1 : Int32) (x2 : Int32) (σ : TS) : Option (Int32 × TS) := (if vin x1 4 = true then ((sX9_logs x1 x2 (st2 (st2 σ 10 (x1.toNatClampNeg) (vp_nar .boolean ((1 : Int32)))) 11 (x1.toNatClampNeg) (vp_nar .boolean ((0 : Int32))))).bind (fun z => sX9_off_20 z.2)) else none)
set_option maxHeartbeats 4000000 in
set_option maxRecDepth 100000 in
theorem kX9_off_0 {r : Int32} {u : TS} (C0 : gC RX9 cX9_off 3 none wsX9_off p s m args meth c) (hK : va_K D vwCl (tyL cy) s) (hJ : gJ 39 q) {H : Heap} {locs : List Loc} {σ : TS} {x1 : Int32} {x2 : Int32} (hP : va_P D vwCl (gS 39 q (MX cy q) σ) H) (hS : va_S (gA 39 q) s.heap H locs) {ls : Array Slot} (hl : lv_has ls 3 [(0, .ref (q (0))), (1, .int x1), (2, .int x2)]) (hp : sX9_off_0 x1 x2 σ = some (r, u)) : W p l e rmX9_off s m args below meth c H locs 0 0 (MQ below (gQv D vwCl (gS 39 q (MX cy q) u) (gA 39 q)) args s 0 0 (gA 39 q)) (F0 m 0 ls []) := by
  obtain ⟨hx, hb, hr, hml, hown, hts, hlocks⟩ := id C0
  unfold sX9_off_0 at hp
  refine lv_aload_n hx hb dX9_off_0 rfl (lv_at hl 0 rfl) ?_
  refine g_get (v := .ref (q (10))) hx hb hts miX9_off_X9 hown hK hP (kk_Mod) (ce_Mod) rfl 12 (by decide) mwX9_off_0 rfl dX9_off_1 ?_
  refine lv_iload_n hx hb dX9_off_4 rfl (lv_at hl 1 rfl) ?_
  refine lv_iconst (v := (1 : Int32)) hx hb dX9_off_5 (by decide) ?_
  obtain ⟨hi1, hp⟩ := o_chk hp
  refine g_zast (j := x1.toNatClampNeg) hx hb hK hJ hP hS (kk_M_isOff) (ce_M_isOff) 1 rfl (vin_of hi1) rfl dX9_off_6 (fun H locs hP hS => ?_)
  refine lv_aload_n hx hb dX9_off_7 rfl (lv_at hl 0 rfl) ?_
  refine g_get (v := .ref (q (11))) hx hb hts miX9_off_X9 hown hK hP (kk_Mod) (ce_Mod) rfl 13 (by decide) mwX9_off_1 rfl dX9_off_8 ?_
  refine lv_iload_n hx hb dX9_off_11 rfl (lv_at hl 1 rfl) ?_
  refine lv_iconst (v := (0 : Int32)) hx hb dX9_off_12 (by decide) ?_
  refine g_zast (j := x1.toNatClampNeg) hx hb hK hJ hP hS (kk_M_isTested) (ce_M_isTested) 1 rfl (vin_of hi1) rfl dX9_off_13 (fun H locs hP hS => ?_)
  refine lv_aload_n hx hb dX9_off_14 rfl (lv_at hl 0 rfl) ?_
  refine lv_iload_n hx hb dX9_off_15 rfl (lv_at hl 1 rfl) ?_
  refine lv_iload_n hx hb dX9_off_16 rfl (lv_at hl 2 rfl) ?_
  obtain ⟨⟨r2, u3⟩, hq4, hp⟩ := o_b hp
  refine g_cVv (As := [.int x1, .int x2]) (rest := []) hx hb hml hown hts hK hP hS (mX9_logs l hJ hq4) (cwV 2 hts gX9_off_X9_logs rfl rfl rfl nVX9_logs ⟨Nat.le_of_ble_eq_true rfl, Nat.le_of_ble_eq_true rfl⟩) (g_recv hK hP (kk_Mod) (ce_Mod) rfl) rfl hl.1 rfl (Nat.le_of_ble_eq_true rfl) dX9_off_17 ⟨Nat.le_of_ble_eq_true rfl, Nat.le_of_ble_eq_true rfl⟩ (fun H locs hP hS => ?_)
  exact kX9_off_20 C0 hK hJ  hP hS (lv_sub hl [] rfl) hp
def sX9_off (x1 : Int32) (x2 : Int32) (σ : TS) : Option (Int32 × TS) := sX9_off_0 x1 x2 σ
theorem nVX9_off : yX9_off.cls = RX9 ∧ yX9_off.cls ≠ "java/lang/invoke/MethodHandle" ∧ yX9_off.cls ≠ "java/lang/invoke/VarHandle" ∧ (parseMethodDescriptor yX9_off.desc).map (fun d => d.parameters.length) = some 2 := by decide +kernel
set_option maxHeartbeats 4000000 in
set_option maxRecDepth 100000 in
theorem mX9_off (l : Launch) (hJ : gJ 39 q) {x1 : Int32} {x2 : Int32} {σ : TS} {r : Int32} {u : TS} (hp : sX9_off x1 x2 σ = some (r, u)) : Met l yX9_off wsX9_off rmX9_off (va_Pc [.ref (q (0)), .int x1, .int x2] (gPre D vwCl (tyL cy) (gS 39 q (MX cy q) σ))) (gQv D vwCl (gS 39 q (MX cy q) u) (gA 39 q)) 0 0 (gA 39 q) := by
  refine Met.ofW (cc := cX9_off) (maxL := 3) (ret := none) (by decide +kernel) rfl ?_
  intro p e s m args below meth c s₁ B hml hv
  obtain ⟨rfl, hP, hK⟩ := hv
  have hl := lv_entry ([.ref (q (0)), .int x1, .int x2]) (n := 3) (Nat.le_of_ble_eq_true rfl)
  rw [lg_entry_eq]
  generalize (lg_sl ([.ref (q (0)), .int x1, .int x2]) ++ List.replicate (3 - (lg_sl ([.ref (q (0)), .int x1, .int x2])).length) Slot.unset).toArray = ls at hl ⊢
  have hl : lv_has ls 3 [(0, .ref (q (0))), (1, .int x1), (2, .int x2)] := hl
  exact kX9_off_0 ⟨B.exec, B.bytes, B.returns, hml, findClass_of_methodNamed B.named, atoms_spec (ws := wsX9_off) B.pre, B.notSynchronized⟩ hK hJ  hP va_S.rf hl hp
abbrev rmX9_fits : Room := { frames := 1, cells := 0, slots := 0, locals := 22 }
def sX9_fits_102 (sx0 : Int32) (σ : TS) : Option (Int32 × TS) := (if zok sx0 = true then some (sx0, σ) else none)
set_option maxHeartbeats 4000000 in
set_option maxRecDepth 100000 in
theorem kX9_fits_102 {r : Int32} {u : TS} (C0 : gC RX9 cX9_fits 2 ((some .boolean)) wsX9_fits p s m args meth c) (hK : va_K D vwCl (tyL cy) s) (hJ : gJ 39 q) {H : Heap} {locs : List Loc} {σ : TS} {sx0 : Int32} (hP : va_P D vwCl (gS 39 q (MX cy q) σ) H) (hS : va_S (gA 39 q) s.heap H locs) {ls : Array Slot} (hl : lv_has ls 2 []) (hp : sX9_fits_102 sx0 σ = some (r, u)) : W p l e rmX9_fits s m args below meth c H locs 0 0 (MQ below (gQi D vwCl r (gS 39 q (MX cy q) u) (gA 39 q)) args s 0 0 (gA 39 q)) (F0 m 102 ls [.int sx0]) := by
  obtain ⟨hx, hb, hr, hml, hown, hts, hlocks⟩ := id C0
  unfold sX9_fits_102 at hp
  obtain ⟨hz1, hp⟩ := o_chk hp
  obtain ⟨rfl, rfl⟩ := o_r hp
  exact W.zret (v := sx0) hx hb hr (zok_n hz1).1 (fun t ht hW => ⟨⟨sx0, (), rfl, rfl, by subst ht; exact hP⟩, hS.F ht⟩) hS.2.2 dX9_fits_102
def sX9_fits_109 (sx0 : Int32) (σ : TS) : Option (Int32 × TS) := (if zok sx0 = true then some (sx0, σ) else none)
set_option maxHeartbeats 4000000 in
set_option maxRecDepth 100000 in
theorem kX9_fits_109 {r : Int32} {u : TS} (C0 : gC RX9 cX9_fits 2 ((some .boolean)) wsX9_fits p s m args meth c) (hK : va_K D vwCl (tyL cy) s) (hJ : gJ 39 q) {H : Heap} {locs : List Loc} {σ : TS} {sx0 : Int32} (hP : va_P D vwCl (gS 39 q (MX cy q) σ) H) (hS : va_S (gA 39 q) s.heap H locs) {ls : Array Slot} (hl : lv_has ls 2 []) (hp : sX9_fits_109 sx0 σ = some (r, u)) : W p l e rmX9_fits s m args below meth c H locs 0 0 (MQ below (gQi D vwCl r (gS 39 q (MX cy q) u) (gA 39 q)) args s 0 0 (gA 39 q)) (F0 m 109 ls [.int sx0]) := by
  obtain ⟨hx, hb, hr, hml, hown, hts, hlocks⟩ := id C0
  unfold sX9_fits_109 at hp
  obtain ⟨hz2, hp⟩ := o_chk hp
  obtain ⟨rfl, rfl⟩ := o_r hp
  exact W.zret (v := sx0) hx hb hr (zok_n hz2).1 (fun t ht hW => ⟨⟨sx0, (), rfl, rfl, by subst ht; exact hP⟩, hS.F ht⟩) hS.2.2 dX9_fits_109
def sX9_fits_116 (sx0 : Int32) (σ : TS) : Option (Int32 × TS) := (if zok sx0 = true then some (sx0, σ) else none)
set_option maxHeartbeats 4000000 in
set_option maxRecDepth 100000 in
theorem kX9_fits_116 {r : Int32} {u : TS} (C0 : gC RX9 cX9_fits 2 ((some .boolean)) wsX9_fits p s m args meth c) (hK : va_K D vwCl (tyL cy) s) (hJ : gJ 39 q) {H : Heap} {locs : List Loc} {σ : TS} {sx0 : Int32} (hP : va_P D vwCl (gS 39 q (MX cy q) σ) H) (hS : va_S (gA 39 q) s.heap H locs) {ls : Array Slot} (hl : lv_has ls 2 []) (hp : sX9_fits_116 sx0 σ = some (r, u)) : W p l e rmX9_fits s m args below meth c H locs 0 0 (MQ below (gQi D vwCl r (gS 39 q (MX cy q) u) (gA 39 q)) args s 0 0 (gA 39 q)) (F0 m 116 ls [.int sx0]) := by
  obtain ⟨hx, hb, hr, hml, hown, hts, hlocks⟩ := id C0
  unfold sX9_fits_116 at hp
  obtain ⟨hz3, hp⟩ := o_chk hp
  obtain ⟨rfl, rfl⟩ := o_r hp
  exact W.zret (v := sx0) hx hb hr (zok_n hz3).1 (fun t ht hW => ⟨⟨sx0, (), rfl, rfl, by subst ht; exact hP⟩, hS.F ht⟩) hS.2.2 dX9_fits_116
def sX9_fits_124 (sx0 : Int32) (σ : TS) : Option (Int32 × TS) := (if zok sx0 = true then some (sx0, σ) else none)
set_option maxHeartbeats 4000000 in
set_option maxRecDepth 100000 in
theorem kX9_fits_124 {r : Int32} {u : TS} (C0 : gC RX9 cX9_fits 2 ((some .boolean)) wsX9_fits p s m args meth c) (hK : va_K D vwCl (tyL cy) s) (hJ : gJ 39 q) {H : Heap} {locs : List Loc} {σ : TS} {sx0 : Int32} (hP : va_P D vwCl (gS 39 q (MX cy q) σ) H) (hS : va_S (gA 39 q) s.heap H locs) {ls : Array Slot} (hl : lv_has ls 2 []) (hp : sX9_fits_124 sx0 σ = some (r, u)) : W p l e rmX9_fits s m args below meth c H locs 0 0 (MQ below (gQi D vwCl r (gS 39 q (MX cy q) u) (gA 39 q)) args s 0 0 (gA 39 q)) (F0 m 124 ls [.int sx0]) := by
  obtain ⟨hx, hb, hr, hml, hown, hts, hlocks⟩ := id C0
  unfold sX9_fits_124 at hp
  obtain ⟨hz4, hp⟩ := o_chk hp
  obtain ⟨rfl, rfl⟩ := o_r hp
  exact W.zret (v := sx0) hx hb hr (zok_n hz4).1 (fun t ht hW => ⟨⟨sx0, (), rfl, rfl, by subst ht; exact hP⟩, hS.F ht⟩) hS.2.2 dX9_fits_124
def sX9_fits_0 (x0 : Int32) (x1 : Int32) (σ : TS) : Option (Int32 × TS) := (if x0 = (97 : Int32) then ((sX9_in x1 ((0 : Int32)) ((3 : Int32)) σ).bind (fun z => sX9_fits_109 z.1 z.2)) else (if x0 = (105 : Int32) then ((sX9_in x1 ((0 : Int32)) ((3 : Int32)) σ).bind (fun z => sX9_fits_109 z.1 z.2)) else (if x0 = (106 : Int32) then ((sX9_in x1 ((0 : Int32)) ((9 : Int32)) σ).bind (fun z => sX9_fits_124 z.1 z.2)) else (if x0 = (108 : Int32) then ((sX9_in x1 ((-32768 : Int32)) ((32767 : Int32)) σ).bind (fun z => sX9_fits_102 z.1 z.2)) else (if x0 = (109 : Int32) then ((sX9_in x1 ((0 : Int32)) ((5 : Int32)) σ).bind (fun z => sX9_fits_116 z.1 z.2)) else (if x0 = (111 : Int32) then ((sX9_in x1 ((0 : Int32)) ((3 : Int32)) σ).bind (fun z => sX9_fits_109 z.1 z.2)) else (if x0 = (114 : Int32) then ((sX9_in x1 ((0 : Int32)) ((5 : Int32)) σ).bind (fun z => sX9_fits_116 z.1 z.2)) else (if x0 = (115 : Int32) then ((sX9_in x1 ((0 : Int32)) ((3 : Int32)) σ).bind (fun z => sX9_fits_109 z.1 z.2)) else some ((0 : Int32), σ)))))))))
set_option maxHeartbeats 4000000 in
set_option maxRecDepth 100000 in
theorem kX9_fits_0 {r : Int32} {u : TS} (C0 : gC RX9 cX9_fits 2 ((some .boolean)) wsX9_fits p s m args meth c) (hK : va_K D vwCl (tyL cy) s) (hJ : gJ 39 q) {H : Heap} {locs : List Loc} {σ : TS} {x0 : Int32} {x1 : Int32} (hP : va_P D vwCl (gS 39 q (MX cy q) σ) H) (hS : va_S (gA 39 q) s.heap H locs) {ls : Array Slot} (hl : lv_has ls 2 [(0, .int x0), (1, .int x1)]) (hp : sX9_fits_0 x0 x1 σ = some (r, u)) : W p l e rmX9_fits s m args below meth c H locs 0 0 (MQ below (gQi D vwCl r (gS 39 q (MX cy q) u) (gA 39 q)) args s 0 0 (gA 39 q)) (F0 m 0 ls []) := by
  obtain ⟨hx, hb, hr, hml, hown, hts, hlocks⟩ := id C0
  unfold sX9_fits_0 at hp
  refine lv_iload_n hx hb dX9_fits_0 rfl (lv_at hl 0 rfl) ?_
  by_cases hcd5 : x0 = (97 : Int32)
  · have hp := o_t hp hcd5
    refine g_sw hx hb (off := 102) (tgt := 103) dX9_fits_1 (by decide) (by rw [hcd5]; decide) (by decide) ?_
    refine lv_iload_n hx hb dX9_fits_103 rfl (lv_at hl 1 rfl) ?_
    refine lv_iconst (v := (0 : Int32)) hx hb dX9_fits_104 (by decide) ?_
    refine lv_iconst (v := (3 : Int32)) hx hb dX9_fits_105 (by decide) ?_
    obtain ⟨⟨r6, u7⟩, hq8, hp⟩ := o_b hp
    refine g_cSi (As := [.int x1, .int ((0 : Int32)), .int ((3 : Int32))]) (rest := []) hx hb hml hown hts hK hP hS (mX9_in l hJ hq8) (va_cwS 3 hts gX9_fits_X9_in rfl rfl rfl nVX9_in ⟨Nat.le_of_ble_eq_true rfl, Nat.le_of_ble_eq_true rfl⟩) rfl hl.1 rfl (Nat.le_of_ble_eq_true rfl) dX9_fits_106 ⟨Nat.le_of_ble_eq_true rfl, Nat.le_of_ble_eq_true rfl⟩ (fun H locs hP hS => ?_)
    exact kX9_fits_109 C0 hK hJ  hP hS (lv_sub hl [] rfl) hp
  have hp := o_f hp hcd5
  by_cases hcd9 : x0 = (105 : Int32)
  · have hp := o_t hp hcd9
    refine g_sw hx hb (off := 102) (tgt := 103) dX9_fits_1 (by decide) (by rw [hcd9]; decide) (by decide) ?_
    refine lv_iload_n hx hb dX9_fits_103 rfl (lv_at hl 1 rfl) ?_
    refine lv_iconst (v := (0 : Int32)) hx hb dX9_fits_104 (by decide) ?_
    refine lv_iconst (v := (3 : Int32)) hx hb dX9_fits_105 (by decide) ?_
    obtain ⟨⟨r10, u11⟩, hq12, hp⟩ := o_b hp
    refine g_cSi (As := [.int x1, .int ((0 : Int32)), .int ((3 : Int32))]) (rest := []) hx hb hml hown hts hK hP hS (mX9_in l hJ hq12) (va_cwS 3 hts gX9_fits_X9_in rfl rfl rfl nVX9_in ⟨Nat.le_of_ble_eq_true rfl, Nat.le_of_ble_eq_true rfl⟩) rfl hl.1 rfl (Nat.le_of_ble_eq_true rfl) dX9_fits_106 ⟨Nat.le_of_ble_eq_true rfl, Nat.le_of_ble_eq_true rfl⟩ (fun H locs hP hS => ?_)
    exact kX9_fits_109 C0 hK hJ  hP hS (lv_sub hl [] rfl) hp
  have hp := o_f hp hcd9
  by_cases hcd13 : x0 = (106 : Int32)
  · have hp := o_t hp hcd13
    refine g_sw hx hb (off := 116) (tgt := 117) dX9_fits_1 (by decide) (by rw [hcd13]; decide) (by decide) ?_
    refine lv_iload_n hx hb dX9_fits_117 rfl (lv_at hl 1 rfl) ?_
    refine lv_iconst (v := (0 : Int32)) hx hb dX9_fits_118 (by decide) ?_
    refine lv_bipush (v := (9 : Int32)) hx hb dX9_fits_119 (by decide) ?_
    obtain ⟨⟨r14, u15⟩, hq16, hp⟩ := o_b hp
    refine g_cSi (As := [.int x1, .int ((0 : Int32)), .int ((9 : Int32))]) (rest := []) hx hb hml hown hts hK hP hS (mX9_in l hJ hq16) (va_cwS 3 hts gX9_fits_X9_in rfl rfl rfl nVX9_in ⟨Nat.le_of_ble_eq_true rfl, Nat.le_of_ble_eq_true rfl⟩) rfl hl.1 rfl (Nat.le_of_ble_eq_true rfl) dX9_fits_121 ⟨Nat.le_of_ble_eq_true rfl, Nat.le_of_ble_eq_true rfl⟩ (fun H locs hP hS => ?_)
    exact kX9_fits_124 C0 hK hJ  hP hS (lv_sub hl [] rfl) hp
  have hp := o_f hp hcd13
  by_cases hcd17 : x0 = (108 : Int32)
  · have hp := o_t hp hcd17
    refine g_sw hx hb (off := 91) (tgt := 92) dX9_fits_1 (by decide) (by rw [hcd17]; decide) (by decide) ?_
    refine lv_iload_n hx hb dX9_fits_92 rfl (lv_at hl 1 rfl) ?_
    refine lv_sipush (v := (-32768 : Int32)) hx hb dX9_fits_93 (by decide) ?_
    refine lv_sipush (v := (32767 : Int32)) hx hb dX9_fits_96 (by decide) ?_
    obtain ⟨⟨r18, u19⟩, hq20, hp⟩ := o_b hp
    refine g_cSi (As := [.int x1, .int ((-32768 : Int32)), .int ((32767 : Int32))]) (rest := []) hx hb hml hown hts hK hP hS (mX9_in l hJ hq20) (va_cwS 3 hts gX9_fits_X9_in rfl rfl rfl nVX9_in ⟨Nat.le_of_ble_eq_true rfl, Nat.le_of_ble_eq_true rfl⟩) rfl hl.1 rfl (Nat.le_of_ble_eq_true rfl) dX9_fits_99 ⟨Nat.le_of_ble_eq_true rfl, Nat.le_of_ble_eq_true rfl⟩ (fun H locs hP hS => ?_)
    exact kX9_fits_102 C0 hK hJ  hP hS (lv_sub hl [] rfl) hp
  have hp := o_f hp hcd17
  by_cases hcd21 : x0 = (109 : Int32)
  · have hp := o_t hp hcd21
    refine g_sw hx hb (off := 109) (tgt := 110) dX9_fits_1 (by decide) (by rw [hcd21]; decide) (by decide) ?_
    refine lv_iload_n hx hb dX9_fits_110 rfl (lv_at hl 1 rfl) ?_
    refine lv_iconst (v := (0 : Int32)) hx hb dX9_fits_111 (by decide) ?_
    refine lv_iconst (v := (5 : Int32)) hx hb dX9_fits_112 (by decide) ?_
    obtain ⟨⟨r22, u23⟩, hq24, hp⟩ := o_b hp
    refine g_cSi (As := [.int x1, .int ((0 : Int32)), .int ((5 : Int32))]) (rest := []) hx hb hml hown hts hK hP hS (mX9_in l hJ hq24) (va_cwS 3 hts gX9_fits_X9_in rfl rfl rfl nVX9_in ⟨Nat.le_of_ble_eq_true rfl, Nat.le_of_ble_eq_true rfl⟩) rfl hl.1 rfl (Nat.le_of_ble_eq_true rfl) dX9_fits_113 ⟨Nat.le_of_ble_eq_true rfl, Nat.le_of_ble_eq_true rfl⟩ (fun H locs hP hS => ?_)
    exact kX9_fits_116 C0 hK hJ  hP hS (lv_sub hl [] rfl) hp
  have hp := o_f hp hcd21
  by_cases hcd25 : x0 = (111 : Int32)
  · have hp := o_t hp hcd25
    refine g_sw hx hb (off := 102) (tgt := 103) dX9_fits_1 (by decide) (by rw [hcd25]; decide) (by decide) ?_
    refine lv_iload_n hx hb dX9_fits_103 rfl (lv_at hl 1 rfl) ?_
    refine lv_iconst (v := (0 : Int32)) hx hb dX9_fits_104 (by decide) ?_
    refine lv_iconst (v := (3 : Int32)) hx hb dX9_fits_105 (by decide) ?_
    obtain ⟨⟨r26, u27⟩, hq28, hp⟩ := o_b hp
    refine g_cSi (As := [.int x1, .int ((0 : Int32)), .int ((3 : Int32))]) (rest := []) hx hb hml hown hts hK hP hS (mX9_in l hJ hq28) (va_cwS 3 hts gX9_fits_X9_in rfl rfl rfl nVX9_in ⟨Nat.le_of_ble_eq_true rfl, Nat.le_of_ble_eq_true rfl⟩) rfl hl.1 rfl (Nat.le_of_ble_eq_true rfl) dX9_fits_106 ⟨Nat.le_of_ble_eq_true rfl, Nat.le_of_ble_eq_true rfl⟩ (fun H locs hP hS => ?_)
    exact kX9_fits_109 C0 hK hJ  hP hS (lv_sub hl [] rfl) hp
  have hp := o_f hp hcd25
  by_cases hcd29 : x0 = (114 : Int32)
  · have hp := o_t hp hcd29
    refine g_sw hx hb (off := 109) (tgt := 110) dX9_fits_1 (by decide) (by rw [hcd29]; decide) (by decide) ?_
    refine lv_iload_n hx hb dX9_fits_110 rfl (lv_at hl 1 rfl) ?_
    refine lv_iconst (v := (0 : Int32)) hx hb dX9_fits_111 (by decide) ?_
    refine lv_iconst (v := (5 : Int32)) hx hb dX9_fits_112 (by decide) ?_
    obtain ⟨⟨r30, u31⟩, hq32, hp⟩ := o_b hp
    refine g_cSi (As := [.int x1, .int ((0 : Int32)), .int ((5 : Int32))]) (rest := []) hx hb hml hown hts hK hP hS (mX9_in l hJ hq32) (va_cwS 3 hts gX9_fits_X9_in rfl rfl rfl nVX9_in ⟨Nat.le_of_ble_eq_true rfl, Nat.le_of_ble_eq_true rfl⟩) rfl hl.1 rfl (Nat.le_of_ble_eq_true rfl) dX9_fits_113 ⟨Nat.le_of_ble_eq_true rfl, Nat.le_of_ble_eq_true rfl⟩ (fun H locs hP hS => ?_)
    exact kX9_fits_116 C0 hK hJ  hP hS (lv_sub hl [] rfl) hp
  have hp := o_f hp hcd29
  by_cases hcd33 : x0 = (115 : Int32)
  · have hp := o_t hp hcd33
    refine g_sw hx hb (off := 102) (tgt := 103) dX9_fits_1 (by decide) (by rw [hcd33]; decide) (by decide) ?_
    refine lv_iload_n hx hb dX9_fits_103 rfl (lv_at hl 1 rfl) ?_
    refine lv_iconst (v := (0 : Int32)) hx hb dX9_fits_104 (by decide) ?_
    refine lv_iconst (v := (3 : Int32)) hx hb dX9_fits_105 (by decide) ?_
    obtain ⟨⟨r34, u35⟩, hq36, hp⟩ := o_b hp
    refine g_cSi (As := [.int x1, .int ((0 : Int32)), .int ((3 : Int32))]) (rest := []) hx hb hml hown hts hK hP hS (mX9_in l hJ hq36) (va_cwS 3 hts gX9_fits_X9_in rfl rfl rfl nVX9_in ⟨Nat.le_of_ble_eq_true rfl, Nat.le_of_ble_eq_true rfl⟩) rfl hl.1 rfl (Nat.le_of_ble_eq_true rfl) dX9_fits_106 ⟨Nat.le_of_ble_eq_true rfl, Nat.le_of_ble_eq_true rfl⟩ (fun H locs hP hS => ?_)
    exact kX9_fits_109 C0 hK hJ  hP hS (lv_sub hl [] rfl) hp
  have hp := o_f hp hcd33
  refine g_sw hx hb (off := 124) (tgt := 125) dX9_fits_1 (by decide) (g_swd (vs := [(97 : Int32), (105 : Int32), (106 : Int32), (108 : Int32), (109 : Int32), (111 : Int32), (114 : Int32), (115 : Int32)]) (by decide) (List.not_mem_cons_of_ne_of_not_mem hcd5 (List.not_mem_cons_of_ne_of_not_mem hcd9 (List.not_mem_cons_of_ne_of_not_mem hcd13 (List.not_mem_cons_of_ne_of_not_mem hcd17 (List.not_mem_cons_of_ne_of_not_mem hcd21 (List.not_mem_cons_of_ne_of_not_mem hcd25 (List.not_mem_cons_of_ne_of_not_mem hcd29 (List.not_mem_cons_of_ne_of_not_mem hcd33 List.not_mem_nil))))))))) (by decide) ?_
  refine lv_iconst (v := (0 : Int32)) hx hb dX9_fits_125 (by decide) ?_
  obtain ⟨rfl, rfl⟩ := o_r hp
  exact W.zret (v := (0 : Int32)) hx hb hr (zok_n (by decide)).1 (fun t ht hW => ⟨⟨(0 : Int32), (), rfl, rfl, by subst ht; exact hP⟩, hS.F ht⟩) hS.2.2 dX9_fits_126
def sX9_fits (x0 : Int32) (x1 : Int32) (σ : TS) : Option (Int32 × TS) := sX9_fits_0 x0 x1 σ
theorem nVX9_fits : yX9_fits.cls ≠ "java/lang/invoke/MethodHandle" ∧ yX9_fits.cls ≠ "java/lang/invoke/VarHandle" ∧ (parseMethodDescriptor yX9_fits.desc).map (fun d => d.parameters.length) = some 2 := by decide +kernel
set_option maxHeartbeats 4000000 in
set_option maxRecDepth 100000 in
theorem mX9_fits (l : Launch) (hJ : gJ 39 q) {x0 : Int32} {x1 : Int32} {σ : TS} {r : Int32} {u : TS} (hp : sX9_fits x0 x1 σ = some (r, u)) : Met l yX9_fits wsX9_fits rmX9_fits (va_Pc [.int x0, .int x1] (gPre D vwCl (tyL cy) (gS 39 q (MX cy q) σ))) (gQi D vwCl r (gS 39 q (MX cy q) u) (gA 39 q)) 0 0 (gA 39 q) := by
  refine Met.ofW (cc := cX9_fits) (maxL := 2) (ret := (some .boolean)) (by decide +kernel) rfl ?_
  intro p e s m args below meth c s₁ B hml hv
  obtain ⟨rfl, hP, hK⟩ := hv
  have hl := lv_entry ([.int x0, .int x1]) (n := 2) (Nat.le_of_ble_eq_true rfl)
  rw [lg_entry_eq]
  generalize (lg_sl ([.int x0, .int x1]) ++ List.replicate (2 - (lg_sl ([.int x0, .int x1])).length) Slot.unset).toArray = ls at hl ⊢
  have hl : lv_has ls 2 [(0, .int x0), (1, .int x1)] := hl
  exact kX9_fits_0 ⟨B.exec, B.bytes, B.returns, hml, findClass_of_methodNamed B.named, atoms_spec (ws := wsX9_fits) B.pre, B.notSynchronized⟩ hK hJ  hP va_S.rf hl hp
theorem miX9_code_X9 : ∀ w ∈ u_ws RX9 TX9 44, w ∈ wsX9_code := by decide +kernel
theorem mwX9_code_0 : Cond.fieldLink RX9 130 "TriplaneModel" "thrown" "I" ∈ wsX9_code := by decide +kernel
theorem mwX9_code_1 : Cond.fieldLink RX9 20 "TriplaneModel" "sizes" "[I" ∈ wsX9_code := by decide +kernel
theorem mwX9_code_2 : Cond.fieldLink RX9 9 "TriplaneModel" "kinds" "[C" ∈ wsX9_code := by decide +kernel
theorem mwX9_code_3 : Cond.fieldLink RX9 13 "TriplaneModel" "coded" "[I" ∈ wsX9_code := by decide +kernel
theorem mwX9_code_4 : Cond.fieldLink RX9 17 "TriplaneModel" "numbers" "[I" ∈ wsX9_code := by decide +kernel
abbrev rmX9_code : Room := { frames := 2, cells := 0, slots := 0, locals := 43 }
def sX9_code_50 (x1 : Int32) (x2 : Int32) (x3 : Int32) (x4 : Int32) (sx1 : Int32) (σ : TS) : Option (Int32 × TS) := (if ((st2 σ 0 0 sx1) 0 0) ≤ 0 then (if vin x1 3 = true then (if vin ((x1 * ((10 : Int32))) + ((st2 σ 0 0 sx1) 4 (x1.toNatClampNeg))) 30 = true then some ((st2 (st2 (st2 (st2 (st2 σ 0 0 sx1) 1 (((x1 * ((10 : Int32))) + ((st2 σ 0 0 sx1) 4 (x1.toNatClampNeg))).toNatClampNeg) (vp_nar .char x2)) 2 (((x1 * ((10 : Int32))) + ((st2 σ 0 0 sx1) 4 (x1.toNatClampNeg))).toNatClampNeg) x3) 3 (((x1 * ((10 : Int32))) + ((st2 σ 0 0 sx1) 4 (x1.toNatClampNeg))).toNatClampNeg) x4) 4 (x1.toNatClampNeg) (((st2 (st2 (st2 (st2 σ 0 0 sx1) 1 (((x1 * ((10 : Int32))) + ((st2 σ 0 0 sx1) 4 (x1.toNatClampNeg))).toNatClampNeg) (vp_nar .char x2)) 2 (((x1 * ((10 : Int32))) + ((st2 σ 0 0 sx1) 4 (x1.toNatClampNeg))).toNatClampNeg) x3) 3 (((x1 * ((10 : Int32))) + ((st2 σ 0 0 sx1) 4 (x1.toNatClampNeg))).toNatClampNeg) x4) 4 (x1.toNatClampNeg)) + ((1 : Int32)))) 4 (x1.toNatClampNeg), st2 (st2 (st2 (st2 (st2 σ 0 0 sx1) 1 (((x1 * ((10 : Int32))) + ((st2 σ 0 0 sx1) 4 (x1.toNatClampNeg))).toNatClampNeg) (vp_nar .char x2)) 2 (((x1 * ((10 : Int32))) + ((st2 σ 0 0 sx1) 4 (x1.toNatClampNeg))).toNatClampNeg) x3) 3 (((x1 * ((10 : Int32))) + ((st2 σ 0 0 sx1) 4 (x1.toNatClampNeg))).toNatClampNeg) x4) 4 (x1.toNatClampNeg) (((st2 (st2 (st2 (st2 σ 0 0 sx1) 1 (((x1 * ((10 : Int32))) + ((st2 σ 0 0 sx1) 4 (x1.toNatClampNeg))).toNatClampNeg) (vp_nar .char x2)) 2 (((x1 * ((10 : Int32))) + ((st2 σ 0 0 sx1) 4 (x1.toNatClampNeg))).toNatClampNeg) x3) 3 (((x1 * ((10 : Int32))) + ((st2 σ 0 0 sx1) 4 (x1.toNatClampNeg))).toNatClampNeg) x4) 4 (x1.toNatClampNeg)) + ((1 : Int32)))) else none) else none) else some ((0 : Int32), st2 σ 0 0 sx1))
set_option maxHeartbeats 4000000 in
set_option maxRecDepth 100000 in
theorem kX9_code_50 {r : Int32} {u : TS} (C0 : gC RX9 cX9_code 6 ((some .int)) wsX9_code p s m args meth c) (hK : va_K D vwCl (tyL cy) s) (hJ : gJ 39 q) {H : Heap} {locs : List Loc} {σ : TS} {x1 : Int32} {x2 : Int32} {x3 : Int32} {x4 : Int32} {sx1 : Int32} (hP : va_P D vwCl (gS 39 q (MX cy q) σ) H) (hS : va_S (gA 39 q) s.heap H locs) {ls : Array Slot} (hl : lv_has ls 6 [(0, .ref (q (0))), (1, .int x1), (2, .int x2), (3, .int x3), (4, .int x4)]) (hp : sX9_code_50 x1 x2 x3 x4 sx1 σ = some (r, u)) : W p l e rmX9_code s m args below meth c H locs 0 0 (MQ below (gQi D vwCl r (gS 39 q (MX cy q) u) (gA 39 q)) args s 0 0 (gA 39 q)) (F0 m 50 ls [.int sx1, .ref (q (0))]) := by
  obtain ⟨hx, hb, hr, hml, hown, hts, hlocks⟩ := id C0
  unfold sX9_code_50 at hp
  refine g_put (v := sx1) hx hb hts miX9_code_X9 tyX9 tyX9_ok nmX9 hown hK hJ hP hS (kk_Mod) (ce_Mod) rfl 0 (by decide) mwX9_code_0 rfl rfl rfl (Nat.le_of_ble_eq_true rfl) rfl dX9_code_50 (fun H locs hP hS => ?_)
  refine lv_aload_n hx hb dX9_code_53 rfl (lv_at hl 0 rfl) ?_
  refine g_get (v := .int ((st2 σ 0 0 sx1) 0 0)) hx hb hts miX9_code_X9 hown hK hP (kk_Mod) (ce_Mod) rfl 0 (by decide) mwX9_code_0 rfl dX9_code_54 ?_
  refine lv_if_le (tgt := 62) hx hb dX9_code_57 (by decide) (fun hcd1 => ?_) (fun hcd1 => ?_)
  · have hp := o_t hp hcd1
    refine lv_iload_n hx hb dX9_code_62 rfl (lv_at hl 1 rfl) ?_
    refine lv_bipush (v := (10 : Int32)) hx hb dX9_code_63 (by decide) ?_
    refine lv_imul hx hb dX9_code_65 ?_
    refine lv_aload_n hx hb dX9_code_66 rfl (lv_at hl 0 rfl) ?_
    refine g_get (v := .ref (q (4))) hx hb hts miX9_code_X9 hown hK hP (kk_Mod) (ce_Mod) rfl 6 (by decide) mwX9_code_1 rfl dX9_code_67 ?_
    refine lv_iload_n hx hb dX9_code_70 rfl (lv_at hl 1 rfl) ?_
    obtain ⟨hi2, hp⟩ := o_chk hp
    refine g_iald (j := x1.toNatClampNeg) hx hb hK hP (kk_M_sizes) (ce_M_sizes) 0 rfl (vin_of hi2) rfl dX9_code_71 ?_
    refine lv_iadd hx hb dX9_code_72 ?_
    refine lv_istore (lv' := [(5, .int ((x1 * ((10 : Int32))) + ((st2 σ 0 0 sx1) 4 (x1.toNatClampNeg)))), (0, .ref (q (0))), (1, .int x1), (2, .int x2), (3, .int x3), (4, .int x4)]) hx hb dX9_code_73 hl (by decide) rfl (fun ls hl => ?_)
    refine lv_aload_n hx hb dX9_code_75 rfl (lv_at hl 1 rfl) ?_
    refine g_get (v := .ref (q (1))) hx hb hts miX9_code_X9 hown hK hP (kk_Mod) (ce_Mod) rfl 3 (by decide) mwX9_code_2 rfl dX9_code_76 ?_
    refine lv_iload hx hb dX9_code_79 (lv_at hl 0 rfl) ?_
    refine lv_iload_n hx hb dX9_code_81 rfl (lv_at hl 3 rfl) ?_
    obtain ⟨hi3, hp⟩ := o_chk hp
    refine g_cast (j := ((x1 * ((10 : Int32))) + ((st2 σ 0 0 sx1) 4 (x1.toNatClampNeg))).toNatClampNeg) hx hb hK hJ hP hS (kk_M_kinds) (ce_M_kinds) 2 rfl (vin_of hi3) rfl dX9_code_82 (fun H locs hP hS => ?_)
    refine lv_aload_n hx hb dX9_code_83 rfl (lv_at hl 1 rfl) ?_
    refine g_get (v := .ref (q (2))) hx hb hts miX9_code_X9 hown hK hP (kk_Mod) (ce_Mod) rfl 4 (by decide) mwX9_code_3 rfl dX9_code_84 ?_
    refine lv_iload hx hb dX9_code_87 (lv_at hl 0 rfl) ?_
    refine lv_iload_n hx hb dX9_code_89 rfl (lv_at hl 4 rfl) ?_
    refine g_iast (j := ((x1 * ((10 : Int32))) + ((st2 σ 0 0 sx1) 4 (x1.toNatClampNeg))).toNatClampNeg) hx hb hK hJ hP hS (kk_M_coded) (ce_M_coded) 0 rfl (vin_of hi3) rfl dX9_code_90 (fun H locs hP hS => ?_)
    refine lv_aload_n hx hb dX9_code_91 rfl (lv_at hl 1 rfl) ?_
    refine g_get (v := .ref (q (3))) hx hb hts miX9_code_X9 hown hK hP (kk_Mod) (ce_Mod) rfl 5 (by decide) mwX9_code_4 rfl dX9_code_92 ?_
    refine lv_iload hx hb dX9_code_95 (lv_at hl 0 rfl) ?_
    refine lv_iload hx hb dX9_code_97 (lv_at hl 5 rfl) ?_
    refine g_iast (j := ((x1 * ((10 : Int32))) + ((st2 σ 0 0 sx1) 4 (x1.toNatClampNeg))).toNatClampNeg) hx hb hK hJ hP hS (kk_M_numbers) (ce_M_numbers) 0 rfl (vin_of hi3) rfl dX9_code_99 (fun H locs hP hS => ?_)
    refine lv_aload_n hx hb dX9_code_100 rfl (lv_at hl 1 rfl) ?_
    refine g_get (v := .ref (q (4))) hx hb hts miX9_code_X9 hown hK hP (kk_Mod) (ce_Mod) rfl 6 (by decide) mwX9_code_1 rfl dX9_code_101 ?_
    refine lv_iload_n hx hb dX9_code_104 rfl (lv_at hl 2 rfl) ?_
    refine lv_dup2_11 hx hb dX9_code_105 rfl rfl ?_
    refine g_iald (j := x1.toNatClampNeg) hx hb hK hP (kk_M_sizes) (ce_M_sizes) 0 rfl (vin_of hi2) rfl dX9_code_106 ?_
    refine lv_iconst (v := (1 : Int32)) hx hb dX9_code_107 (by decide) ?_
    refine lv_iadd hx hb dX9_code_108 ?_
    refine g_iast (j := x1.toNatClampNeg) hx hb hK hJ hP hS (kk_M_sizes) (ce_M_sizes) 0 rfl (vin_of hi2) rfl dX9_code_109 (fun H locs hP hS => ?_)
    refine lv_aload_n hx hb dX9_code_110 rfl (lv_at hl 1 rfl) ?_
    refine g_get (v := .ref (q (4))) hx hb hts miX9_code_X9 hown hK hP (kk_Mod) (ce_Mod) rfl 6 (by decide) mwX9_code_1 rfl dX9_code_111 ?_
    refine lv_iload_n hx hb dX9_code_114 rfl (lv_at hl 2 rfl) ?_
    refine g_iald (j := x1.toNatClampNeg) hx hb hK hP (kk_M_sizes) (ce_M_sizes) 0 rfl (vin_of hi2) rfl dX9_code_115 ?_
    obtain ⟨rfl, rfl⟩ := o_r hp
    exact W.iret (v := (st2 (st2 (st2 (st2 (st2 σ 0 0 sx1) 1 (((x1 * ((10 : Int32))) + ((st2 σ 0 0 sx1) 4 (x1.toNatClampNeg))).toNatClampNeg) (vp_nar .char x2)) 2 (((x1 * ((10 : Int32))) + ((st2 σ 0 0 sx1) 4 (x1.toNatClampNeg))).toNatClampNeg) x3) 3 (((x1 * ((10 : Int32))) + ((st2 σ 0 0 sx1) 4 (x1.toNatClampNeg))).toNatClampNeg) x4) 4 (x1.toNatClampNeg) (((st2 (st2 (st2 (st2 σ 0 0 sx1) 1 (((x1 * ((10 : Int32))) + ((st2 σ 0 0 sx1) 4 (x1.toNatClampNeg))).toNatClampNeg) (vp_nar .char x2)) 2 (((x1 * ((10 : Int32))) + ((st2 σ 0 0 sx1) 4 (x1.toNatClampNeg))).toNatClampNeg) x3) 3 (((x1 * ((10 : Int32))) + ((st2 σ 0 0 sx1) 4 (x1.toNatClampNeg))).toNatClampNeg) x4) 4 (x1.toNatClampNeg)) + ((1 : Int32)))) 4 (x1.toNatClampNeg)) hx hb hr (fun t ht hW => ⟨⟨(st2 (st2 (st2 (st2 (st2 σ 0 0 sx1) 1 (((x1 * ((10 : Int32))) + ((st2 σ 0 0 sx1) 4 (x1.toNatClampNeg))).toNatClampNeg) (vp_nar .char x2)) 2 (((x1 * ((10 : Int32))) + ((st2 σ 0 0 sx1) 4 (x1.toNatClampNeg))).toNatClampNeg) x3) 3 (((x1 * ((10 : Int32))) + ((st2 σ 0 0 sx1) 4 (x1.toNatClampNeg))).toNatClampNeg) x4) 4 (x1.toNatClampNeg) (((st2 (st2 (st2 (st2 σ 0 0 sx1) 1 (((x1 * ((10 : Int32))) + ((st2 σ 0 0 sx1) 4 (x1.toNatClampNeg))).toNatClampNeg) (vp_nar .char x2)) 2 (((x1 * ((10 : Int32))) + ((st2 σ 0 0 sx1) 4 (x1.toNatClampNeg))).toNatClampNeg) x3) 3 (((x1 * ((10 : Int32))) + ((st2 σ 0 0 sx1) 4 (x1.toNatClampNeg))).toNatClampNeg) x4) 4 (x1.toNatClampNeg)) + ((1 : Int32)))) 4 (x1.toNatClampNeg), (), rfl, rfl, by subst ht; exact hP⟩, hS.F ht⟩) hS.2.2 dX9_code_116
  · have hp := o_f hp hcd1
    refine lv_iconst (v := (0 : Int32)) hx hb dX9_code_60 (by decide) ?_
    obtain ⟨rfl, rfl⟩ := o_r hp
    exact W.iret (v := (0 : Int32)) hx hb hr (fun t ht hW => ⟨⟨(0 : Int32), (), rfl, rfl, by subst ht; exact hP⟩, hS.F ht⟩) hS.2.2 dX9_code_61
def sX9_code_30 (x1 : Int32) (x2 : Int32) (x3 : Int32) (x4 : Int32) (σ : TS) : Option (Int32 × TS) := sX9_code_50 x1 x2 x3 x4 ((2 : Int32)) σ
set_option maxHeartbeats 4000000 in
set_option maxRecDepth 100000 in
theorem kX9_code_30 {r : Int32} {u : TS} (C0 : gC RX9 cX9_code 6 ((some .int)) wsX9_code p s m args meth c) (hK : va_K D vwCl (tyL cy) s) (hJ : gJ 39 q) {H : Heap} {locs : List Loc} {σ : TS} {x1 : Int32} {x2 : Int32} {x3 : Int32} {x4 : Int32} (hP : va_P D vwCl (gS 39 q (MX cy q) σ) H) (hS : va_S (gA 39 q) s.heap H locs) {ls : Array Slot} (hl : lv_has ls 6 [(0, .ref (q (0))), (1, .int x1), (2, .int x2), (3, .int x3), (4, .int x4)]) (hp : sX9_code_30 x1 x2 x3 x4 σ = some (r, u)) : W p l e rmX9_code s m args below meth c H locs 0 0 (MQ below (gQi D vwCl r (gS 39 q (MX cy q) u) (gA 39 q)) args s 0 0 (gA 39 q)) (F0 m 30 ls [.ref (q (0))]) := by
  obtain ⟨hx, hb, hr, hml, hown, hts, hlocks⟩ := id C0
  unfold sX9_code_30 at hp
  refine lv_iconst (v := (2 : Int32)) hx hb dX9_code_30 (by decide) ?_
  refine lv_goto (tgt := 50) hx hb dX9_code_31 (by decide) ?_
  exact kX9_code_50 C0 hK hJ  hP hS hl hp
def sX9_code_27 (x1 : Int32) (x2 : Int32) (x3 : Int32) (x4 : Int32) (sx1 : Int32) (σ : TS) : Option (Int32 × TS) := (if sx1 = 0 then sX9_code_30 x1 x2 x3 x4 σ else (if vin x1 3 = true then (if (σ 4 (x1.toNatClampNeg)) = ((10 : Int32)) then sX9_code_50 x1 x2 x3 x4 ((3 : Int32)) σ else sX9_code_50 x1 x2 x3 x4 ((0 : Int32)) σ) else none))
set_option maxHeartbeats 4000000 in
set_option maxRecDepth 100000 in
theorem kX9_code_27 {r : Int32} {u : TS} (C0 : gC RX9 cX9_code 6 ((some .int)) wsX9_code p s m args meth c) (hK : va_K D vwCl (tyL cy) s) (hJ : gJ 39 q) {H : Heap} {locs : List Loc} {σ : TS} {x1 : Int32} {x2 : Int32} {x3 : Int32} {x4 : Int32} {sx1 : Int32} (hP : va_P D vwCl (gS 39 q (MX cy q) σ) H) (hS : va_S (gA 39 q) s.heap H locs) {ls : Array Slot} (hl : lv_has ls 6 [(0, .ref (q (0))), (1, .int x1), (2, .int x2), (3, .int x3), (4, .int x4)]) (hp : sX9_code_27 x1 x2 x3 x4 sx1 σ = some (r, u)) : W p l e rmX9_code s m args below meth c H locs 0 0 (MQ below (gQi D vwCl r (gS 39 q (MX cy q) u) (gA 39 q)) args s 0 0 (gA 39 q)) (F0 m 27 ls [.int sx1, .ref (q (0))]) := by
  obtain ⟨hx, hb, hr, hml, hown, hts, hlocks⟩ := id C0
  unfold sX9_code_27 at hp
  refine lv_if_ne (tgt := 34) hx hb dX9_code_27 (by decide) (fun hcd4 => ?_) (fun hcd4 => ?_)
  · have hp := o_f hp hcd4
    refine lv_aload_n hx hb dX9_code_34 rfl (lv_at hl 0 rfl) ?_
    refine g_get (v := .ref (q (4))) hx hb hts miX9_code_X9 hown hK hP (kk_Mod) (ce_Mod) rfl 6 (by decide) mwX9_code_1 rfl dX9_code_35 ?_
    refine lv_iload_n hx hb dX9_code_38 rfl (lv_at hl 1 rfl) ?_
    obtain ⟨hi5, hp⟩ := o_chk hp
    refine g_iald (j := x1.toNatClampNeg) hx hb hK hP (kk_M_sizes) (ce_M_sizes) 0 rfl (vin_of hi5) rfl dX9_code_39 ?_
    refine lv_bipush (v := (10 : Int32)) hx hb dX9_code_40 (by decide) ?_
    refine lv_icmp_ne (tgt := 49) hx hb dX9_code_42 (by decide) (fun hcd6 => ?_) (fun hcd6 => ?_)
    · have hp := o_f hp hcd6
      refine lv_iconst (v := (0 : Int32)) hx hb dX9_code_49 (by decide) ?_
      exact kX9_code_50 C0 hK hJ  hP hS hl hp
    · have hp := o_t hp hcd6
      refine lv_iconst (v := (3 : Int32)) hx hb dX9_code_45 (by decide) ?_
      refine lv_goto (tgt := 50) hx hb dX9_code_46 (by decide) ?_
      exact kX9_code_50 C0 hK hJ  hP hS hl hp
  · have hp := o_t hp hcd4
    exact kX9_code_30 C0 hK hJ  hP hS hl hp
def sX9_code_20 (x1 : Int32) (x2 : Int32) (x3 : Int32) (x4 : Int32) (sx1 : Int32) (σ : TS) : Option (Int32 × TS) := (if sx1 = 0 then sX9_code_30 x1 x2 x3 x4 σ else ((sX9_isFour x3 σ).bind (fun z => sX9_code_27 x1 x2 x3 x4 z.1 z.2)))
set_option maxHeartbeats 4000000 in
set_option maxRecDepth 100000 in
theorem kX9_code_20 {r : Int32} {u : TS} (C0 : gC RX9 cX9_code 6 ((some .int)) wsX9_code p s m args meth c) (hK : va_K D vwCl (tyL cy) s) (hJ : gJ 39 q) {H : Heap} {locs : List Loc} {σ : TS} {x1 : Int32} {x2 : Int32} {x3 : Int32} {x4 : Int32} {sx1 : Int32} (hP : va_P D vwCl (gS 39 q (MX cy q) σ) H) (hS : va_S (gA 39 q) s.heap H locs) {ls : Array Slot} (hl : lv_has ls 6 [(0, .ref (q (0))), (1, .int x1), (2, .int x2), (3, .int x3), (4, .int x4)]) (hp : sX9_code_20 x1 x2 x3 x4 sx1 σ = some (r, u)) : W p l e rmX9_code s m args below meth c H locs 0 0 (MQ below (gQi D vwCl r (gS 39 q (MX cy q) u) (gA 39 q)) args s 0 0 (gA 39 q)) (F0 m 20 ls [.int sx1, .ref (q (0))]) := by
  obtain ⟨hx, hb, hr, hml, hown, hts, hlocks⟩ := id C0
  unfold sX9_code_20 at hp
  refine lv_if_eq (tgt := 30) hx hb dX9_code_20 (by decide) (fun hcd7 => ?_) (fun hcd7 => ?_)
  · have hp := o_t hp hcd7
    exact kX9_code_30 C0 hK hJ  hP hS hl hp
  · have hp := o_f hp hcd7
    refine lv_iload_n hx hb dX9_code_23 rfl (lv_at hl 3 rfl) ?_
    obtain ⟨⟨r8, u9⟩, hq10, hp⟩ := o_b hp
    refine g_cSi (As := [.int x3]) (rest := [.ref (q (0))]) hx hb hml hown hts hK hP hS (mX9_isFour l hJ hq10) (va_cwS 1 hts gX9_code_X9_isFour rfl rfl rfl nVX9_isFour ⟨Nat.le_of_ble_eq_true rfl, Nat.le_of_ble_eq_true rfl⟩) rfl hl.1 rfl (Nat.le_of_ble_eq_true rfl) dX9_code_24 ⟨Nat.le_of_ble_eq_true rfl, Nat.le_of_ble_eq_true rfl⟩ (fun H locs hP hS => ?_)
    exact kX9_code_27 C0 hK hJ  hP hS hl hp
def sX9_code_8 (x1 : Int32) (x2 : Int32) (x3 : Int32) (x4 : Int32) (sx0 : Int32) (σ : TS) : Option (Int32 × TS) := (if sx0 = 0 then ((sX9_fits x2 x4 σ).bind (fun z => sX9_code_20 x1 x2 x3 x4 z.1 z.2)) else some ((0 : Int32), σ))
set_option maxHeartbeats 4000000 in
set_option maxRecDepth 100000 in
theorem kX9_code_8 {r : Int32} {u : TS} (C0 : gC RX9 cX9_code 6 ((some .int)) wsX9_code p s m args meth c) (hK : va_K D vwCl (tyL cy) s) (hJ : gJ 39 q) {H : Heap} {locs : List Loc} {σ : TS} {x1 : Int32} {x2 : Int32} {x3 : Int32} {x4 : Int32} {sx0 : Int32} (hP : va_P D vwCl (gS 39 q (MX cy q) σ) H) (hS : va_S (gA 39 q) s.heap H locs) {ls : Array Slot} (hl : lv_has ls 6 [(0, .ref (q (0))), (1, .int x1), (2, .int x2), (3, .int x3), (4, .int x4)]) (hp : sX9_code_8 x1 x2 x3 x4 sx0 σ = some (r, u)) : W p l e rmX9_code s m args below meth c H locs 0 0 (MQ below (gQi D vwCl r (gS 39 q (MX cy q) u) (gA 39 q)) args s 0 0 (gA 39 q)) (F0 m 8 ls [.int sx0]) := by
  obtain ⟨hx, hb, hr, hml, hown, hts, hlocks⟩ := id C0
  unfold sX9_code_8 at hp
  refine lv_if_eq (tgt := 13) hx hb dX9_code_8 (by decide) (fun hcd11 => ?_) (fun hcd11 => ?_)
  · have hp := o_t hp hcd11
    refine lv_aload_n hx hb dX9_code_13 rfl (lv_at hl 0 rfl) ?_
    refine lv_iload_n hx hb dX9_code_14 rfl (lv_at hl 2 rfl) ?_
    refine lv_iload hx hb dX9_code_15 (lv_at hl 4 rfl) ?_
    obtain ⟨⟨r12, u13⟩, hq14, hp⟩ := o_b hp
    refine g_cSi (As := [.int x2, .int x4]) (rest := [.ref (q (0))]) hx hb hml hown hts hK hP hS (mX9_fits l hJ hq14) (va_cwS 2 hts gX9_code_X9_fits rfl rfl rfl nVX9_fits ⟨Nat.le_of_ble_eq_true rfl, Nat.le_of_ble_eq_true rfl⟩) rfl hl.1 rfl (Nat.le_of_ble_eq_true rfl) dX9_code_17 ⟨Nat.le_of_ble_eq_true rfl, Nat.le_of_ble_eq_true rfl⟩ (fun H locs hP hS => ?_)
    exact kX9_code_20 C0 hK hJ  hP hS hl hp
  · have hp := o_f hp hcd11
    refine lv_iconst (v := (0 : Int32)) hx hb dX9_code_11 (by decide) ?_
    obtain ⟨rfl, rfl⟩ := o_r hp
    exact W.iret (v := (0 : Int32)) hx hb hr (fun t ht hW => ⟨⟨(0 : Int32), (), rfl, rfl, by subst ht; exact hP⟩, hS.F ht⟩) hS.2.2 dX9_code_12
def sX9_code_5 (x1 : Int32) (x2 : Int32) (x3 : Int32) (x4 : Int32) (sx1 : Int32) (σ : TS) : Option (Int32 × TS) := ((sX9_isOut sx1 σ).bind (fun z => sX9_code_8 x1 x2 x3 x4 z.1 z.2))
set_option maxHeartbeats 4000000 in
set_option maxRecDepth 100000 in
theorem kX9_code_5 {r : Int32} {u : TS} (C0 : gC RX9 cX9_code 6 ((some .int)) wsX9_code p s m args meth c) (hK : va_K D vwCl (tyL cy) s) (hJ : gJ 39 q) {H : Heap} {locs : List Loc} {σ : TS} {x1 : Int32} {x2 : Int32} {x3 : Int32} {x4 : Int32} {sx1 : Int32} (hP : va_P D vwCl (gS 39 q (MX cy q) σ) H) (hS : va_S (gA 39 q) s.heap H locs) {ls : Array Slot} (hl : lv_has ls 6 [(0, .ref (q (0))), (1, .int x1), (2, .int x2), (3, .int x3), (4, .int x4)]) (hp : sX9_code_5 x1 x2 x3 x4 sx1 σ = some (r, u)) : W p l e rmX9_code s m args below meth c H locs 0 0 (MQ below (gQi D vwCl r (gS 39 q (MX cy q) u) (gA 39 q)) args s 0 0 (gA 39 q)) (F0 m 5 ls [.int sx1, .ref (q (0))]) := by
  obtain ⟨hx, hb, hr, hml, hown, hts, hlocks⟩ := id C0
  unfold sX9_code_5 at hp
  obtain ⟨⟨r15, u16⟩, hq17, hp⟩ := o_b hp
  refine g_cVi (As := [.int sx1]) (rest := []) hx hb hml hown hts hK hP hS (mX9_isOut l hJ hq17) (cwV 1 hts gX9_code_X9_isOut rfl rfl rfl nVX9_isOut ⟨Nat.le_of_ble_eq_true rfl, Nat.le_of_ble_eq_true rfl⟩) (g_recv hK hP (kk_Mod) (ce_Mod) rfl) rfl hl.1 rfl (Nat.le_of_ble_eq_true rfl) dX9_code_5 ⟨Nat.le_of_ble_eq_true rfl, Nat.le_of_ble_eq_true rfl⟩ (fun H locs hP hS => ?_)
  exact kX9_code_8 C0 hK hJ  hP hS hl hp
def sX9_code_0 (x1 : Int32) (x2 : Int32) (x3 : Int32) (x4 : Int32) (σ : TS) : Option (Int32 × TS) := ((sX9_isThree x1 σ).bind (fun z => sX9_code_5 x1 x2 x3 x4 z.1 z.2))
set_option maxHeartbeats 4000000 in
set_option maxRecDepth 100000 in
theorem kX9_code_0 {r : Int32} {u : TS} (C0 : gC RX9 cX9_code 6 ((some .int)) wsX9_code p s m args meth c) (hK : va_K D vwCl (tyL cy) s) (hJ : gJ 39 q) {H : Heap} {locs : List Loc} {σ : TS} {x1 : Int32} {x2 : Int32} {x3 : Int32} {x4 : Int32} (hP : va_P D vwCl (gS 39 q (MX cy q) σ) H) (hS : va_S (gA 39 q) s.heap H locs) {ls : Array Slot} (hl : lv_has ls 6 [(0, .ref (q (0))), (1, .int x1), (2, .int x2), (3, .int x3), (4, .int x4)]) (hp : sX9_code_0 x1 x2 x3 x4 σ = some (r, u)) : W p l e rmX9_code s m args below meth c H locs 0 0 (MQ below (gQi D vwCl r (gS 39 q (MX cy q) u) (gA 39 q)) args s 0 0 (gA 39 q)) (F0 m 0 ls []) := by
  obtain ⟨hx, hb, hr, hml, hown, hts, hlocks⟩ := id C0
  unfold sX9_code_0 at hp
  refine lv_aload_n hx hb dX9_code_0 rfl (lv_at hl 0 rfl) ?_
  refine lv_iload_n hx hb dX9_code_1 rfl (lv_at hl 1 rfl) ?_
  obtain ⟨⟨r18, u19⟩, hq20, hp⟩ := o_b hp
  refine g_cSi (As := [.int x1]) (rest := [.ref (q (0))]) hx hb hml hown hts hK hP hS (mX9_isThree l hJ hq20) (va_cwS 1 hts gX9_code_X9_isThree rfl rfl rfl nVX9_isThree ⟨Nat.le_of_ble_eq_true rfl, Nat.le_of_ble_eq_true rfl⟩) rfl hl.1 rfl (Nat.le_of_ble_eq_true rfl) dX9_code_2 ⟨Nat.le_of_ble_eq_true rfl, Nat.le_of_ble_eq_true rfl⟩ (fun H locs hP hS => ?_)
  exact kX9_code_5 C0 hK hJ  hP hS hl hp
def sX9_code (x1 : Int32) (x2 : Int32) (x3 : Int32) (x4 : Int32) (σ : TS) : Option (Int32 × TS) := sX9_code_0 x1 x2 x3 x4 σ
theorem nVX9_code : yX9_code.cls = RX9 ∧ yX9_code.cls ≠ "java/lang/invoke/MethodHandle" ∧ yX9_code.cls ≠ "java/lang/invoke/VarHandle" ∧ (parseMethodDescriptor yX9_code.desc).map (fun d => d.parameters.length) = some 4 := by decide +kernel
set_option maxHeartbeats 4000000 in
set_option maxRecDepth 100000 in
theorem mX9_code (l : Launch) (hJ : gJ 39 q) {x1 : Int32} {x2 : Int32} {x3 : Int32} {x4 : Int32} {σ : TS} {r : Int32} {u : TS} (hp : sX9_code x1 x2 x3 x4 σ = some (r, u)) : Met l yX9_code wsX9_code rmX9_code (va_Pc [.ref (q (0)), .int x1, .int x2, .int x3, .int x4] (gPre D vwCl (tyL cy) (gS 39 q (MX cy q) σ))) (gQi D vwCl r (gS 39 q (MX cy q) u) (gA 39 q)) 0 0 (gA 39 q) := by
  refine Met.ofW (cc := cX9_code) (maxL := 6) (ret := (some .int)) (by decide +kernel) rfl ?_
  intro p e s m args below meth c s₁ B hml hv
  obtain ⟨rfl, hP, hK⟩ := hv
  have hl := lv_entry ([.ref (q (0)), .int x1, .int x2, .int x3, .int x4]) (n := 6) (Nat.le_of_ble_eq_true rfl)
  rw [lg_entry_eq]
  generalize (lg_sl ([.ref (q (0)), .int x1, .int x2, .int x3, .int x4]) ++ List.replicate (6 - (lg_sl ([.ref (q (0)), .int x1, .int x2, .int x3, .int x4])).length) Slot.unset).toArray = ls at hl ⊢
  have hl : lv_has ls 6 [(0, .ref (q (0))), (1, .int x1), (2, .int x2), (3, .int x3), (4, .int x4)] := hl
  exact kX9_code_0 ⟨B.exec, B.bytes, B.returns, hml, findClass_of_methodNamed B.named, atoms_spec (ws := wsX9_code) B.pre, B.notSynchronized⟩ hK hJ  hP va_S.rf hl hp
theorem miX9_clear_X9 : ∀ w ∈ u_ws RX9 TX9 44, w ∈ wsX9_clear := by decide +kernel
theorem mwX9_clear_0 : Cond.fieldLink RX9 20 "TriplaneModel" "sizes" "[I" ∈ wsX9_clear := by decide +kernel
abbrev rmX9_clear : Room := { frames := 2, cells := 0, slots := 0, locals := 42 }
def sX9_clear_8 (x1 : Int32) (sx0 : Int32) (σ : TS) : Option (Int32 × TS) := (if sx0 = 0 then (if vin x1 3 = true then some (σ 4 (x1.toNatClampNeg), st2 σ 4 (x1.toNatClampNeg) ((0 : Int32))) else none) else some ((0 : Int32), σ))
set_option maxHeartbeats 4000000 in
set_option maxRecDepth 100000 in
theorem kX9_clear_8 {r : Int32} {u : TS} (C0 : gC RX9 cX9_clear 3 ((some .int)) wsX9_clear p s m args meth c) (hK : va_K D vwCl (tyL cy) s) (hJ : gJ 39 q) {H : Heap} {locs : List Loc} {σ : TS} {x1 : Int32} {sx0 : Int32} (hP : va_P D vwCl (gS 39 q (MX cy q) σ) H) (hS : va_S (gA 39 q) s.heap H locs) {ls : Array Slot} (hl : lv_has ls 3 [(0, .ref (q (0))), (1, .int x1)]) (hp : sX9_clear_8 x1 sx0 σ = some (r, u)) : W p l e rmX9_clear s m args below meth c H locs 0 0 (MQ below (gQi D vwCl r (gS 39 q (MX cy q) u) (gA 39 q)) args s 0 0 (gA 39 q)) (F0 m 8 ls [.int sx0]) := by
  obtain ⟨hx, hb, hr, hml, hown, hts, hlocks⟩ := id C0
  unfold sX9_clear_8 at hp
  refine lv_if_eq (tgt := 13) hx hb dX9_clear_8 (by decide) (fun hcd1 => ?_) (fun hcd1 => ?_)
  · have hp := o_t hp hcd1
    refine lv_aload_n hx hb dX9_clear_13 rfl (lv_at hl 0 rfl) ?_
    refine g_get (v := .ref (q (4))) hx hb hts miX9_clear_X9 hown hK hP (kk_Mod) (ce_Mod) rfl 6 (by decide) mwX9_clear_0 rfl dX9_clear_14 ?_
    refine lv_iload_n hx hb dX9_clear_17 rfl (lv_at hl 1 rfl) ?_
    obtain ⟨hi2, hp⟩ := o_chk hp
    refine g_iald (j := x1.toNatClampNeg) hx hb hK hP (kk_M_sizes) (ce_M_sizes) 0 rfl (vin_of hi2) rfl dX9_clear_18 ?_
    refine lv_istore_n (lv' := [(2, .int (σ 4 (x1.toNatClampNeg))), (0, .ref (q (0))), (1, .int x1)]) hx hb dX9_clear_19 rfl hl (by decide) rfl (fun ls hl => ?_)
    refine lv_aload_n hx hb dX9_clear_20 rfl (lv_at hl 1 rfl) ?_
    refine g_get (v := .ref (q (4))) hx hb hts miX9_clear_X9 hown hK hP (kk_Mod) (ce_Mod) rfl 6 (by decide) mwX9_clear_0 rfl dX9_clear_21 ?_
    refine lv_iload_n hx hb dX9_clear_24 rfl (lv_at hl 2 rfl) ?_
    refine lv_iconst (v := (0 : Int32)) hx hb dX9_clear_25 (by decide) ?_
    refine g_iast (j := x1.toNatClampNeg) hx hb hK hJ hP hS (kk_M_sizes) (ce_M_sizes) 0 rfl (vin_of hi2) rfl dX9_clear_26 (fun H locs hP hS => ?_)
    refine lv_iload_n hx hb dX9_clear_27 rfl (lv_at hl 0 rfl) ?_
    obtain ⟨rfl, rfl⟩ := o_r hp
    exact W.iret (v := σ 4 (x1.toNatClampNeg)) hx hb hr (fun t ht hW => ⟨⟨σ 4 (x1.toNatClampNeg), (), rfl, rfl, by subst ht; exact hP⟩, hS.F ht⟩) hS.2.2 dX9_clear_28
  · have hp := o_f hp hcd1
    refine lv_iconst (v := (0 : Int32)) hx hb dX9_clear_11 (by decide) ?_
    obtain ⟨rfl, rfl⟩ := o_r hp
    exact W.iret (v := (0 : Int32)) hx hb hr (fun t ht hW => ⟨⟨(0 : Int32), (), rfl, rfl, by subst ht; exact hP⟩, hS.F ht⟩) hS.2.2 dX9_clear_12
def sX9_clear_5 (x1 : Int32) (sx1 : Int32) (σ : TS) : Option (Int32 × TS) := ((sX9_isOut sx1 σ).bind (fun z => sX9_clear_8 x1 z.1 z.2))
set_option maxHeartbeats 4000000 in
set_option maxRecDepth 100000 in
theorem kX9_clear_5 {r : Int32} {u : TS} (C0 : gC RX9 cX9_clear 3 ((some .int)) wsX9_clear p s m args meth c) (hK : va_K D vwCl (tyL cy) s) (hJ : gJ 39 q) {H : Heap} {locs : List Loc} {σ : TS} {x1 : Int32} {sx1 : Int32} (hP : va_P D vwCl (gS 39 q (MX cy q) σ) H) (hS : va_S (gA 39 q) s.heap H locs) {ls : Array Slot} (hl : lv_has ls 3 [(0, .ref (q (0))), (1, .int x1)]) (hp : sX9_clear_5 x1 sx1 σ = some (r, u)) : W p l e rmX9_clear s m args below meth c H locs 0 0 (MQ below (gQi D vwCl r (gS 39 q (MX cy q) u) (gA 39 q)) args s 0 0 (gA 39 q)) (F0 m 5 ls [.int sx1, .ref (q (0))]) := by
  obtain ⟨hx, hb, hr, hml, hown, hts, hlocks⟩ := id C0
  unfold sX9_clear_5 at hp
  obtain ⟨⟨r3, u4⟩, hq5, hp⟩ := o_b hp
  refine g_cVi (As := [.int sx1]) (rest := []) hx hb hml hown hts hK hP hS (mX9_isOut l hJ hq5) (cwV 1 hts gX9_clear_X9_isOut rfl rfl rfl nVX9_isOut ⟨Nat.le_of_ble_eq_true rfl, Nat.le_of_ble_eq_true rfl⟩) (g_recv hK hP (kk_Mod) (ce_Mod) rfl) rfl hl.1 rfl (Nat.le_of_ble_eq_true rfl) dX9_clear_5 ⟨Nat.le_of_ble_eq_true rfl, Nat.le_of_ble_eq_true rfl⟩ (fun H locs hP hS => ?_)
  exact kX9_clear_8 C0 hK hJ  hP hS hl hp
def sX9_clear_0 (x1 : Int32) (σ : TS) : Option (Int32 × TS) := ((sX9_isThree x1 σ).bind (fun z => sX9_clear_5 x1 z.1 z.2))
set_option maxHeartbeats 4000000 in
set_option maxRecDepth 100000 in
theorem kX9_clear_0 {r : Int32} {u : TS} (C0 : gC RX9 cX9_clear 3 ((some .int)) wsX9_clear p s m args meth c) (hK : va_K D vwCl (tyL cy) s) (hJ : gJ 39 q) {H : Heap} {locs : List Loc} {σ : TS} {x1 : Int32} (hP : va_P D vwCl (gS 39 q (MX cy q) σ) H) (hS : va_S (gA 39 q) s.heap H locs) {ls : Array Slot} (hl : lv_has ls 3 [(0, .ref (q (0))), (1, .int x1)]) (hp : sX9_clear_0 x1 σ = some (r, u)) : W p l e rmX9_clear s m args below meth c H locs 0 0 (MQ below (gQi D vwCl r (gS 39 q (MX cy q) u) (gA 39 q)) args s 0 0 (gA 39 q)) (F0 m 0 ls []) := by
  obtain ⟨hx, hb, hr, hml, hown, hts, hlocks⟩ := id C0
  unfold sX9_clear_0 at hp
  refine lv_aload_n hx hb dX9_clear_0 rfl (lv_at hl 0 rfl) ?_
  refine lv_iload_n hx hb dX9_clear_1 rfl (lv_at hl 1 rfl) ?_
  obtain ⟨⟨r6, u7⟩, hq8, hp⟩ := o_b hp
  refine g_cSi (As := [.int x1]) (rest := [.ref (q (0))]) hx hb hml hown hts hK hP hS (mX9_isThree l hJ hq8) (va_cwS 1 hts gX9_clear_X9_isThree rfl rfl rfl nVX9_isThree ⟨Nat.le_of_ble_eq_true rfl, Nat.le_of_ble_eq_true rfl⟩) rfl hl.1 rfl (Nat.le_of_ble_eq_true rfl) dX9_clear_2 ⟨Nat.le_of_ble_eq_true rfl, Nat.le_of_ble_eq_true rfl⟩ (fun H locs hP hS => ?_)
  exact kX9_clear_5 C0 hK hJ  hP hS hl hp
def sX9_clear (x1 : Int32) (σ : TS) : Option (Int32 × TS) := sX9_clear_0 x1 σ
theorem nVX9_clear : yX9_clear.cls = RX9 ∧ yX9_clear.cls ≠ "java/lang/invoke/MethodHandle" ∧ yX9_clear.cls ≠ "java/lang/invoke/VarHandle" ∧ (parseMethodDescriptor yX9_clear.desc).map (fun d => d.parameters.length) = some 1 := by decide +kernel
set_option maxHeartbeats 4000000 in
set_option maxRecDepth 100000 in
theorem mX9_clear (l : Launch) (hJ : gJ 39 q) {x1 : Int32} {σ : TS} {r : Int32} {u : TS} (hp : sX9_clear x1 σ = some (r, u)) : Met l yX9_clear wsX9_clear rmX9_clear (va_Pc [.ref (q (0)), .int x1] (gPre D vwCl (tyL cy) (gS 39 q (MX cy q) σ))) (gQi D vwCl r (gS 39 q (MX cy q) u) (gA 39 q)) 0 0 (gA 39 q) := by
  refine Met.ofW (cc := cX9_clear) (maxL := 3) (ret := (some .int)) (by decide +kernel) rfl ?_
  intro p e s m args below meth c s₁ B hml hv
  obtain ⟨rfl, hP, hK⟩ := hv
  have hl := lv_entry ([.ref (q (0)), .int x1]) (n := 3) (Nat.le_of_ble_eq_true rfl)
  rw [lg_entry_eq]
  generalize (lg_sl ([.ref (q (0)), .int x1]) ++ List.replicate (3 - (lg_sl ([.ref (q (0)), .int x1])).length) Slot.unset).toArray = ls at hl ⊢
  have hl : lv_has ls 3 [(0, .ref (q (0))), (1, .int x1)] := hl
  exact kX9_clear_0 ⟨B.exec, B.bytes, B.returns, hml, findClass_of_methodNamed B.named, atoms_spec (ws := wsX9_clear) B.pre, B.notSynchronized⟩ hK hJ  hP va_S.rf hl hp
theorem miX9_slot_X9 : ∀ w ∈ u_ws RX9 TX9 44, w ∈ wsX9_slot := by decide +kernel
theorem mwX9_slot_0 : Cond.fieldLink RX9 23 "TriplaneModel" "slots" "[I" ∈ wsX9_slot := by decide +kernel
abbrev rmX9_slot : Room := { frames := 2, cells := 0, slots := 0, locals := 42 }
def sX9_slot_34 (x1 : Int32) (x2 : Int32) (x3 : Int32) (sx0 : Int32) (σ : TS) : Option (Int32 × TS) := (if sx0 = 0 then (if vin ((x1 * ((3 : Int32))) + x2) 6 = true then some ((σ 5 (((x1 * ((3 : Int32))) + x2).toNatClampNeg)) - ((1 : Int32)), st2 σ 5 (((x1 * ((3 : Int32))) + x2).toNatClampNeg) (x3 + ((1 : Int32)))) else none) else some ((0 : Int32), σ))
set_option maxHeartbeats 4000000 in
set_option maxRecDepth 100000 in
theorem kX9_slot_34 {r : Int32} {u : TS} (C0 : gC RX9 cX9_slot 5 ((some .int)) wsX9_slot p s m args meth c) (hK : va_K D vwCl (tyL cy) s) (hJ : gJ 39 q) {H : Heap} {locs : List Loc} {σ : TS} {x1 : Int32} {x2 : Int32} {x3 : Int32} {sx0 : Int32} (hP : va_P D vwCl (gS 39 q (MX cy q) σ) H) (hS : va_S (gA 39 q) s.heap H locs) {ls : Array Slot} (hl : lv_has ls 5 [(0, .ref (q (0))), (1, .int x1), (2, .int x2), (3, .int x3)]) (hp : sX9_slot_34 x1 x2 x3 sx0 σ = some (r, u)) : W p l e rmX9_slot s m args below meth c H locs 0 0 (MQ below (gQi D vwCl r (gS 39 q (MX cy q) u) (gA 39 q)) args s 0 0 (gA 39 q)) (F0 m 34 ls [.int sx0]) := by
  obtain ⟨hx, hb, hr, hml, hown, hts, hlocks⟩ := id C0
  unfold sX9_slot_34 at hp
  refine lv_if_eq (tgt := 39) hx hb dX9_slot_34 (by decide) (fun hcd1 => ?_) (fun hcd1 => ?_)
  · have hp := o_t hp hcd1
    refine lv_aload_n hx hb dX9_slot_39 rfl (lv_at hl 0 rfl) ?_
    refine g_get (v := .ref (q (5))) hx hb hts miX9_slot_X9 hown hK hP (kk_Mod) (ce_Mod) rfl 7 (by decide) mwX9_slot_0 rfl dX9_slot_40 ?_
    refine lv_iload_n hx hb dX9_slot_43 rfl (lv_at hl 1 rfl) ?_
    refine lv_iconst (v := (3 : Int32)) hx hb dX9_slot_44 (by decide) ?_
    refine lv_imul hx hb dX9_slot_45 ?_
    refine lv_iload_n hx hb dX9_slot_46 rfl (lv_at hl 2 rfl) ?_
    refine lv_iadd hx hb dX9_slot_47 ?_
    obtain ⟨hi2, hp⟩ := o_chk hp
    refine g_iald (j := ((x1 * ((3 : Int32))) + x2).toNatClampNeg) hx hb hK hP (kk_M_slots) (ce_M_slots) 0 rfl (vin_of hi2) rfl dX9_slot_48 ?_
    refine lv_iconst (v := (1 : Int32)) hx hb dX9_slot_49 (by decide) ?_
    refine lv_isub hx hb dX9_slot_50 ?_
    refine lv_istore (lv' := [(4, .int ((σ 5 (((x1 * ((3 : Int32))) + x2).toNatClampNeg)) - ((1 : Int32)))), (0, .ref (q (0))), (1, .int x1), (2, .int x2), (3, .int x3)]) hx hb dX9_slot_51 hl (by decide) rfl (fun ls hl => ?_)
    refine lv_aload_n hx hb dX9_slot_53 rfl (lv_at hl 1 rfl) ?_
    refine g_get (v := .ref (q (5))) hx hb hts miX9_slot_X9 hown hK hP (kk_Mod) (ce_Mod) rfl 7 (by decide) mwX9_slot_0 rfl dX9_slot_54 ?_
    refine lv_iload_n hx hb dX9_slot_57 rfl (lv_at hl 2 rfl) ?_
    refine lv_iconst (v := (3 : Int32)) hx hb dX9_slot_58 (by decide) ?_
    refine lv_imul hx hb dX9_slot_59 ?_
    refine lv_iload_n hx hb dX9_slot_60 rfl (lv_at hl 3 rfl) ?_
    refine lv_iadd hx hb dX9_slot_61 ?_
    refine lv_iload_n hx hb dX9_slot_62 rfl (lv_at hl 4 rfl) ?_
    refine lv_iconst (v := (1 : Int32)) hx hb dX9_slot_63 (by decide) ?_
    refine lv_iadd hx hb dX9_slot_64 ?_
    refine g_iast (j := ((x1 * ((3 : Int32))) + x2).toNatClampNeg) hx hb hK hJ hP hS (kk_M_slots) (ce_M_slots) 0 rfl (vin_of hi2) rfl dX9_slot_65 (fun H locs hP hS => ?_)
    refine lv_iload hx hb dX9_slot_66 (lv_at hl 0 rfl) ?_
    obtain ⟨rfl, rfl⟩ := o_r hp
    exact W.iret (v := (σ 5 (((x1 * ((3 : Int32))) + x2).toNatClampNeg)) - ((1 : Int32))) hx hb hr (fun t ht hW => ⟨⟨(σ 5 (((x1 * ((3 : Int32))) + x2).toNatClampNeg)) - ((1 : Int32)), (), rfl, rfl, by subst ht; exact hP⟩, hS.F ht⟩) hS.2.2 dX9_slot_68
  · have hp := o_f hp hcd1
    refine lv_iconst (v := (0 : Int32)) hx hb dX9_slot_37 (by decide) ?_
    obtain ⟨rfl, rfl⟩ := o_r hp
    exact W.iret (v := (0 : Int32)) hx hb hr (fun t ht hW => ⟨⟨(0 : Int32), (), rfl, rfl, by subst ht; exact hP⟩, hS.F ht⟩) hS.2.2 dX9_slot_38
def sX9_slot_31 (x1 : Int32) (x2 : Int32) (x3 : Int32) (sx1 : Int32) (σ : TS) : Option (Int32 × TS) := ((sX9_isOut sx1 σ).bind (fun z => sX9_slot_34 x1 x2 x3 z.1 z.2))
set_option maxHeartbeats 4000000 in
set_option maxRecDepth 100000 in
theorem kX9_slot_31 {r : Int32} {u : TS} (C0 : gC RX9 cX9_slot 5 ((some .int)) wsX9_slot p s m args meth c) (hK : va_K D vwCl (tyL cy) s) (hJ : gJ 39 q) {H : Heap} {locs : List Loc} {σ : TS} {x1 : Int32} {x2 : Int32} {x3 : Int32} {sx1 : Int32} (hP : va_P D vwCl (gS 39 q (MX cy q) σ) H) (hS : va_S (gA 39 q) s.heap H locs) {ls : Array Slot} (hl : lv_has ls 5 [(0, .ref (q (0))), (1, .int x1), (2, .int x2), (3, .int x3)]) (hp : sX9_slot_31 x1 x2 x3 sx1 σ = some (r, u)) : W p l e rmX9_slot s m args below meth c H locs 0 0 (MQ below (gQi D vwCl r (gS 39 q (MX cy q) u) (gA 39 q)) args s 0 0 (gA 39 q)) (F0 m 31 ls [.int sx1, .ref (q (0))]) := by
  obtain ⟨hx, hb, hr, hml, hown, hts, hlocks⟩ := id C0
  unfold sX9_slot_31 at hp
  obtain ⟨⟨r3, u4⟩, hq5, hp⟩ := o_b hp
  refine g_cVi (As := [.int sx1]) (rest := []) hx hb hml hown hts hK hP hS (mX9_isOut l hJ hq5) (cwV 1 hts gX9_slot_X9_isOut rfl rfl rfl nVX9_isOut ⟨Nat.le_of_ble_eq_true rfl, Nat.le_of_ble_eq_true rfl⟩) (g_recv hK hP (kk_Mod) (ce_Mod) rfl) rfl hl.1 rfl (Nat.le_of_ble_eq_true rfl) dX9_slot_31 ⟨Nat.le_of_ble_eq_true rfl, Nat.le_of_ble_eq_true rfl⟩ (fun H locs hP hS => ?_)
  exact kX9_slot_34 C0 hK hJ  hP hS hl hp
def sX9_slot_30 (x1 : Int32) (x2 : Int32) (x3 : Int32) (σ : TS) : Option (Int32 × TS) := sX9_slot_31 x1 x2 x3 ((0 : Int32)) σ
set_option maxHeartbeats 4000000 in
set_option maxRecDepth 100000 in
theorem kX9_slot_30 {r : Int32} {u : TS} (C0 : gC RX9 cX9_slot 5 ((some .int)) wsX9_slot p s m args meth c) (hK : va_K D vwCl (tyL cy) s) (hJ : gJ 39 q) {H : Heap} {locs : List Loc} {σ : TS} {x1 : Int32} {x2 : Int32} {x3 : Int32} (hP : va_P D vwCl (gS 39 q (MX cy q) σ) H) (hS : va_S (gA 39 q) s.heap H locs) {ls : Array Slot} (hl : lv_has ls 5 [(0, .ref (q (0))), (1, .int x1), (2, .int x2), (3, .int x3)]) (hp : sX9_slot_30 x1 x2 x3 σ = some (r, u)) : W p l e rmX9_slot s m args below meth c H locs 0 0 (MQ below (gQi D vwCl r (gS 39 q (MX cy q) u) (gA 39 q)) args s 0 0 (gA 39 q)) (F0 m 30 ls [.ref (q (0))]) := by
  obtain ⟨hx, hb, hr, hml, hown, hts, hlocks⟩ := id C0
  unfold sX9_slot_30 at hp
  refine lv_iconst (v := (0 : Int32)) hx hb dX9_slot_30 (by decide) ?_
  exact kX9_slot_31 C0 hK hJ  hP hS hl hp
def sX9_slot_23 (x1 : Int32) (x2 : Int32) (x3 : Int32) (sx1 : Int32) (σ : TS) : Option (Int32 × TS) := (if sx1 = 0 then sX9_slot_30 x1 x2 x3 σ else sX9_slot_31 x1 x2 x3 ((1 : Int32)) σ)
set_option maxHeartbeats 4000000 in
set_option maxRecDepth 100000 in
theorem kX9_slot_23 {r : Int32} {u : TS} (C0 : gC RX9 cX9_slot 5 ((some .int)) wsX9_slot p s m args meth c) (hK : va_K D vwCl (tyL cy) s) (hJ : gJ 39 q) {H : Heap} {locs : List Loc} {σ : TS} {x1 : Int32} {x2 : Int32} {x3 : Int32} {sx1 : Int32} (hP : va_P D vwCl (gS 39 q (MX cy q) σ) H) (hS : va_S (gA 39 q) s.heap H locs) {ls : Array Slot} (hl : lv_has ls 5 [(0, .ref (q (0))), (1, .int x1), (2, .int x2), (3, .int x3)]) (hp : sX9_slot_23 x1 x2 x3 sx1 σ = some (r, u)) : W p l e rmX9_slot s m args below meth c H locs 0 0 (MQ below (gQi D vwCl r (gS 39 q (MX cy q) u) (gA 39 q)) args s 0 0 (gA 39 q)) (F0 m 23 ls [.int sx1, .ref (q (0))]) := by
  obtain ⟨hx, hb, hr, hml, hown, hts, hlocks⟩ := id C0
  unfold sX9_slot_23 at hp
  refine lv_if_eq (tgt := 30) hx hb dX9_slot_23 (by decide) (fun hcd6 => ?_) (fun hcd6 => ?_)
  · have hp := o_t hp hcd6
    exact kX9_slot_30 C0 hK hJ  hP hS hl hp
  · have hp := o_f hp hcd6
    refine lv_iconst (v := (1 : Int32)) hx hb dX9_slot_26 (by decide) ?_
    refine lv_goto (tgt := 31) hx hb dX9_slot_27 (by decide) ?_
    exact kX9_slot_31 C0 hK hJ  hP hS hl hp
def sX9_slot_14 (x1 : Int32) (x2 : Int32) (x3 : Int32) (sx1 : Int32) (σ : TS) : Option (Int32 × TS) := (if sx1 = 0 then sX9_slot_30 x1 x2 x3 σ else ((sX9_in x3 ((-1 : Int32)) ((2 : Int32)) σ).bind (fun z => sX9_slot_23 x1 x2 x3 z.1 z.2)))
set_option maxHeartbeats 4000000 in
set_option maxRecDepth 100000 in
theorem kX9_slot_14 {r : Int32} {u : TS} (C0 : gC RX9 cX9_slot 5 ((some .int)) wsX9_slot p s m args meth c) (hK : va_K D vwCl (tyL cy) s) (hJ : gJ 39 q) {H : Heap} {locs : List Loc} {σ : TS} {x1 : Int32} {x2 : Int32} {x3 : Int32} {sx1 : Int32} (hP : va_P D vwCl (gS 39 q (MX cy q) σ) H) (hS : va_S (gA 39 q) s.heap H locs) {ls : Array Slot} (hl : lv_has ls 5 [(0, .ref (q (0))), (1, .int x1), (2, .int x2), (3, .int x3)]) (hp : sX9_slot_14 x1 x2 x3 sx1 σ = some (r, u)) : W p l e rmX9_slot s m args below meth c H locs 0 0 (MQ below (gQi D vwCl r (gS 39 q (MX cy q) u) (gA 39 q)) args s 0 0 (gA 39 q)) (F0 m 14 ls [.int sx1, .ref (q (0))]) := by
  obtain ⟨hx, hb, hr, hml, hown, hts, hlocks⟩ := id C0
  unfold sX9_slot_14 at hp
  refine lv_if_eq (tgt := 30) hx hb dX9_slot_14 (by decide) (fun hcd7 => ?_) (fun hcd7 => ?_)
  · have hp := o_t hp hcd7
    exact kX9_slot_30 C0 hK hJ  hP hS hl hp
  · have hp := o_f hp hcd7
    refine lv_iload_n hx hb dX9_slot_17 rfl (lv_at hl 3 rfl) ?_
    refine lv_iconst (v := (-1 : Int32)) hx hb dX9_slot_18 (by decide) ?_
    refine lv_iconst (v := (2 : Int32)) hx hb dX9_slot_19 (by decide) ?_
    obtain ⟨⟨r8, u9⟩, hq10, hp⟩ := o_b hp
    refine g_cSi (As := [.int x3, .int ((-1 : Int32)), .int ((2 : Int32))]) (rest := [.ref (q (0))]) hx hb hml hown hts hK hP hS (mX9_in l hJ hq10) (va_cwS 3 hts gX9_slot_X9_in rfl rfl rfl nVX9_in ⟨Nat.le_of_ble_eq_true rfl, Nat.le_of_ble_eq_true rfl⟩) rfl hl.1 rfl (Nat.le_of_ble_eq_true rfl) dX9_slot_20 ⟨Nat.le_of_ble_eq_true rfl, Nat.le_of_ble_eq_true rfl⟩ (fun H locs hP hS => ?_)
    exact kX9_slot_23 C0 hK hJ  hP hS hl hp
def sX9_slot_7 (x1 : Int32) (x2 : Int32) (x3 : Int32) (sx1 : Int32) (σ : TS) : Option (Int32 × TS) := (if sx1 = 0 then sX9_slot_30 x1 x2 x3 σ else ((sX9_isThree x2 σ).bind (fun z => sX9_slot_14 x1 x2 x3 z.1 z.2)))
set_option maxHeartbeats 4000000 in
set_option maxRecDepth 100000 in
theorem kX9_slot_7 {r : Int32} {u : TS} (C0 : gC RX9 cX9_slot 5 ((some .int)) wsX9_slot p s m args meth c) (hK : va_K D vwCl (tyL cy) s) (hJ : gJ 39 q) {H : Heap} {locs : List Loc} {σ : TS} {x1 : Int32} {x2 : Int32} {x3 : Int32} {sx1 : Int32} (hP : va_P D vwCl (gS 39 q (MX cy q) σ) H) (hS : va_S (gA 39 q) s.heap H locs) {ls : Array Slot} (hl : lv_has ls 5 [(0, .ref (q (0))), (1, .int x1), (2, .int x2), (3, .int x3)]) (hp : sX9_slot_7 x1 x2 x3 sx1 σ = some (r, u)) : W p l e rmX9_slot s m args below meth c H locs 0 0 (MQ below (gQi D vwCl r (gS 39 q (MX cy q) u) (gA 39 q)) args s 0 0 (gA 39 q)) (F0 m 7 ls [.int sx1, .ref (q (0))]) := by
  obtain ⟨hx, hb, hr, hml, hown, hts, hlocks⟩ := id C0
  unfold sX9_slot_7 at hp
  refine lv_if_eq (tgt := 30) hx hb dX9_slot_7 (by decide) (fun hcd11 => ?_) (fun hcd11 => ?_)
  · have hp := o_t hp hcd11
    exact kX9_slot_30 C0 hK hJ  hP hS hl hp
  · have hp := o_f hp hcd11
    refine lv_iload_n hx hb dX9_slot_10 rfl (lv_at hl 2 rfl) ?_
    obtain ⟨⟨r12, u13⟩, hq14, hp⟩ := o_b hp
    refine g_cSi (As := [.int x2]) (rest := [.ref (q (0))]) hx hb hml hown hts hK hP hS (mX9_isThree l hJ hq14) (va_cwS 1 hts gX9_slot_X9_isThree rfl rfl rfl nVX9_isThree ⟨Nat.le_of_ble_eq_true rfl, Nat.le_of_ble_eq_true rfl⟩) rfl hl.1 rfl (Nat.le_of_ble_eq_true rfl) dX9_slot_11 ⟨Nat.le_of_ble_eq_true rfl, Nat.le_of_ble_eq_true rfl⟩ (fun H locs hP hS => ?_)
    exact kX9_slot_14 C0 hK hJ  hP hS hl hp
def sX9_slot_0 (x1 : Int32) (x2 : Int32) (x3 : Int32) (σ : TS) : Option (Int32 × TS) := ((sX9_in x1 ((0 : Int32)) ((1 : Int32)) σ).bind (fun z => sX9_slot_7 x1 x2 x3 z.1 z.2))
set_option maxHeartbeats 4000000 in
set_option maxRecDepth 100000 in
theorem kX9_slot_0 {r : Int32} {u : TS} (C0 : gC RX9 cX9_slot 5 ((some .int)) wsX9_slot p s m args meth c) (hK : va_K D vwCl (tyL cy) s) (hJ : gJ 39 q) {H : Heap} {locs : List Loc} {σ : TS} {x1 : Int32} {x2 : Int32} {x3 : Int32} (hP : va_P D vwCl (gS 39 q (MX cy q) σ) H) (hS : va_S (gA 39 q) s.heap H locs) {ls : Array Slot} (hl : lv_has ls 5 [(0, .ref (q (0))), (1, .int x1), (2, .int x2), (3, .int x3)]) (hp : sX9_slot_0 x1 x2 x3 σ = some (r, u)) : W p l e rmX9_slot s m args below meth c H locs 0 0 (MQ below (gQi D vwCl r (gS 39 q (MX cy q) u) (gA 39 q)) args s 0 0 (gA 39 q)) (F0 m 0 ls []) := by
  obtain ⟨hx, hb, hr, hml, hown, hts, hlocks⟩ := id C0
  unfold sX9_slot_0 at hp
  refine lv_aload_n hx hb dX9_slot_0 rfl (lv_at hl 0 rfl) ?_
  refine lv_iload_n hx hb dX9_slot_1 rfl (lv_at hl 1 rfl) ?_
  refine lv_iconst (v := (0 : Int32)) hx hb dX9_slot_2 (by decide) ?_
  refine lv_iconst (v := (1 : Int32)) hx hb dX9_slot_3 (by decide) ?_
  obtain ⟨⟨r15, u16⟩, hq17, hp⟩ := o_b hp
  refine g_cSi (As := [.int x1, .int ((0 : Int32)), .int ((1 : Int32))]) (rest := [.ref (q (0))]) hx hb hml hown hts hK hP hS (mX9_in l hJ hq17) (va_cwS 3 hts gX9_slot_X9_in rfl rfl rfl nVX9_in ⟨Nat.le_of_ble_eq_true rfl, Nat.le_of_ble_eq_true rfl⟩) rfl hl.1 rfl (Nat.le_of_ble_eq_true rfl) dX9_slot_4 ⟨Nat.le_of_ble_eq_true rfl, Nat.le_of_ble_eq_true rfl⟩ (fun H locs hP hS => ?_)
  exact kX9_slot_7 C0 hK hJ  hP hS hl hp
def sX9_slot (x1 : Int32) (x2 : Int32) (x3 : Int32) (σ : TS) : Option (Int32 × TS) := sX9_slot_0 x1 x2 x3 σ
theorem nVX9_slot : yX9_slot.cls = RX9 ∧ yX9_slot.cls ≠ "java/lang/invoke/MethodHandle" ∧ yX9_slot.cls ≠ "java/lang/invoke/VarHandle" ∧ (parseMethodDescriptor yX9_slot.desc).map (fun d => d.parameters.length) = some 3 := by decide +kernel
set_option maxHeartbeats 4000000 in
set_option maxRecDepth 100000 in
theorem mX9_slot (l : Launch) (hJ : gJ 39 q) {x1 : Int32} {x2 : Int32} {x3 : Int32} {σ : TS} {r : Int32} {u : TS} (hp : sX9_slot x1 x2 x3 σ = some (r, u)) : Met l yX9_slot wsX9_slot rmX9_slot (va_Pc [.ref (q (0)), .int x1, .int x2, .int x3] (gPre D vwCl (tyL cy) (gS 39 q (MX cy q) σ))) (gQi D vwCl r (gS 39 q (MX cy q) u) (gA 39 q)) 0 0 (gA 39 q) := by
  refine Met.ofW (cc := cX9_slot) (maxL := 5) (ret := (some .int)) (by decide +kernel) rfl ?_
  intro p e s m args below meth c s₁ B hml hv
  obtain ⟨rfl, hP, hK⟩ := hv
  have hl := lv_entry ([.ref (q (0)), .int x1, .int x2, .int x3]) (n := 5) (Nat.le_of_ble_eq_true rfl)
  rw [lg_entry_eq]
  generalize (lg_sl ([.ref (q (0)), .int x1, .int x2, .int x3]) ++ List.replicate (5 - (lg_sl ([.ref (q (0)), .int x1, .int x2, .int x3])).length) Slot.unset).toArray = ls at hl ⊢
  have hl : lv_has ls 5 [(0, .ref (q (0))), (1, .int x1), (2, .int x2), (3, .int x3)] := hl
  exact kX9_slot_0 ⟨B.exec, B.bytes, B.returns, hml, findClass_of_methodNamed B.named, atoms_spec (ws := wsX9_slot) B.pre, B.notSynchronized⟩ hK hJ  hP va_S.rf hl hp
theorem miX9_set_X9 : ∀ w ∈ u_ws RX9 TX9 44, w ∈ wsX9_set := by decide +kernel
theorem mwX9_set_0 : Cond.fieldLink RX9 32 "TriplaneModel" "registers" "[I" ∈ wsX9_set := by decide +kernel
theorem mwX9_set_1 : Cond.fieldLink RX9 60 "TriplaneModel" "stuck" "[I" ∈ wsX9_set := by decide +kernel
theorem mwX9_set_2 : Cond.fieldLink RX9 63 "TriplaneModel" "stuckBit" "[I" ∈ wsX9_set := by decide +kernel
theorem mwX9_set_3 : Cond.fieldLink RX9 66 "TriplaneModel" "isStuckSet" "[Z" ∈ wsX9_set := by decide +kernel
abbrev rmX9_set : Room := { frames := 1, cells := 0, slots := 0, locals := 20 }
def sX9_set_65 (sx1 : Int32) (sx2 : Int32) (σ : TS) : Option (Int32 × TS) := (if vin sx1 16 = true then some (0, st2 σ 8 (sx1.toNatClampNeg) sx2) else none)
set_option maxHeartbeats 4000000 in
set_option maxRecDepth 100000 in
theorem kX9_set_65 {r : Int32} {u : TS} (C0 : gC RX9 cX9_set 6 none wsX9_set p s m args meth c) (hK : va_K D vwCl (tyL cy) s) (hJ : gJ 39 q) {H : Heap} {locs : List Loc} {σ : TS} {sx1 : Int32} {sx2 : Int32} (hP : va_P D vwCl (gS 39 q (MX cy q) σ) H) (hS : va_S (gA 39 q) s.heap H locs) {ls : Array Slot} (hl : lv_has ls 6 []) (hp : sX9_set_65 sx1 sx2 σ = some (r, u)) : W p l e rmX9_set s m args below meth c H locs 0 0 (MQ below (gQv D vwCl (gS 39 q (MX cy q) u) (gA 39 q)) args s 0 0 (gA 39 q)) (F0 m 65 ls [.int sx2, .int sx1, .ref (q (8))]) := by
  obtain ⟨hx, hb, hr, hml, hown, hts, hlocks⟩ := id C0
  unfold sX9_set_65 at hp
  obtain ⟨hi1, hp⟩ := o_chk hp
  refine g_iast (j := sx1.toNatClampNeg) hx hb hK hJ hP hS (kk_M_registers) (ce_M_registers) 0 rfl (vin_of hi1) rfl dX9_set_65 (fun H locs hP hS => ?_)
  obtain ⟨rfl, rfl⟩ := o_r hp
  exact W.vret hx hb hr (fun t ht hW => ⟨⟨(), rfl, trivial, by subst ht; exact hP⟩, hS.F ht⟩) hS.2.2 dX9_set_66
def sX9_set_51 (x1 : Int32) (x2 : Int32) (x4 : Int32) (σ : TS) : Option (Int32 × TS) := ((sX9_round x4 σ).bind (fun z => sX9_set_65 ((x1 * ((4 : Int32))) + x2) z.1 z.2))
set_option maxHeartbeats 4000000 in
set_option maxRecDepth 100000 in
theorem kX9_set_51 {r : Int32} {u : TS} (C0 : gC RX9 cX9_set 6 none wsX9_set p s m args meth c) (hK : va_K D vwCl (tyL cy) s) (hJ : gJ 39 q) {H : Heap} {locs : List Loc} {σ : TS} {x1 : Int32} {x2 : Int32} {x4 : Int32} (hP : va_P D vwCl (gS 39 q (MX cy q) σ) H) (hS : va_S (gA 39 q) s.heap H locs) {ls : Array Slot} (hl : lv_has ls 6 [(0, .ref (q (0))), (1, .int x1), (2, .int x2), (4, .int x4)]) (hp : sX9_set_51 x1 x2 x4 σ = some (r, u)) : W p l e rmX9_set s m args below meth c H locs 0 0 (MQ below (gQv D vwCl (gS 39 q (MX cy q) u) (gA 39 q)) args s 0 0 (gA 39 q)) (F0 m 51 ls []) := by
  obtain ⟨hx, hb, hr, hml, hown, hts, hlocks⟩ := id C0
  unfold sX9_set_51 at hp
  refine lv_aload_n hx hb dX9_set_51 rfl (lv_at hl 0 rfl) ?_
  refine g_get (v := .ref (q (8))) hx hb hts miX9_set_X9 hown hK hP (kk_Mod) (ce_Mod) rfl 10 (by decide) mwX9_set_0 rfl dX9_set_52 ?_
  refine lv_iload_n hx hb dX9_set_55 rfl (lv_at hl 1 rfl) ?_
  refine lv_iconst (v := (4 : Int32)) hx hb dX9_set_56 (by decide) ?_
  refine lv_imul hx hb dX9_set_57 ?_
  refine lv_iload_n hx hb dX9_set_58 rfl (lv_at hl 2 rfl) ?_
  refine lv_iadd hx hb dX9_set_59 ?_
  refine lv_iload hx hb dX9_set_60 (lv_at hl 3 rfl) ?_
  obtain ⟨⟨r2, u3⟩, hq4, hp⟩ := o_b hp
  refine g_cSi (As := [.int x4]) (rest := [.int ((x1 * ((4 : Int32))) + x2), .ref (q (8))]) hx hb hml hown hts hK hP hS (mX9_round l hJ hq4) (va_cwS 1 hts gX9_set_X9_round rfl rfl rfl nVX9_round ⟨Nat.le_of_ble_eq_true rfl, Nat.le_of_ble_eq_true rfl⟩) rfl hl.1 rfl (Nat.le_of_ble_eq_true rfl) dX9_set_62 ⟨Nat.le_of_ble_eq_true rfl, Nat.le_of_ble_eq_true rfl⟩ (fun H locs hP hS => ?_)
  exact kX9_set_65 C0 hK hJ  hP hS (lv_sub hl [] rfl) hp
def sX9_set_49 (x1 : Int32) (x2 : Int32) (sx0 : Int32) (σ : TS) : Option (Int32 × TS) := sX9_set_51 x1 x2 sx0 σ
set_option maxHeartbeats 4000000 in
set_option maxRecDepth 100000 in
theorem kX9_set_49 {r : Int32} {u : TS} (C0 : gC RX9 cX9_set 6 none wsX9_set p s m args meth c) (hK : va_K D vwCl (tyL cy) s) (hJ : gJ 39 q) {H : Heap} {locs : List Loc} {σ : TS} {x1 : Int32} {x2 : Int32} {sx0 : Int32} (hP : va_P D vwCl (gS 39 q (MX cy q) σ) H) (hS : va_S (gA 39 q) s.heap H locs) {ls : Array Slot} (hl : lv_has ls 6 [(0, .ref (q (0))), (1, .int x1), (2, .int x2)]) (hp : sX9_set_49 x1 x2 sx0 σ = some (r, u)) : W p l e rmX9_set s m args below meth c H locs 0 0 (MQ below (gQv D vwCl (gS 39 q (MX cy q) u) (gA 39 q)) args s 0 0 (gA 39 q)) (F0 m 49 ls [.int sx0]) := by
  obtain ⟨hx, hb, hr, hml, hown, hts, hlocks⟩ := id C0
  unfold sX9_set_49 at hp
  refine lv_istore (lv' := [(4, .int sx0), (0, .ref (q (0))), (1, .int x1), (2, .int x2)]) hx hb dX9_set_49 hl (by decide) rfl (fun ls hl => ?_)
  exact kX9_set_51 C0 hK hJ  hP hS (lv_sub hl [1, 2, 3, 0] rfl) hp
def sX9_set_0 (x1 : Int32) (x2 : Int32) (x3 : Int32) (σ : TS) : Option (Int32 × TS) := (if vin x1 4 = true then (if (σ 17 (x1.toNatClampNeg)) = (x2 + ((1 : Int32))) then (if (σ 19 (x1.toNatClampNeg)) = 0 then sX9_set_49 x1 x2 (x3 &&& ((((1 : Int32)) <<< ((σ 18 (x1.toNatClampNeg)) &&& 31)) ^^^ ((-1 : Int32)))) σ else sX9_set_49 x1 x2 (x3 ||| (((1 : Int32)) <<< ((σ 18 (x1.toNatClampNeg)) &&& 31))) σ) else sX9_set_51 x1 x2 x3 σ) else none)
set_option maxHeartbeats 4000000 in
set_option maxRecDepth 100000 in
theorem kX9_set_0 {r : Int32} {u : TS} (C0 : gC RX9 cX9_set 6 none wsX9_set p s m args meth c) (hK : va_K D vwCl (tyL cy) s) (hJ : gJ 39 q) {H : Heap} {locs : List Loc} {σ : TS} {x1 : Int32} {x2 : Int32} {x3 : Int32} (hP : va_P D vwCl (gS 39 q (MX cy q) σ) H) (hS : va_S (gA 39 q) s.heap H locs) {ls : Array Slot} (hl : lv_has ls 6 [(0, .ref (q (0))), (1, .int x1), (2, .int x2), (3, .int x3)]) (hp : sX9_set_0 x1 x2 x3 σ = some (r, u)) : W p l e rmX9_set s m args below meth c H locs 0 0 (MQ below (gQv D vwCl (gS 39 q (MX cy q) u) (gA 39 q)) args s 0 0 (gA 39 q)) (F0 m 0 ls []) := by
  obtain ⟨hx, hb, hr, hml, hown, hts, hlocks⟩ := id C0
  unfold sX9_set_0 at hp
  refine lv_iload_n hx hb dX9_set_0 rfl (lv_at hl 3 rfl) ?_
  refine lv_istore (lv' := [(4, .int x3), (0, .ref (q (0))), (1, .int x1), (2, .int x2), (3, .int x3)]) hx hb dX9_set_1 hl (by decide) rfl (fun ls hl => ?_)
  refine lv_aload_n hx hb dX9_set_3 rfl (lv_at hl 1 rfl) ?_
  refine g_get (v := .ref (q (17))) hx hb hts miX9_set_X9 hown hK hP (kk_Mod) (ce_Mod) rfl 19 (by decide) mwX9_set_1 rfl dX9_set_4 ?_
  refine lv_iload_n hx hb dX9_set_7 rfl (lv_at hl 2 rfl) ?_
  obtain ⟨hi5, hp⟩ := o_chk hp
  refine g_iald (j := x1.toNatClampNeg) hx hb hK hP (kk_M_stuck) (ce_M_stuck) 0 rfl (vin_of hi5) rfl dX9_set_8 ?_
  refine lv_iload_n hx hb dX9_set_9 rfl (lv_at hl 3 rfl) ?_
  refine lv_iconst (v := (1 : Int32)) hx hb dX9_set_10 (by decide) ?_
  refine lv_iadd hx hb dX9_set_11 ?_
  refine lv_icmp_ne (tgt := 51) hx hb dX9_set_12 (by decide) (fun hcd6 => ?_) (fun hcd6 => ?_)
  · have hp := o_f hp hcd6
    exact kX9_set_51 C0 hK hJ  hP hS (lv_sub hl [1, 2, 3, 0] rfl) hp
  · have hp := o_t hp hcd6
    refine lv_iconst (v := (1 : Int32)) hx hb dX9_set_15 (by decide) ?_
    refine lv_aload_n hx hb dX9_set_16 rfl (lv_at hl 1 rfl) ?_
    refine g_get (v := .ref (q (18))) hx hb hts miX9_set_X9 hown hK hP (kk_Mod) (ce_Mod) rfl 20 (by decide) mwX9_set_2 rfl dX9_set_17 ?_
    refine lv_iload_n hx hb dX9_set_20 rfl (lv_at hl 2 rfl) ?_
    refine g_iald (j := x1.toNatClampNeg) hx hb hK hP (kk_M_stuckBit) (ce_M_stuckBit) 0 rfl (vin_of hi5) rfl dX9_set_21 ?_
    refine lv_ishl hx hb dX9_set_22 ?_
    refine lv_istore (lv' := [(5, .int (((1 : Int32)) <<< ((σ 18 (x1.toNatClampNeg)) &&& 31))), (4, .int x3), (0, .ref (q (0))), (1, .int x1), (2, .int x2), (3, .int x3)]) hx hb dX9_set_23 hl (by decide) rfl (fun ls hl => ?_)
    refine lv_aload_n hx hb dX9_set_25 rfl (lv_at hl 2 rfl) ?_
    refine g_get (v := .ref (q (19))) hx hb hts miX9_set_X9 hown hK hP (kk_Mod) (ce_Mod) rfl 21 (by decide) mwX9_set_3 rfl dX9_set_26 ?_
    refine lv_iload_n hx hb dX9_set_29 rfl (lv_at hl 3 rfl) ?_
    refine g_zald (j := x1.toNatClampNeg) hx hb hK hP (kk_M_isStuckSet) (ce_M_isStuckSet) 1 rfl (vin_of hi5) rfl dX9_set_30 ?_
    refine lv_if_eq (tgt := 42) hx hb dX9_set_31 (by decide) (fun hcd7 => ?_) (fun hcd7 => ?_)
    · have hp := o_t hp hcd7
      refine lv_iload hx hb dX9_set_42 (lv_at hl 1 rfl) ?_
      refine lv_iload hx hb dX9_set_44 (lv_at hl 0 rfl) ?_
      refine lv_iconst (v := (-1 : Int32)) hx hb dX9_set_46 (by decide) ?_
      refine lv_ixor hx hb dX9_set_47 ?_
      refine lv_iand hx hb dX9_set_48 ?_
      exact kX9_set_49 C0 hK hJ  hP hS (lv_sub hl [2, 3, 4] rfl) hp
    · have hp := o_f hp hcd7
      refine lv_iload hx hb dX9_set_34 (lv_at hl 1 rfl) ?_
      refine lv_iload hx hb dX9_set_36 (lv_at hl 0 rfl) ?_
      refine lv_ior hx hb dX9_set_38 ?_
      refine lv_goto (tgt := 49) hx hb dX9_set_39 (by decide) ?_
      exact kX9_set_49 C0 hK hJ  hP hS (lv_sub hl [2, 3, 4] rfl) hp
def sX9_set (x1 : Int32) (x2 : Int32) (x3 : Int32) (σ : TS) : Option (Int32 × TS) := sX9_set_0 x1 x2 x3 σ
theorem nVX9_set : yX9_set.cls = RX9 ∧ yX9_set.cls ≠ "java/lang/invoke/MethodHandle" ∧ yX9_set.cls ≠ "java/lang/invoke/VarHandle" ∧ (parseMethodDescriptor yX9_set.desc).map (fun d => d.parameters.length) = some 3 := by decide +kernel
set_option maxHeartbeats 4000000 in
set_option maxRecDepth 100000 in
theorem mX9_set (l : Launch) (hJ : gJ 39 q) {x1 : Int32} {x2 : Int32} {x3 : Int32} {σ : TS} {r : Int32} {u : TS} (hp : sX9_set x1 x2 x3 σ = some (r, u)) : Met l yX9_set wsX9_set rmX9_set (va_Pc [.ref (q (0)), .int x1, .int x2, .int x3] (gPre D vwCl (tyL cy) (gS 39 q (MX cy q) σ))) (gQv D vwCl (gS 39 q (MX cy q) u) (gA 39 q)) 0 0 (gA 39 q) := by
  refine Met.ofW (cc := cX9_set) (maxL := 6) (ret := none) (by decide +kernel) rfl ?_
  intro p e s m args below meth c s₁ B hml hv
  obtain ⟨rfl, hP, hK⟩ := hv
  have hl := lv_entry ([.ref (q (0)), .int x1, .int x2, .int x3]) (n := 6) (Nat.le_of_ble_eq_true rfl)
  rw [lg_entry_eq]
  generalize (lg_sl ([.ref (q (0)), .int x1, .int x2, .int x3]) ++ List.replicate (6 - (lg_sl ([.ref (q (0)), .int x1, .int x2, .int x3])).length) Slot.unset).toArray = ls at hl ⊢
  have hl : lv_has ls 6 [(0, .ref (q (0))), (1, .int x1), (2, .int x2), (3, .int x3)] := hl
  exact kX9_set_0 ⟨B.exec, B.bytes, B.returns, hml, findClass_of_methodNamed B.named, atoms_spec (ws := wsX9_set) B.pre, B.notSynchronized⟩ hK hJ  hP va_S.rf hl hp
theorem miX9_begins_X9 : ∀ w ∈ u_ws RX9 TX9 44, w ∈ wsX9_begins := by decide +kernel
theorem mwX9_begins_0 : Cond.fieldLink RX9 35 "TriplaneModel" "next" "[I" ∈ wsX9_begins := by decide +kernel
abbrev rmX9_begins : Room := { frames := 2, cells := 0, slots := 0, locals := 45 }
def sX9_begins_21 (K9 : Int32 → Int32 → TS → Option (Int32 × TS)) (x1 : Int32) (x2 : Int32) (σ : TS) : Option (Int32 × TS) := K9 x1 (x2 + (1 : Int32)) σ
set_option maxHeartbeats 4000000 in
set_option maxRecDepth 100000 in
theorem kX9_begins_21 {r : Int32} {u : TS} {K9 : Int32 → Int32 → TS → Option (Int32 × TS)} (C0 : gC RX9 cX9_begins 3 none wsX9_begins p s m args meth c) (hK : va_K D vwCl (tyL cy) s) (hJ : gJ 39 q) (kh9 : ∀ (H : Heap) (locs : List Loc) (σ : TS) (x1 : Int32) (x2 : Int32) (hP : va_P D vwCl (gS 39 q (MX cy q) σ) H) (hS : va_S (gA 39 q) s.heap H locs) (ls : Array Slot) (hl : lv_has ls 3 [(0, .ref (q (0))), (1, .int x1), (2, .int x2)]) (hp : K9 x1 x2 σ = some (r, u)), W p l e rmX9_begins s m args below meth c H locs 0 0 (MQ below (gQv D vwCl (gS 39 q (MX cy q) u) (gA 39 q)) args s 0 0 (gA 39 q)) (F0 m 9 ls [])) {H : Heap} {locs : List Loc} {σ : TS} {x1 : Int32} {x2 : Int32} (hP : va_P D vwCl (gS 39 q (MX cy q) σ) H) (hS : va_S (gA 39 q) s.heap H locs) {ls : Array Slot} (hl : lv_has ls 3 [(0, .ref (q (0))), (1, .int x1), (2, .int x2)]) (hp : sX9_begins_21 K9 x1 x2 σ = some (r, u)) : W p l e rmX9_begins s m args below meth c H locs 0 0 (MQ below (gQv D vwCl (gS 39 q (MX cy q) u) (gA 39 q)) args s 0 0 (gA 39 q)) (F0 m 21 ls []) := by
  obtain ⟨hx, hb, hr, hml, hown, hts, hlocks⟩ := id C0
  unfold sX9_begins_21 at hp
  refine lv_iinc (v := x2 + (1 : Int32)) (lv' := [(2, .int (x2 + (1 : Int32))), (0, .ref (q (0))), (1, .int x1)]) hx hb dX9_begins_21 hl (k := 2) rfl rfl (by decide) rfl (fun ls hl => ?_)
  refine lv_goto (tgt := 9) hx hb dX9_begins_24 (by decide) ?_
  exact kh9 _ _ _ _ _  hP hS _ (lv_sub hl [1, 2, 0] rfl) hp
def sX9_begins_9 : Nat → Int32 → Int32 → TS → Option (Int32 × TS)
  | 0, _, _, _ => none
  | n + 1, x1, x2, σ => (if ((4 : Int32)) ≤ x2 then some (0, σ) else ((sX9_set x1 x2 ((0 : Int32)) σ).bind (fun z => sX9_begins_21 (sX9_begins_9 n) x1 x2 z.2)))
set_option maxHeartbeats 4000000 in
set_option maxRecDepth 100000 in
theorem kX9_begins_9 {r : Int32} {u : TS} (C0 : gC RX9 cX9_begins 3 none wsX9_begins p s m args meth c) (hK : va_K D vwCl (tyL cy) s) (hJ : gJ 39 q) : ∀ (n : Nat) (H : Heap) (locs : List Loc) (σ : TS) (x1 : Int32) (x2 : Int32) (hP : va_P D vwCl (gS 39 q (MX cy q) σ) H) (hS : va_S (gA 39 q) s.heap H locs) (ls : Array Slot) (hl : lv_has ls 3 [(0, .ref (q (0))), (1, .int x1), (2, .int x2)]) (hp : sX9_begins_9 n x1 x2 σ = some (r, u)), W p l e rmX9_begins s m args below meth c H locs 0 0 (MQ below (gQv D vwCl (gS 39 q (MX cy q) u) (gA 39 q)) args s 0 0 (gA 39 q)) (F0 m 9 ls []) := by
  obtain ⟨hx, hb, hr, hml, hown, hts, hlocks⟩ := id C0
  intro n
  induction n with
  | zero =>
    intro H locs σ x1 x2 hP hS ls hl hp
    cases hp
  | succ n ih =>
    intro H locs σ x1 x2 hP hS ls hl hp
    unfold sX9_begins_9 at hp
    refine lv_iload_n hx hb dX9_begins_9 rfl (lv_at hl 2 rfl) ?_
    refine lv_iconst (v := (4 : Int32)) hx hb dX9_begins_10 (by decide) ?_
    refine lv_icmp_ge (tgt := 27) hx hb dX9_begins_11 (by decide) (fun hcd1 => ?_) (fun hcd1 => ?_)
    · have hp := o_t hp hcd1
      obtain ⟨rfl, rfl⟩ := o_r hp
      exact W.vret hx hb hr (fun t ht hW => ⟨⟨(), rfl, trivial, by subst ht; exact hP⟩, hS.F ht⟩) hS.2.2 dX9_begins_27
    · have hp := o_f hp hcd1
      refine lv_aload_n hx hb dX9_begins_14 rfl (lv_at hl 0 rfl) ?_
      refine lv_iload_n hx hb dX9_begins_15 rfl (lv_at hl 1 rfl) ?_
      refine lv_iload_n hx hb dX9_begins_16 rfl (lv_at hl 2 rfl) ?_
      refine lv_iconst (v := (0 : Int32)) hx hb dX9_begins_17 (by decide) ?_
      obtain ⟨⟨r2, u3⟩, hq4, hp⟩ := o_b hp
      refine g_cVv (As := [.int x1, .int x2, .int ((0 : Int32))]) (rest := []) hx hb hml hown hts hK hP hS (mX9_set l hJ hq4) (cwV 3 hts gX9_begins_X9_set rfl rfl rfl nVX9_set ⟨Nat.le_of_ble_eq_true rfl, Nat.le_of_ble_eq_true rfl⟩) (g_recv hK hP (kk_Mod) (ce_Mod) rfl) rfl hl.1 rfl (Nat.le_of_ble_eq_true rfl) dX9_begins_18 ⟨Nat.le_of_ble_eq_true rfl, Nat.le_of_ble_eq_true rfl⟩ (fun H locs hP hS => ?_)
      exact kX9_begins_21 C0 hK hJ ih  hP hS hl hp
def sX9_begins_0 (x1 : Int32) (σ : TS) : Option (Int32 × TS) := (if vin x1 4 = true then sX9_begins_9 5 x1 ((0 : Int32)) (st2 σ 9 (x1.toNatClampNeg) ((0 : Int32))) else none)
set_option maxHeartbeats 4000000 in
set_option maxRecDepth 100000 in
theorem kX9_begins_0 {r : Int32} {u : TS} (C0 : gC RX9 cX9_begins 3 none wsX9_begins p s m args meth c) (hK : va_K D vwCl (tyL cy) s) (hJ : gJ 39 q) {H : Heap} {locs : List Loc} {σ : TS} {x1 : Int32} (hP : va_P D vwCl (gS 39 q (MX cy q) σ) H) (hS : va_S (gA 39 q) s.heap H locs) {ls : Array Slot} (hl : lv_has ls 3 [(0, .ref (q (0))), (1, .int x1)]) (hp : sX9_begins_0 x1 σ = some (r, u)) : W p l e rmX9_begins s m args below meth c H locs 0 0 (MQ below (gQv D vwCl (gS 39 q (MX cy q) u) (gA 39 q)) args s 0 0 (gA 39 q)) (F0 m 0 ls []) := by
  obtain ⟨hx, hb, hr, hml, hown, hts, hlocks⟩ := id C0
  unfold sX9_begins_0 at hp
  refine lv_aload_n hx hb dX9_begins_0 rfl (lv_at hl 0 rfl) ?_
  refine g_get (v := .ref (q (9))) hx hb hts miX9_begins_X9 hown hK hP (kk_Mod) (ce_Mod) rfl 11 (by decide) mwX9_begins_0 rfl dX9_begins_1 ?_
  refine lv_iload_n hx hb dX9_begins_4 rfl (lv_at hl 1 rfl) ?_
  refine lv_iconst (v := (0 : Int32)) hx hb dX9_begins_5 (by decide) ?_
  obtain ⟨hi5, hp⟩ := o_chk hp
  refine g_iast (j := x1.toNatClampNeg) hx hb hK hJ hP hS (kk_M_next) (ce_M_next) 0 rfl (vin_of hi5) rfl dX9_begins_6 (fun H locs hP hS => ?_)
  refine lv_iconst (v := (0 : Int32)) hx hb dX9_begins_7 (by decide) ?_
  refine lv_istore_n (lv' := [(2, .int ((0 : Int32))), (0, .ref (q (0))), (1, .int x1)]) hx hb dX9_begins_8 rfl hl (by decide) rfl (fun ls hl => ?_)
  exact kX9_begins_9 C0 hK hJ _ _ _ _ _ _  hP hS _ (lv_sub hl [1, 2, 0] rfl) hp
def sX9_begins (x1 : Int32) (σ : TS) : Option (Int32 × TS) := sX9_begins_0 x1 σ
theorem nVX9_begins : yX9_begins.cls = RX9 ∧ yX9_begins.cls ≠ "java/lang/invoke/MethodHandle" ∧ yX9_begins.cls ≠ "java/lang/invoke/VarHandle" ∧ (parseMethodDescriptor yX9_begins.desc).map (fun d => d.parameters.length) = some 1 := by decide +kernel
set_option maxHeartbeats 4000000 in
set_option maxRecDepth 100000 in
theorem mX9_begins (l : Launch) (hJ : gJ 39 q) {x1 : Int32} {σ : TS} {r : Int32} {u : TS} (hp : sX9_begins x1 σ = some (r, u)) : Met l yX9_begins wsX9_begins rmX9_begins (va_Pc [.ref (q (0)), .int x1] (gPre D vwCl (tyL cy) (gS 39 q (MX cy q) σ))) (gQv D vwCl (gS 39 q (MX cy q) u) (gA 39 q)) 0 0 (gA 39 q) := by
  refine Met.ofW (cc := cX9_begins) (maxL := 3) (ret := none) (by decide +kernel) rfl ?_
  intro p e s m args below meth c s₁ B hml hv
  obtain ⟨rfl, hP, hK⟩ := hv
  have hl := lv_entry ([.ref (q (0)), .int x1]) (n := 3) (Nat.le_of_ble_eq_true rfl)
  rw [lg_entry_eq]
  generalize (lg_sl ([.ref (q (0)), .int x1]) ++ List.replicate (3 - (lg_sl ([.ref (q (0)), .int x1])).length) Slot.unset).toArray = ls at hl ⊢
  have hl : lv_has ls 3 [(0, .ref (q (0))), (1, .int x1)] := hl
  exact kX9_begins_0 ⟨B.exec, B.bytes, B.returns, hml, findClass_of_methodNamed B.named, atoms_spec (ws := wsX9_begins) B.pre, B.notSynchronized⟩ hK hJ  hP va_S.rf hl hp
theorem miX9_mends_X9 : ∀ w ∈ u_ws RX9 TX9 44, w ∈ wsX9_mends := by decide +kernel
theorem mwX9_mends_0 : Cond.fieldLink RX9 57 "TriplaneModel" "mended" "[I" ∈ wsX9_mends := by decide +kernel
theorem mwX9_mends_1 : Cond.fieldLink RX9 29 "TriplaneModel" "flips" "[I" ∈ wsX9_mends := by decide +kernel
abbrev rmX9_mends : Room := { frames := 2, cells := 0, slots := 0, locals := 44 }
def sX9_mends_65 (sx0 : Int32) (σ : TS) : Option (Int32 × TS) := (if zok sx0 = true then some (sx0, σ) else none)
set_option maxHeartbeats 4000000 in
set_option maxRecDepth 100000 in
theorem kX9_mends_65 {r : Int32} {u : TS} (C0 : gC RX9 cX9_mends 5 ((some .boolean)) wsX9_mends p s m args meth c) (hK : va_K D vwCl (tyL cy) s) (hJ : gJ 39 q) {H : Heap} {locs : List Loc} {σ : TS} {sx0 : Int32} (hP : va_P D vwCl (gS 39 q (MX cy q) σ) H) (hS : va_S (gA 39 q) s.heap H locs) {ls : Array Slot} (hl : lv_has ls 5 []) (hp : sX9_mends_65 sx0 σ = some (r, u)) : W p l e rmX9_mends s m args below meth c H locs 0 0 (MQ below (gQi D vwCl r (gS 39 q (MX cy q) u) (gA 39 q)) args s 0 0 (gA 39 q)) (F0 m 65 ls [.int sx0]) := by
  obtain ⟨hx, hb, hr, hml, hown, hts, hlocks⟩ := id C0
  unfold sX9_mends_65 at hp
  obtain ⟨hz1, hp⟩ := o_chk hp
  obtain ⟨rfl, rfl⟩ := o_r hp
  exact W.zret (v := sx0) hx hb hr (zok_n hz1).1 (fun t ht hW => ⟨⟨sx0, (), rfl, rfl, by subst ht; exact hP⟩, hS.F ht⟩) hS.2.2 dX9_mends_65
def sX9_mends_54 (x4 : Int32) (σ : TS) : Option (Int32 × TS) := (if ((2 : Int32)) ≤ x4 then sX9_mends_65 ((0 : Int32)) σ else sX9_mends_65 ((1 : Int32)) σ)
set_option maxHeartbeats 4000000 in
set_option maxRecDepth 100000 in
theorem kX9_mends_54 {r : Int32} {u : TS} (C0 : gC RX9 cX9_mends 5 ((some .boolean)) wsX9_mends p s m args meth c) (hK : va_K D vwCl (tyL cy) s) (hJ : gJ 39 q) {H : Heap} {locs : List Loc} {σ : TS} {x4 : Int32} (hP : va_P D vwCl (gS 39 q (MX cy q) σ) H) (hS : va_S (gA 39 q) s.heap H locs) {ls : Array Slot} (hl : lv_has ls 5 [(4, .int x4)]) (hp : sX9_mends_54 x4 σ = some (r, u)) : W p l e rmX9_mends s m args below meth c H locs 0 0 (MQ below (gQi D vwCl r (gS 39 q (MX cy q) u) (gA 39 q)) args s 0 0 (gA 39 q)) (F0 m 54 ls []) := by
  obtain ⟨hx, hb, hr, hml, hown, hts, hlocks⟩ := id C0
  unfold sX9_mends_54 at hp
  refine lv_iload hx hb dX9_mends_54 (lv_at hl 0 rfl) ?_
  refine lv_iconst (v := (2 : Int32)) hx hb dX9_mends_56 (by decide) ?_
  refine lv_icmp_ge (tgt := 64) hx hb dX9_mends_57 (by decide) (fun hcd2 => ?_) (fun hcd2 => ?_)
  · have hp := o_t hp hcd2
    refine lv_iconst (v := (0 : Int32)) hx hb dX9_mends_64 (by decide) ?_
    exact kX9_mends_65 C0 hK hJ  hP hS (lv_sub hl [] rfl) hp
  · have hp := o_f hp hcd2
    refine lv_iconst (v := (1 : Int32)) hx hb dX9_mends_60 (by decide) ?_
    refine lv_goto (tgt := 65) hx hb dX9_mends_61 (by decide) ?_
    exact kX9_mends_65 C0 hK hJ  hP hS (lv_sub hl [] rfl) hp
def sX9_mends_41 (x1 : Int32) (x4 : Int32) (σ : TS) : Option (Int32 × TS) := (if x4 ≤ ((1 : Int32)) then sX9_mends_54 x4 σ else ((sX9_off x1 ((109 : Int32)) σ).bind (fun z => sX9_mends_54 x4 z.2)))
set_option maxHeartbeats 4000000 in
set_option maxRecDepth 100000 in
theorem kX9_mends_41 {r : Int32} {u : TS} (C0 : gC RX9 cX9_mends 5 ((some .boolean)) wsX9_mends p s m args meth c) (hK : va_K D vwCl (tyL cy) s) (hJ : gJ 39 q) {H : Heap} {locs : List Loc} {σ : TS} {x1 : Int32} {x4 : Int32} (hP : va_P D vwCl (gS 39 q (MX cy q) σ) H) (hS : va_S (gA 39 q) s.heap H locs) {ls : Array Slot} (hl : lv_has ls 5 [(0, .ref (q (0))), (1, .int x1), (4, .int x4)]) (hp : sX9_mends_41 x1 x4 σ = some (r, u)) : W p l e rmX9_mends s m args below meth c H locs 0 0 (MQ below (gQi D vwCl r (gS 39 q (MX cy q) u) (gA 39 q)) args s 0 0 (gA 39 q)) (F0 m 41 ls []) := by
  obtain ⟨hx, hb, hr, hml, hown, hts, hlocks⟩ := id C0
  unfold sX9_mends_41 at hp
  refine lv_iload hx hb dX9_mends_41 (lv_at hl 2 rfl) ?_
  refine lv_iconst (v := (1 : Int32)) hx hb dX9_mends_43 (by decide) ?_
  refine lv_icmp_le (tgt := 54) hx hb dX9_mends_44 (by decide) (fun hcd3 => ?_) (fun hcd3 => ?_)
  · have hp := o_t hp hcd3
    exact kX9_mends_54 C0 hK hJ  hP hS (lv_sub hl [2] rfl) hp
  · have hp := o_f hp hcd3
    refine lv_aload_n hx hb dX9_mends_47 rfl (lv_at hl 0 rfl) ?_
    refine lv_iload_n hx hb dX9_mends_48 rfl (lv_at hl 1 rfl) ?_
    refine lv_bipush (v := (109 : Int32)) hx hb dX9_mends_49 (by decide) ?_
    obtain ⟨⟨r4, u5⟩, hq6, hp⟩ := o_b hp
    refine g_cVv (As := [.int x1, .int ((109 : Int32))]) (rest := []) hx hb hml hown hts hK hP hS (mX9_off l hJ hq6) (cwV 2 hts gX9_mends_X9_off rfl rfl rfl nVX9_off ⟨Nat.le_of_ble_eq_true rfl, Nat.le_of_ble_eq_true rfl⟩) (g_recv hK hP (kk_Mod) (ce_Mod) rfl) rfl hl.1 rfl (Nat.le_of_ble_eq_true rfl) dX9_mends_51 ⟨Nat.le_of_ble_eq_true rfl, Nat.le_of_ble_eq_true rfl⟩ (fun H locs hP hS => ?_)
    exact kX9_mends_54 C0 hK hJ  hP hS (lv_sub hl [2] rfl) hp
def sX9_mends_16 (x1 : Int32) (x3 : Int32) (sx0 : Int32) (σ : TS) : Option (Int32 × TS) := (if sx0 = ((1 : Int32)) then (if vin x1 4 = true then (if vin x3 72 = true then sX9_mends_41 x1 sx0 (st2 (st2 σ 16 (x1.toNatClampNeg) ((σ 16 (x1.toNatClampNeg)) + ((1 : Int32)))) 7 (x3.toNatClampNeg) ((0 : Int32))) else none) else none) else sX9_mends_41 x1 sx0 σ)
set_option maxHeartbeats 4000000 in
set_option maxRecDepth 100000 in
theorem kX9_mends_16 {r : Int32} {u : TS} (C0 : gC RX9 cX9_mends 5 ((some .boolean)) wsX9_mends p s m args meth c) (hK : va_K D vwCl (tyL cy) s) (hJ : gJ 39 q) {H : Heap} {locs : List Loc} {σ : TS} {x1 : Int32} {x3 : Int32} {sx0 : Int32} (hP : va_P D vwCl (gS 39 q (MX cy q) σ) H) (hS : va_S (gA 39 q) s.heap H locs) {ls : Array Slot} (hl : lv_has ls 5 [(0, .ref (q (0))), (1, .int x1), (3, .int x3)]) (hp : sX9_mends_16 x1 x3 sx0 σ = some (r, u)) : W p l e rmX9_mends s m args below meth c H locs 0 0 (MQ below (gQi D vwCl r (gS 39 q (MX cy q) u) (gA 39 q)) args s 0 0 (gA 39 q)) (F0 m 16 ls [.int sx0]) := by
  obtain ⟨hx, hb, hr, hml, hown, hts, hlocks⟩ := id C0
  unfold sX9_mends_16 at hp
  refine lv_istore (lv' := [(4, .int sx0), (0, .ref (q (0))), (1, .int x1), (3, .int x3)]) hx hb dX9_mends_16 hl (by decide) rfl (fun ls hl => ?_)
  refine lv_iload hx hb dX9_mends_18 (lv_at hl 0 rfl) ?_
  refine lv_iconst (v := (1 : Int32)) hx hb dX9_mends_20 (by decide) ?_
  refine lv_icmp_ne (tgt := 41) hx hb dX9_mends_21 (by decide) (fun hcd7 => ?_) (fun hcd7 => ?_)
  · have hp := o_f hp hcd7
    exact kX9_mends_41 C0 hK hJ  hP hS (lv_sub hl [1, 2, 0] rfl) hp
  · have hp := o_t hp hcd7
    refine lv_aload_n hx hb dX9_mends_24 rfl (lv_at hl 1 rfl) ?_
    refine g_get (v := .ref (q (16))) hx hb hts miX9_mends_X9 hown hK hP (kk_Mod) (ce_Mod) rfl 18 (by decide) mwX9_mends_0 rfl dX9_mends_25 ?_
    refine lv_iload_n hx hb dX9_mends_28 rfl (lv_at hl 2 rfl) ?_
    refine lv_dup2_11 hx hb dX9_mends_29 rfl rfl ?_
    obtain ⟨hi8, hp⟩ := o_chk hp
    refine g_iald (j := x1.toNatClampNeg) hx hb hK hP (kk_M_mended) (ce_M_mended) 0 rfl (vin_of hi8) rfl dX9_mends_30 ?_
    refine lv_iconst (v := (1 : Int32)) hx hb dX9_mends_31 (by decide) ?_
    refine lv_iadd hx hb dX9_mends_32 ?_
    refine g_iast (j := x1.toNatClampNeg) hx hb hK hJ hP hS (kk_M_mended) (ce_M_mended) 0 rfl (vin_of hi8) rfl dX9_mends_33 (fun H locs hP hS => ?_)
    refine lv_aload_n hx hb dX9_mends_34 rfl (lv_at hl 1 rfl) ?_
    refine g_get (v := .ref (q (7))) hx hb hts miX9_mends_X9 hown hK hP (kk_Mod) (ce_Mod) rfl 9 (by decide) mwX9_mends_1 rfl dX9_mends_35 ?_
    refine lv_iload_n hx hb dX9_mends_38 rfl (lv_at hl 3 rfl) ?_
    refine lv_iconst (v := (0 : Int32)) hx hb dX9_mends_39 (by decide) ?_
    obtain ⟨hi9, hp⟩ := o_chk hp
    refine g_iast (j := x3.toNatClampNeg) hx hb hK hJ hP hS (kk_M_flips) (ce_M_flips) 0 rfl (vin_of hi9) rfl dX9_mends_40 (fun H locs hP hS => ?_)
    exact kX9_mends_41 C0 hK hJ  hP hS (lv_sub hl [1, 2, 0] rfl) hp
def sX9_mends_0 (x1 : Int32) (x2 : Int32) (σ : TS) : Option (Int32 × TS) := (if vin ((x1 * ((18 : Int32))) + x2) 72 = true then ((sX9_ones (σ 7 (((x1 * ((18 : Int32))) + x2).toNatClampNeg)) σ).bind (fun z => sX9_mends_16 x1 ((x1 * ((18 : Int32))) + x2) z.1 z.2)) else none)
set_option maxHeartbeats 4000000 in
set_option maxRecDepth 100000 in
theorem kX9_mends_0 {r : Int32} {u : TS} (C0 : gC RX9 cX9_mends 5 ((some .boolean)) wsX9_mends p s m args meth c) (hK : va_K D vwCl (tyL cy) s) (hJ : gJ 39 q) {H : Heap} {locs : List Loc} {σ : TS} {x1 : Int32} {x2 : Int32} (hP : va_P D vwCl (gS 39 q (MX cy q) σ) H) (hS : va_S (gA 39 q) s.heap H locs) {ls : Array Slot} (hl : lv_has ls 5 [(0, .ref (q (0))), (1, .int x1), (2, .int x2)]) (hp : sX9_mends_0 x1 x2 σ = some (r, u)) : W p l e rmX9_mends s m args below meth c H locs 0 0 (MQ below (gQi D vwCl r (gS 39 q (MX cy q) u) (gA 39 q)) args s 0 0 (gA 39 q)) (F0 m 0 ls []) := by
  obtain ⟨hx, hb, hr, hml, hown, hts, hlocks⟩ := id C0
  unfold sX9_mends_0 at hp
  refine lv_iload_n hx hb dX9_mends_0 rfl (lv_at hl 1 rfl) ?_
  refine lv_bipush (v := (18 : Int32)) hx hb dX9_mends_1 (by decide) ?_
  refine lv_imul hx hb dX9_mends_3 ?_
  refine lv_iload_n hx hb dX9_mends_4 rfl (lv_at hl 2 rfl) ?_
  refine lv_iadd hx hb dX9_mends_5 ?_
  refine lv_istore_n (lv' := [(3, .int ((x1 * ((18 : Int32))) + x2)), (0, .ref (q (0))), (1, .int x1), (2, .int x2)]) hx hb dX9_mends_6 rfl hl (by decide) rfl (fun ls hl => ?_)
  refine lv_aload_n hx hb dX9_mends_7 rfl (lv_at hl 1 rfl) ?_
  refine g_get (v := .ref (q (7))) hx hb hts miX9_mends_X9 hown hK hP (kk_Mod) (ce_Mod) rfl 9 (by decide) mwX9_mends_1 rfl dX9_mends_8 ?_
  refine lv_iload_n hx hb dX9_mends_11 rfl (lv_at hl 0 rfl) ?_
  obtain ⟨hi10, hp⟩ := o_chk hp
  refine g_iald (j := ((x1 * ((18 : Int32))) + x2).toNatClampNeg) hx hb hK hP (kk_M_flips) (ce_M_flips) 0 rfl (vin_of hi10) rfl dX9_mends_12 ?_
  obtain ⟨⟨r11, u12⟩, hq13, hp⟩ := o_b hp
  refine g_cSi (As := [.int (σ 7 (((x1 * ((18 : Int32))) + x2).toNatClampNeg))]) (rest := []) hx hb hml hown hts hK hP hS (mX9_ones l hJ hq13) (va_cwS 1 hts gX9_mends_X9_ones rfl rfl rfl nVX9_ones ⟨Nat.le_of_ble_eq_true rfl, Nat.le_of_ble_eq_true rfl⟩) rfl hl.1 rfl (Nat.le_of_ble_eq_true rfl) dX9_mends_13 ⟨Nat.le_of_ble_eq_true rfl, Nat.le_of_ble_eq_true rfl⟩ (fun H locs hP hS => ?_)
  exact kX9_mends_16 C0 hK hJ  hP hS (lv_sub hl [1, 2, 0] rfl) hp
def sX9_mends (x1 : Int32) (x2 : Int32) (σ : TS) : Option (Int32 × TS) := sX9_mends_0 x1 x2 σ
theorem nVX9_mends : yX9_mends.cls = RX9 ∧ yX9_mends.cls ≠ "java/lang/invoke/MethodHandle" ∧ yX9_mends.cls ≠ "java/lang/invoke/VarHandle" ∧ (parseMethodDescriptor yX9_mends.desc).map (fun d => d.parameters.length) = some 2 := by decide +kernel
set_option maxHeartbeats 4000000 in
set_option maxRecDepth 100000 in
theorem mX9_mends (l : Launch) (hJ : gJ 39 q) {x1 : Int32} {x2 : Int32} {σ : TS} {r : Int32} {u : TS} (hp : sX9_mends x1 x2 σ = some (r, u)) : Met l yX9_mends wsX9_mends rmX9_mends (va_Pc [.ref (q (0)), .int x1, .int x2] (gPre D vwCl (tyL cy) (gS 39 q (MX cy q) σ))) (gQi D vwCl r (gS 39 q (MX cy q) u) (gA 39 q)) 0 0 (gA 39 q) := by
  refine Met.ofW (cc := cX9_mends) (maxL := 5) (ret := (some .boolean)) (by decide +kernel) rfl ?_
  intro p e s m args below meth c s₁ B hml hv
  obtain ⟨rfl, hP, hK⟩ := hv
  have hl := lv_entry ([.ref (q (0)), .int x1, .int x2]) (n := 5) (Nat.le_of_ble_eq_true rfl)
  rw [lg_entry_eq]
  generalize (lg_sl ([.ref (q (0)), .int x1, .int x2]) ++ List.replicate (5 - (lg_sl ([.ref (q (0)), .int x1, .int x2])).length) Slot.unset).toArray = ls at hl ⊢
  have hl : lv_has ls 5 [(0, .ref (q (0))), (1, .int x1), (2, .int x2)] := hl
  exact kX9_mends_0 ⟨B.exec, B.bytes, B.returns, hml, findClass_of_methodNamed B.named, atoms_spec (ws := wsX9_mends) B.pre, B.notSynchronized⟩ hK hJ  hP va_S.rf hl hp
theorem miX9_isDone_X9 : ∀ w ∈ u_ws RX9 TX9 44, w ∈ wsX9_isDone := by decide +kernel
theorem mwX9_isDone_0 : Cond.fieldLink RX9 38 "TriplaneModel" "isOff" "[Z" ∈ wsX9_isDone := by decide +kernel
theorem mwX9_isDone_1 : Cond.fieldLink RX9 35 "TriplaneModel" "next" "[I" ∈ wsX9_isDone := by decide +kernel
theorem mwX9_isDone_2 : Cond.fieldLink RX9 20 "TriplaneModel" "sizes" "[I" ∈ wsX9_isDone := by decide +kernel
abbrev rmX9_isDone : Room := { frames := 0, cells := 0, slots := 0, locals := 0 }
def sX9_isDone_29 (sx0 : Int32) (σ : TS) : Option (Int32 × TS) := (if zok sx0 = true then some (sx0, σ) else none)
set_option maxHeartbeats 4000000 in
set_option maxRecDepth 100000 in
theorem kX9_isDone_29 {r : Int32} {u : TS} (C0 : gC RX9 cX9_isDone 3 ((some .boolean)) wsX9_isDone p s m args meth c) (hK : va_K D vwCl (tyL cy) s) (hJ : gJ 39 q) {H : Heap} {locs : List Loc} {σ : TS} {sx0 : Int32} (hP : va_P D vwCl (gS 39 q (MX cy q) σ) H) (hS : va_S (gA 39 q) s.heap H locs) {ls : Array Slot} (hl : lv_has ls 3 []) (hp : sX9_isDone_29 sx0 σ = some (r, u)) : W p l e rmX9_isDone s m args below meth c H locs 0 0 (MQ below (gQi D vwCl r (gS 39 q (MX cy q) u) (gA 39 q)) args s 0 0 (gA 39 q)) (F0 m 29 ls [.int sx0]) := by
  obtain ⟨hx, hb, hr, hml, hown, hts, hlocks⟩ := id C0
  unfold sX9_isDone_29 at hp
  obtain ⟨hz1, hp⟩ := o_chk hp
  obtain ⟨rfl, rfl⟩ := o_r hp
  exact W.zret (v := sx0) hx hb hr (zok_n hz1).1 (fun t ht hW => ⟨⟨sx0, (), rfl, rfl, by subst ht; exact hP⟩, hS.F ht⟩) hS.2.2 dX9_isDone_29
def sX9_isDone_24 (σ : TS) : Option (Int32 × TS) := sX9_isDone_29 ((1 : Int32)) σ
set_option maxHeartbeats 4000000 in
set_option maxRecDepth 100000 in
theorem kX9_isDone_24 {r : Int32} {u : TS} (C0 : gC RX9 cX9_isDone 3 ((some .boolean)) wsX9_isDone p s m args meth c) (hK : va_K D vwCl (tyL cy) s) (hJ : gJ 39 q) {H : Heap} {locs : List Loc} {σ : TS} (hP : va_P D vwCl (gS 39 q (MX cy q) σ) H) (hS : va_S (gA 39 q) s.heap H locs) {ls : Array Slot} (hl : lv_has ls 3 []) (hp : sX9_isDone_24 σ = some (r, u)) : W p l e rmX9_isDone s m args below meth c H locs 0 0 (MQ below (gQi D vwCl r (gS 39 q (MX cy q) u) (gA 39 q)) args s 0 0 (gA 39 q)) (F0 m 24 ls []) := by
  obtain ⟨hx, hb, hr, hml, hown, hts, hlocks⟩ := id C0
  unfold sX9_isDone_24 at hp
  refine lv_iconst (v := (1 : Int32)) hx hb dX9_isDone_24 (by decide) ?_
  refine lv_goto (tgt := 29) hx hb dX9_isDone_25 (by decide) ?_
  exact kX9_isDone_29 C0 hK hJ  hP hS hl hp
def sX9_isDone_0 (x1 : Int32) (x2 : Int32) (σ : TS) : Option (Int32 × TS) := (if vin x1 4 = true then (if (σ 10 (x1.toNatClampNeg)) = 0 then (if vin x2 3 = true then (if (σ 9 (x1.toNatClampNeg)) < (σ 4 (x2.toNatClampNeg)) then sX9_isDone_29 ((0 : Int32)) σ else sX9_isDone_24 σ) else none) else sX9_isDone_24 σ) else none)
set_option maxHeartbeats 4000000 in
set_option maxRecDepth 100000 in
theorem kX9_isDone_0 {r : Int32} {u : TS} (C0 : gC RX9 cX9_isDone 3 ((some .boolean)) wsX9_isDone p s m args meth c) (hK : va_K D vwCl (tyL cy) s) (hJ : gJ 39 q) {H : Heap} {locs : List Loc} {σ : TS} {x1 : Int32} {x2 : Int32} (hP : va_P D vwCl (gS 39 q (MX cy q) σ) H) (hS : va_S (gA 39 q) s.heap H locs) {ls : Array Slot} (hl : lv_has ls 3 [(0, .ref (q (0))), (1, .int x1), (2, .int x2)]) (hp : sX9_isDone_0 x1 x2 σ = some (r, u)) : W p l e rmX9_isDone s m args below meth c H locs 0 0 (MQ below (gQi D vwCl r (gS 39 q (MX cy q) u) (gA 39 q)) args s 0 0 (gA 39 q)) (F0 m 0 ls []) := by
  obtain ⟨hx, hb, hr, hml, hown, hts, hlocks⟩ := id C0
  unfold sX9_isDone_0 at hp
  refine lv_aload_n hx hb dX9_isDone_0 rfl (lv_at hl 0 rfl) ?_
  refine g_get (v := .ref (q (10))) hx hb hts miX9_isDone_X9 hown hK hP (kk_Mod) (ce_Mod) rfl 12 (by decide) mwX9_isDone_0 rfl dX9_isDone_1 ?_
  refine lv_iload_n hx hb dX9_isDone_4 rfl (lv_at hl 1 rfl) ?_
  obtain ⟨hi2, hp⟩ := o_chk hp
  refine g_zald (j := x1.toNatClampNeg) hx hb hK hP (kk_M_isOff) (ce_M_isOff) 1 rfl (vin_of hi2) rfl dX9_isDone_5 ?_
  refine lv_if_ne (tgt := 24) hx hb dX9_isDone_6 (by decide) (fun hcd3 => ?_) (fun hcd3 => ?_)
  · have hp := o_f hp hcd3
    exact kX9_isDone_24 C0 hK hJ  hP hS (lv_sub hl [] rfl) hp
  · have hp := o_t hp hcd3
    refine lv_aload_n hx hb dX9_isDone_9 rfl (lv_at hl 0 rfl) ?_
    refine g_get (v := .ref (q (9))) hx hb hts miX9_isDone_X9 hown hK hP (kk_Mod) (ce_Mod) rfl 11 (by decide) mwX9_isDone_1 rfl dX9_isDone_10 ?_
    refine lv_iload_n hx hb dX9_isDone_13 rfl (lv_at hl 1 rfl) ?_
    refine g_iald (j := x1.toNatClampNeg) hx hb hK hP (kk_M_next) (ce_M_next) 0 rfl (vin_of hi2) rfl dX9_isDone_14 ?_
    refine lv_aload_n hx hb dX9_isDone_15 rfl (lv_at hl 0 rfl) ?_
    refine g_get (v := .ref (q (4))) hx hb hts miX9_isDone_X9 hown hK hP (kk_Mod) (ce_Mod) rfl 6 (by decide) mwX9_isDone_2 rfl dX9_isDone_16 ?_
    refine lv_iload_n hx hb dX9_isDone_19 rfl (lv_at hl 2 rfl) ?_
    obtain ⟨hi4, hp⟩ := o_chk hp
    refine g_iald (j := x2.toNatClampNeg) hx hb hK hP (kk_M_sizes) (ce_M_sizes) 0 rfl (vin_of hi4) rfl dX9_isDone_20 ?_
    refine lv_icmp_lt (tgt := 28) hx hb dX9_isDone_21 (by decide) (fun hcd5 => ?_) (fun hcd5 => ?_)
    · have hp := o_t hp hcd5
      refine lv_iconst (v := (0 : Int32)) hx hb dX9_isDone_28 (by decide) ?_
      exact kX9_isDone_29 C0 hK hJ  hP hS (lv_sub hl [] rfl) hp
    · have hp := o_f hp hcd5
      exact kX9_isDone_24 C0 hK hJ  hP hS (lv_sub hl [] rfl) hp
def sX9_isDone (x1 : Int32) (x2 : Int32) (σ : TS) : Option (Int32 × TS) := sX9_isDone_0 x1 x2 σ
theorem nVX9_isDone : yX9_isDone.cls = RX9 ∧ yX9_isDone.cls ≠ "java/lang/invoke/MethodHandle" ∧ yX9_isDone.cls ≠ "java/lang/invoke/VarHandle" ∧ (parseMethodDescriptor yX9_isDone.desc).map (fun d => d.parameters.length) = some 2 := by decide +kernel
set_option maxHeartbeats 4000000 in
set_option maxRecDepth 100000 in
theorem mX9_isDone (l : Launch) (hJ : gJ 39 q) {x1 : Int32} {x2 : Int32} {σ : TS} {r : Int32} {u : TS} (hp : sX9_isDone x1 x2 σ = some (r, u)) : Met l yX9_isDone wsX9_isDone rmX9_isDone (va_Pc [.ref (q (0)), .int x1, .int x2] (gPre D vwCl (tyL cy) (gS 39 q (MX cy q) σ))) (gQi D vwCl r (gS 39 q (MX cy q) u) (gA 39 q)) 0 0 (gA 39 q) := by
  refine Met.ofW (cc := cX9_isDone) (maxL := 3) (ret := (some .boolean)) (by decide +kernel) rfl ?_
  intro p e s m args below meth c s₁ B hml hv
  obtain ⟨rfl, hP, hK⟩ := hv
  have hl := lv_entry ([.ref (q (0)), .int x1, .int x2]) (n := 3) (Nat.le_of_ble_eq_true rfl)
  rw [lg_entry_eq]
  generalize (lg_sl ([.ref (q (0)), .int x1, .int x2]) ++ List.replicate (3 - (lg_sl ([.ref (q (0)), .int x1, .int x2])).length) Slot.unset).toArray = ls at hl ⊢
  have hl : lv_has ls 3 [(0, .ref (q (0))), (1, .int x1), (2, .int x2)] := hl
  exact kX9_isDone_0 ⟨B.exec, B.bytes, B.returns, hml, findClass_of_methodNamed B.named, atoms_spec (ws := wsX9_isDone) B.pre, B.notSynchronized⟩ hK hJ  hP va_S.rf hl hp
theorem miX9_does_X9 : ∀ w ∈ u_ws RX9 TX9 44, w ∈ wsX9_does := by decide +kernel
theorem mwX9_does_0 : Cond.fieldLink RX9 35 "TriplaneModel" "next" "[I" ∈ wsX9_does := by decide +kernel
theorem mwX9_does_1 : Cond.fieldLink RX9 9 "TriplaneModel" "kinds" "[C" ∈ wsX9_does := by decide +kernel
theorem mwX9_does_2 : Cond.fieldLink RX9 32 "TriplaneModel" "registers" "[I" ∈ wsX9_does := by decide +kernel
theorem mwX9_does_3 : Cond.fieldLink RX9 90 "TriplaneModel" "agreed" "[I" ∈ wsX9_does := by decide +kernel
theorem mwX9_does_4 : Cond.fieldLink RX9 26 "TriplaneModel" "words" "[I" ∈ wsX9_does := by decide +kernel
theorem mwX9_does_5 : Cond.fieldLink RX9 29 "TriplaneModel" "flips" "[I" ∈ wsX9_does := by decide +kernel
theorem mwX9_does_6 : Cond.fieldLink RX9 69 "TriplaneModel" "given" "[I" ∈ wsX9_does := by decide +kernel
theorem mwX9_does_7 : Cond.fieldLink RX9 72 "TriplaneModel" "value" "[I" ∈ wsX9_does := by decide +kernel
theorem mwX9_does_8 : Cond.fieldLink RX9 13 "TriplaneModel" "coded" "[I" ∈ wsX9_does := by decide +kernel
theorem mwX9_does_9 : Cond.fieldLink RX9 17 "TriplaneModel" "numbers" "[I" ∈ wsX9_does := by decide +kernel
abbrev rmX9_does : Room := { frames := 3, cells := 0, slots := 0, locals := 68 }
def sX9_does_368 (σ : TS) : Option (Int32 × TS) := some (0, σ)
set_option maxHeartbeats 4000000 in
set_option maxRecDepth 100000 in
theorem kX9_does_368 {r : Int32} {u : TS} (C0 : gC RX9 cX9_does 8 none wsX9_does p s m args meth c) (hK : va_K D vwCl (tyL cy) s) (hJ : gJ 39 q) {H : Heap} {locs : List Loc} {σ : TS} (hP : va_P D vwCl (gS 39 q (MX cy q) σ) H) (hS : va_S (gA 39 q) s.heap H locs) {ls : Array Slot} (hl : lv_has ls 8 []) (hp : sX9_does_368 σ = some (r, u)) : W p l e rmX9_does s m args below meth c H locs 0 0 (MQ below (gQv D vwCl (gS 39 q (MX cy q) u) (gA 39 q)) args s 0 0 (gA 39 q)) (F0 m 368 ls []) := by
  obtain ⟨hx, hb, hr, hml, hown, hts, hlocks⟩ := id C0
  unfold sX9_does_368 at hp
  obtain ⟨rfl, rfl⟩ := o_r hp
  exact W.vret hx hb hr (fun t ht hW => ⟨⟨(), rfl, trivial, by subst ht; exact hP⟩, hS.F ht⟩) hS.2.2 dX9_does_368
def sX9_does_205 (σ : TS) : Option (Int32 × TS) := sX9_does_368 σ
set_option maxHeartbeats 4000000 in
set_option maxRecDepth 100000 in
theorem kX9_does_205 {r : Int32} {u : TS} (C0 : gC RX9 cX9_does 8 none wsX9_does p s m args meth c) (hK : va_K D vwCl (tyL cy) s) (hJ : gJ 39 q) {H : Heap} {locs : List Loc} {σ : TS} (hP : va_P D vwCl (gS 39 q (MX cy q) σ) H) (hS : va_S (gA 39 q) s.heap H locs) {ls : Array Slot} (hl : lv_has ls 8 []) (hp : sX9_does_205 σ = some (r, u)) : W p l e rmX9_does s m args below meth c H locs 0 0 (MQ below (gQv D vwCl (gS 39 q (MX cy q) u) (gA 39 q)) args s 0 0 (gA 39 q)) (F0 m 205 ls []) := by
  obtain ⟨hx, hb, hr, hml, hown, hts, hlocks⟩ := id C0
  unfold sX9_does_205 at hp
  refine lv_goto (tgt := 368) hx hb dX9_does_205 (by decide) ?_
  exact kX9_does_368 C0 hK hJ  hP hS hl hp
def sX9_does_229 (σ : TS) : Option (Int32 × TS) := sX9_does_368 σ
set_option maxHeartbeats 4000000 in
set_option maxRecDepth 100000 in
theorem kX9_does_229 {r : Int32} {u : TS} (C0 : gC RX9 cX9_does 8 none wsX9_does p s m args meth c) (hK : va_K D vwCl (tyL cy) s) (hJ : gJ 39 q) {H : Heap} {locs : List Loc} {σ : TS} (hP : va_P D vwCl (gS 39 q (MX cy q) σ) H) (hS : va_S (gA 39 q) s.heap H locs) {ls : Array Slot} (hl : lv_has ls 8 []) (hp : sX9_does_229 σ = some (r, u)) : W p l e rmX9_does s m args below meth c H locs 0 0 (MQ below (gQv D vwCl (gS 39 q (MX cy q) u) (gA 39 q)) args s 0 0 (gA 39 q)) (F0 m 229 ls []) := by
  obtain ⟨hx, hb, hr, hml, hown, hts, hlocks⟩ := id C0
  unfold sX9_does_229 at hp
  refine lv_goto (tgt := 368) hx hb dX9_does_229 (by decide) ?_
  exact kX9_does_368 C0 hK hJ  hP hS hl hp
def sX9_does_253 (σ : TS) : Option (Int32 × TS) := sX9_does_368 σ
set_option maxHeartbeats 4000000 in
set_option maxRecDepth 100000 in
theorem kX9_does_253 {r : Int32} {u : TS} (C0 : gC RX9 cX9_does 8 none wsX9_does p s m args meth c) (hK : va_K D vwCl (tyL cy) s) (hJ : gJ 39 q) {H : Heap} {locs : List Loc} {σ : TS} (hP : va_P D vwCl (gS 39 q (MX cy q) σ) H) (hS : va_S (gA 39 q) s.heap H locs) {ls : Array Slot} (hl : lv_has ls 8 []) (hp : sX9_does_253 σ = some (r, u)) : W p l e rmX9_does s m args below meth c H locs 0 0 (MQ below (gQv D vwCl (gS 39 q (MX cy q) u) (gA 39 q)) args s 0 0 (gA 39 q)) (F0 m 253 ls []) := by
  obtain ⟨hx, hb, hr, hml, hown, hts, hlocks⟩ := id C0
  unfold sX9_does_253 at hp
  refine lv_goto (tgt := 368) hx hb dX9_does_253 (by decide) ?_
  exact kX9_does_368 C0 hK hJ  hP hS hl hp
def sX9_does_305 (σ : TS) : Option (Int32 × TS) := sX9_does_368 σ
set_option maxHeartbeats 4000000 in
set_option maxRecDepth 100000 in
theorem kX9_does_305 {r : Int32} {u : TS} (C0 : gC RX9 cX9_does 8 none wsX9_does p s m args meth c) (hK : va_K D vwCl (tyL cy) s) (hJ : gJ 39 q) {H : Heap} {locs : List Loc} {σ : TS} (hP : va_P D vwCl (gS 39 q (MX cy q) σ) H) (hS : va_S (gA 39 q) s.heap H locs) {ls : Array Slot} (hl : lv_has ls 8 []) (hp : sX9_does_305 σ = some (r, u)) : W p l e rmX9_does s m args below meth c H locs 0 0 (MQ below (gQv D vwCl (gS 39 q (MX cy q) u) (gA 39 q)) args s 0 0 (gA 39 q)) (F0 m 305 ls []) := by
  obtain ⟨hx, hb, hr, hml, hown, hts, hlocks⟩ := id C0
  unfold sX9_does_305 at hp
  refine lv_goto (tgt := 368) hx hb dX9_does_305 (by decide) ?_
  exact kX9_does_368 C0 hK hJ  hP hS hl hp
def sX9_does_322 (σ : TS) : Option (Int32 × TS) := sX9_does_368 σ
set_option maxHeartbeats 4000000 in
set_option maxRecDepth 100000 in
theorem kX9_does_322 {r : Int32} {u : TS} (C0 : gC RX9 cX9_does 8 none wsX9_does p s m args meth c) (hK : va_K D vwCl (tyL cy) s) (hJ : gJ 39 q) {H : Heap} {locs : List Loc} {σ : TS} (hP : va_P D vwCl (gS 39 q (MX cy q) σ) H) (hS : va_S (gA 39 q) s.heap H locs) {ls : Array Slot} (hl : lv_has ls 8 []) (hp : sX9_does_322 σ = some (r, u)) : W p l e rmX9_does s m args below meth c H locs 0 0 (MQ below (gQv D vwCl (gS 39 q (MX cy q) u) (gA 39 q)) args s 0 0 (gA 39 q)) (F0 m 322 ls []) := by
  obtain ⟨hx, hb, hr, hml, hown, hts, hlocks⟩ := id C0
  unfold sX9_does_322 at hp
  refine lv_goto (tgt := 368) hx hb dX9_does_322 (by decide) ?_
  exact kX9_does_368 C0 hK hJ  hP hS hl hp
def sX9_does_367 (sx1 : Int32) (sx2 : Int32) (σ : TS) : Option (Int32 × TS) := (if vin sx1 4 = true then sX9_does_368 (st2 σ 9 (sx1.toNatClampNeg) sx2) else none)
set_option maxHeartbeats 4000000 in
set_option maxRecDepth 100000 in
theorem kX9_does_367 {r : Int32} {u : TS} (C0 : gC RX9 cX9_does 8 none wsX9_does p s m args meth c) (hK : va_K D vwCl (tyL cy) s) (hJ : gJ 39 q) {H : Heap} {locs : List Loc} {σ : TS} {sx1 : Int32} {sx2 : Int32} (hP : va_P D vwCl (gS 39 q (MX cy q) σ) H) (hS : va_S (gA 39 q) s.heap H locs) {ls : Array Slot} (hl : lv_has ls 8 []) (hp : sX9_does_367 sx1 sx2 σ = some (r, u)) : W p l e rmX9_does s m args below meth c H locs 0 0 (MQ below (gQv D vwCl (gS 39 q (MX cy q) u) (gA 39 q)) args s 0 0 (gA 39 q)) (F0 m 367 ls [.int sx2, .int sx1, .ref (q (9))]) := by
  obtain ⟨hx, hb, hr, hml, hown, hts, hlocks⟩ := id C0
  unfold sX9_does_367 at hp
  obtain ⟨hi1, hp⟩ := o_chk hp
  refine g_iast (j := sx1.toNatClampNeg) hx hb hK hJ hP hS (kk_M_next) (ce_M_next) 0 rfl (vin_of hi1) rfl dX9_does_367 (fun H locs hP hS => ?_)
  exact kX9_does_368 C0 hK hJ  hP hS hl hp
def sX9_does_89 (x1 : Int32) (x3 : Int32) (x4 : Int32) (x5 : Int32) (x6 : Int32) (x7 : Int32) (σ : TS) : Option (Int32 × TS) := (if vin x1 4 = true then (if vin x3 30 = true then (if ((st2 σ 9 (x1.toNatClampNeg) ((σ 9 (x1.toNatClampNeg)) + ((1 : Int32)))) 1 (x3.toNatClampNeg)) = (97 : Int32) then (if vin ((x1 * ((4 : Int32))) + x5) 16 = true then ((sX9_set x1 x4 (x7 + ((st2 σ 9 (x1.toNatClampNeg) ((σ 9 (x1.toNatClampNeg)) + ((1 : Int32)))) 8 (((x1 * ((4 : Int32))) + x5).toNatClampNeg))) (st2 σ 9 (x1.toNatClampNeg) ((σ 9 (x1.toNatClampNeg)) + ((1 : Int32))))).bind (fun z => sX9_does_229 z.2)) else none) else (if ((st2 σ 9 (x1.toNatClampNeg) ((σ 9 (x1.toNatClampNeg)) + ((1 : Int32)))) 1 (x3.toNatClampNeg)) = (105 : Int32) then (if vin x5 4 = true then ((sX9_set x1 x4 ((st2 σ 9 (x1.toNatClampNeg) ((σ 9 (x1.toNatClampNeg)) + ((1 : Int32)))) 27 (x5.toNatClampNeg)) (st2 σ 9 (x1.toNatClampNeg) ((σ 9 (x1.toNatClampNeg)) + ((1 : Int32))))).bind (fun z => sX9_does_322 z.2)) else none) else (if ((st2 σ 9 (x1.toNatClampNeg) ((σ 9 (x1.toNatClampNeg)) + ((1 : Int32)))) 1 (x3.toNatClampNeg)) = (108 : Int32) then ((sX9_set x1 x4 x5 (st2 σ 9 (x1.toNatClampNeg) ((σ 9 (x1.toNatClampNeg)) + ((1 : Int32))))).bind (fun z => sX9_does_205 z.2)) else (if ((st2 σ 9 (x1.toNatClampNeg) ((σ 9 (x1.toNatClampNeg)) + ((1 : Int32)))) 1 (x3.toNatClampNeg)) = (109 : Int32) then (if vin ((x1 * ((18 : Int32))) + x6) 72 = true then sX9_does_368 (st2 (st2 (st2 σ 9 (x1.toNatClampNeg) ((σ 9 (x1.toNatClampNeg)) + ((1 : Int32)))) 6 (((x1 * ((18 : Int32))) + x6).toNatClampNeg) x7) 7 (((x1 * ((18 : Int32))) + x6).toNatClampNeg) ((0 : Int32))) else none) else (if ((st2 σ 9 (x1.toNatClampNeg) ((σ 9 (x1.toNatClampNeg)) + ((1 : Int32)))) 1 (x3.toNatClampNeg)) = (111 : Int32) then sX9_does_368 (st2 (st2 (st2 σ 9 (x1.toNatClampNeg) ((σ 9 (x1.toNatClampNeg)) + ((1 : Int32)))) 20 (x1.toNatClampNeg) (x5 + ((1 : Int32)))) 21 (x1.toNatClampNeg) x7) else (if ((st2 σ 9 (x1.toNatClampNeg) ((σ 9 (x1.toNatClampNeg)) + ((1 : Int32)))) 1 (x3.toNatClampNeg)) = (114 : Int32) then (if vin ((x1 * ((18 : Int32))) + x6) 72 = true then ((sX9_set x1 x4 ((st2 σ 9 (x1.toNatClampNeg) ((σ 9 (x1.toNatClampNeg)) + ((1 : Int32)))) 6 (((x1 * ((18 : Int32))) + x6).toNatClampNeg)) (st2 σ 9 (x1.toNatClampNeg) ((σ 9 (x1.toNatClampNeg)) + ((1 : Int32))))).bind (fun z => sX9_does_305 z.2)) else none) else (if ((st2 σ 9 (x1.toNatClampNeg) ((σ 9 (x1.toNatClampNeg)) + ((1 : Int32)))) 1 (x3.toNatClampNeg)) = (115 : Int32) then (if vin ((x1 * ((4 : Int32))) + x5) 16 = true then ((sX9_set x1 x4 (x7 - ((st2 σ 9 (x1.toNatClampNeg) ((σ 9 (x1.toNatClampNeg)) + ((1 : Int32)))) 8 (((x1 * ((4 : Int32))) + x5).toNatClampNeg))) (st2 σ 9 (x1.toNatClampNeg) ((σ 9 (x1.toNatClampNeg)) + ((1 : Int32))))).bind (fun z => sX9_does_253 z.2)) else none) else (if x7 ≤ 0 then sX9_does_367 x1 ((st2 σ 9 (x1.toNatClampNeg) ((σ 9 (x1.toNatClampNeg)) + ((1 : Int32)))) 9 (x1.toNatClampNeg)) (st2 σ 9 (x1.toNatClampNeg) ((σ 9 (x1.toNatClampNeg)) + ((1 : Int32)))) else sX9_does_367 x1 x5 (st2 σ 9 (x1.toNatClampNeg) ((σ 9 (x1.toNatClampNeg)) + ((1 : Int32)))))))))))) else none) else none)
set_option maxHeartbeats 4000000 in
set_option maxRecDepth 100000 in
theorem kX9_does_89 {r : Int32} {u : TS} (C0 : gC RX9 cX9_does 8 none wsX9_does p s m args meth c) (hK : va_K D vwCl (tyL cy) s) (hJ : gJ 39 q) {H : Heap} {locs : List Loc} {σ : TS} {x1 : Int32} {x3 : Int32} {x4 : Int32} {x5 : Int32} {x6 : Int32} {x7 : Int32} (hP : va_P D vwCl (gS 39 q (MX cy q) σ) H) (hS : va_S (gA 39 q) s.heap H locs) {ls : Array Slot} (hl : lv_has ls 8 [(0, .ref (q (0))), (1, .int x1), (3, .int x3), (4, .int x4), (5, .int x5), (6, .int x6), (7, .int x7)]) (hp : sX9_does_89 x1 x3 x4 x5 x6 x7 σ = some (r, u)) : W p l e rmX9_does s m args below meth c H locs 0 0 (MQ below (gQv D vwCl (gS 39 q (MX cy q) u) (gA 39 q)) args s 0 0 (gA 39 q)) (F0 m 89 ls []) := by
  obtain ⟨hx, hb, hr, hml, hown, hts, hlocks⟩ := id C0
  unfold sX9_does_89 at hp
  refine lv_aload_n hx hb dX9_does_89 rfl (lv_at hl 0 rfl) ?_
  refine g_get (v := .ref (q (9))) hx hb hts miX9_does_X9 hown hK hP (kk_Mod) (ce_Mod) rfl 11 (by decide) mwX9_does_0 rfl dX9_does_90 ?_
  refine lv_iload_n hx hb dX9_does_93 rfl (lv_at hl 1 rfl) ?_
  refine lv_dup2_11 hx hb dX9_does_94 rfl rfl ?_
  obtain ⟨hi2, hp⟩ := o_chk hp
  refine g_iald (j := x1.toNatClampNeg) hx hb hK hP (kk_M_next) (ce_M_next) 0 rfl (vin_of hi2) rfl dX9_does_95 ?_
  refine lv_iconst (v := (1 : Int32)) hx hb dX9_does_96 (by decide) ?_
  refine lv_iadd hx hb dX9_does_97 ?_
  refine g_iast (j := x1.toNatClampNeg) hx hb hK hJ hP hS (kk_M_next) (ce_M_next) 0 rfl (vin_of hi2) rfl dX9_does_98 (fun H locs hP hS => ?_)
  refine lv_aload_n hx hb dX9_does_99 rfl (lv_at hl 0 rfl) ?_
  refine g_get (v := .ref (q (1))) hx hb hts miX9_does_X9 hown hK hP (kk_Mod) (ce_Mod) rfl 3 (by decide) mwX9_does_1 rfl dX9_does_100 ?_
  refine lv_iload_n hx hb dX9_does_103 rfl (lv_at hl 2 rfl) ?_
  obtain ⟨hi3, hp⟩ := o_chk hp
  refine g_cald (j := x3.toNatClampNeg) hx hb hK hP (kk_M_kinds) (ce_M_kinds) 2 rfl (vin_of hi3) rfl dX9_does_104 ?_
  by_cases hcd4 : ((st2 σ 9 (x1.toNatClampNeg) ((σ 9 (x1.toNatClampNeg)) + ((1 : Int32)))) 1 (x3.toNatClampNeg)) = (97 : Int32)
  · have hp := o_t hp hcd4
    refine g_sw hx hb (off := 103) (tgt := 208) dX9_does_105 (by decide) (by rw [hcd4]; decide) (by decide) ?_
    refine lv_aload_n hx hb dX9_does_208 rfl (lv_at hl 0 rfl) ?_
    refine lv_iload_n hx hb dX9_does_209 rfl (lv_at hl 1 rfl) ?_
    refine lv_iload hx hb dX9_does_210 (lv_at hl 3 rfl) ?_
    refine lv_iload hx hb dX9_does_212 (lv_at hl 6 rfl) ?_
    refine lv_aload_n hx hb dX9_does_214 rfl (lv_at hl 0 rfl) ?_
    refine g_get (v := .ref (q (8))) hx hb hts miX9_does_X9 hown hK hP (kk_Mod) (ce_Mod) rfl 10 (by decide) mwX9_does_2 rfl dX9_does_215 ?_
    refine lv_iload_n hx hb dX9_does_218 rfl (lv_at hl 1 rfl) ?_
    refine lv_iconst (v := (4 : Int32)) hx hb dX9_does_219 (by decide) ?_
    refine lv_imul hx hb dX9_does_220 ?_
    refine lv_iload hx hb dX9_does_221 (lv_at hl 4 rfl) ?_
    refine lv_iadd hx hb dX9_does_223 ?_
    obtain ⟨hi5, hp⟩ := o_chk hp
    refine g_iald (j := ((x1 * ((4 : Int32))) + x5).toNatClampNeg) hx hb hK hP (kk_M_registers) (ce_M_registers) 0 rfl (vin_of hi5) rfl dX9_does_224 ?_
    refine lv_iadd hx hb dX9_does_225 ?_
    obtain ⟨⟨r6, u7⟩, hq8, hp⟩ := o_b hp
    refine g_cVv (As := [.int x1, .int x4, .int (x7 + ((st2 σ 9 (x1.toNatClampNeg) ((σ 9 (x1.toNatClampNeg)) + ((1 : Int32)))) 8 (((x1 * ((4 : Int32))) + x5).toNatClampNeg)))]) (rest := []) hx hb hml hown hts hK hP hS (mX9_set l hJ hq8) (cwV 3 hts gX9_does_X9_set rfl rfl rfl nVX9_set ⟨Nat.le_of_ble_eq_true rfl, Nat.le_of_ble_eq_true rfl⟩) (g_recv hK hP (kk_Mod) (ce_Mod) rfl) rfl hl.1 rfl (Nat.le_of_ble_eq_true rfl) dX9_does_226 ⟨Nat.le_of_ble_eq_true rfl, Nat.le_of_ble_eq_true rfl⟩ (fun H locs hP hS => ?_)
    exact kX9_does_229 C0 hK hJ  hP hS (lv_sub hl [] rfl) hp
  have hp := o_f hp hcd4
  by_cases hcd9 : ((st2 σ 9 (x1.toNatClampNeg) ((σ 9 (x1.toNatClampNeg)) + ((1 : Int32)))) 1 (x3.toNatClampNeg)) = (105 : Int32)
  · have hp := o_t hp hcd9
    refine g_sw hx hb (off := 203) (tgt := 308) dX9_does_105 (by decide) (by rw [hcd9]; decide) (by decide) ?_
    refine lv_aload_n hx hb dX9_does_308 rfl (lv_at hl 0 rfl) ?_
    refine lv_iload_n hx hb dX9_does_309 rfl (lv_at hl 1 rfl) ?_
    refine lv_iload hx hb dX9_does_310 (lv_at hl 3 rfl) ?_
    refine lv_aload_n hx hb dX9_does_312 rfl (lv_at hl 0 rfl) ?_
    refine g_get (v := .ref (q (27))) hx hb hts miX9_does_X9 hown hK hP (kk_Mod) (ce_Mod) rfl 29 (by decide) mwX9_does_3 rfl dX9_does_313 ?_
    refine lv_iload hx hb dX9_does_316 (lv_at hl 4 rfl) ?_
    obtain ⟨hi10, hp⟩ := o_chk hp
    refine g_iald (j := x5.toNatClampNeg) hx hb hK hP (kk_M_agreed) (ce_M_agreed) 0 rfl (vin_of hi10) rfl dX9_does_318 ?_
    obtain ⟨⟨r11, u12⟩, hq13, hp⟩ := o_b hp
    refine g_cVv (As := [.int x1, .int x4, .int ((st2 σ 9 (x1.toNatClampNeg) ((σ 9 (x1.toNatClampNeg)) + ((1 : Int32)))) 27 (x5.toNatClampNeg))]) (rest := []) hx hb hml hown hts hK hP hS (mX9_set l hJ hq13) (cwV 3 hts gX9_does_X9_set rfl rfl rfl nVX9_set ⟨Nat.le_of_ble_eq_true rfl, Nat.le_of_ble_eq_true rfl⟩) (g_recv hK hP (kk_Mod) (ce_Mod) rfl) rfl hl.1 rfl (Nat.le_of_ble_eq_true rfl) dX9_does_319 ⟨Nat.le_of_ble_eq_true rfl, Nat.le_of_ble_eq_true rfl⟩ (fun H locs hP hS => ?_)
    exact kX9_does_322 C0 hK hJ  hP hS (lv_sub hl [] rfl) hp
  have hp := o_f hp hcd9
  by_cases hcd14 : ((st2 σ 9 (x1.toNatClampNeg) ((σ 9 (x1.toNatClampNeg)) + ((1 : Int32)))) 1 (x3.toNatClampNeg)) = (108 : Int32)
  · have hp := o_t hp hcd14
    refine g_sw hx hb (off := 91) (tgt := 196) dX9_does_105 (by decide) (by rw [hcd14]; decide) (by decide) ?_
    refine lv_aload_n hx hb dX9_does_196 rfl (lv_at hl 0 rfl) ?_
    refine lv_iload_n hx hb dX9_does_197 rfl (lv_at hl 1 rfl) ?_
    refine lv_iload hx hb dX9_does_198 (lv_at hl 3 rfl) ?_
    refine lv_iload hx hb dX9_does_200 (lv_at hl 4 rfl) ?_
    obtain ⟨⟨r15, u16⟩, hq17, hp⟩ := o_b hp
    refine g_cVv (As := [.int x1, .int x4, .int x5]) (rest := []) hx hb hml hown hts hK hP hS (mX9_set l hJ hq17) (cwV 3 hts gX9_does_X9_set rfl rfl rfl nVX9_set ⟨Nat.le_of_ble_eq_true rfl, Nat.le_of_ble_eq_true rfl⟩) (g_recv hK hP (kk_Mod) (ce_Mod) rfl) rfl hl.1 rfl (Nat.le_of_ble_eq_true rfl) dX9_does_202 ⟨Nat.le_of_ble_eq_true rfl, Nat.le_of_ble_eq_true rfl⟩ (fun H locs hP hS => ?_)
    exact kX9_does_205 C0 hK hJ  hP hS (lv_sub hl [] rfl) hp
  have hp := o_f hp hcd14
  by_cases hcd18 : ((st2 σ 9 (x1.toNatClampNeg) ((σ 9 (x1.toNatClampNeg)) + ((1 : Int32)))) 1 (x3.toNatClampNeg)) = (109 : Int32)
  · have hp := o_t hp hcd18
    refine g_sw hx hb (off := 151) (tgt := 256) dX9_does_105 (by decide) (by rw [hcd18]; decide) (by decide) ?_
    refine lv_aload_n hx hb dX9_does_256 rfl (lv_at hl 0 rfl) ?_
    refine g_get (v := .ref (q (6))) hx hb hts miX9_does_X9 hown hK hP (kk_Mod) (ce_Mod) rfl 8 (by decide) mwX9_does_4 rfl dX9_does_257 ?_
    refine lv_iload_n hx hb dX9_does_260 rfl (lv_at hl 1 rfl) ?_
    refine lv_bipush (v := (18 : Int32)) hx hb dX9_does_261 (by decide) ?_
    refine lv_imul hx hb dX9_does_263 ?_
    refine lv_iload hx hb dX9_does_264 (lv_at hl 5 rfl) ?_
    refine lv_iadd hx hb dX9_does_266 ?_
    refine lv_iload hx hb dX9_does_267 (lv_at hl 6 rfl) ?_
    obtain ⟨hi19, hp⟩ := o_chk hp
    refine g_iast (j := ((x1 * ((18 : Int32))) + x6).toNatClampNeg) hx hb hK hJ hP hS (kk_M_words) (ce_M_words) 0 rfl (vin_of hi19) rfl dX9_does_269 (fun H locs hP hS => ?_)
    refine lv_aload_n hx hb dX9_does_270 rfl (lv_at hl 0 rfl) ?_
    refine g_get (v := .ref (q (7))) hx hb hts miX9_does_X9 hown hK hP (kk_Mod) (ce_Mod) rfl 9 (by decide) mwX9_does_5 rfl dX9_does_271 ?_
    refine lv_iload_n hx hb dX9_does_274 rfl (lv_at hl 1 rfl) ?_
    refine lv_bipush (v := (18 : Int32)) hx hb dX9_does_275 (by decide) ?_
    refine lv_imul hx hb dX9_does_277 ?_
    refine lv_iload hx hb dX9_does_278 (lv_at hl 5 rfl) ?_
    refine lv_iadd hx hb dX9_does_280 ?_
    refine lv_iconst (v := (0 : Int32)) hx hb dX9_does_281 (by decide) ?_
    refine g_iast (j := ((x1 * ((18 : Int32))) + x6).toNatClampNeg) hx hb hK hJ hP hS (kk_M_flips) (ce_M_flips) 0 rfl (vin_of hi19) rfl dX9_does_282 (fun H locs hP hS => ?_)
    refine lv_goto (tgt := 368) hx hb dX9_does_283 (by decide) ?_
    exact kX9_does_368 C0 hK hJ  hP hS (lv_sub hl [] rfl) hp
  have hp := o_f hp hcd18
  by_cases hcd20 : ((st2 σ 9 (x1.toNatClampNeg) ((σ 9 (x1.toNatClampNeg)) + ((1 : Int32)))) 1 (x3.toNatClampNeg)) = (111 : Int32)
  · have hp := o_t hp hcd20
    refine g_sw hx hb (off := 220) (tgt := 325) dX9_does_105 (by decide) (by rw [hcd20]; decide) (by decide) ?_
    refine lv_aload_n hx hb dX9_does_325 rfl (lv_at hl 0 rfl) ?_
    refine g_get (v := .ref (q (20))) hx hb hts miX9_does_X9 hown hK hP (kk_Mod) (ce_Mod) rfl 22 (by decide) mwX9_does_6 rfl dX9_does_326 ?_
    refine lv_iload_n hx hb dX9_does_329 rfl (lv_at hl 1 rfl) ?_
    refine lv_iload hx hb dX9_does_330 (lv_at hl 4 rfl) ?_
    refine lv_iconst (v := (1 : Int32)) hx hb dX9_does_332 (by decide) ?_
    refine lv_iadd hx hb dX9_does_333 ?_
    refine g_iast (j := x1.toNatClampNeg) hx hb hK hJ hP hS (kk_M_given) (ce_M_given) 0 rfl (vin_of hi2) rfl dX9_does_334 (fun H locs hP hS => ?_)
    refine lv_aload_n hx hb dX9_does_335 rfl (lv_at hl 0 rfl) ?_
    refine g_get (v := .ref (q (21))) hx hb hts miX9_does_X9 hown hK hP (kk_Mod) (ce_Mod) rfl 23 (by decide) mwX9_does_7 rfl dX9_does_336 ?_
    refine lv_iload_n hx hb dX9_does_339 rfl (lv_at hl 1 rfl) ?_
    refine lv_iload hx hb dX9_does_340 (lv_at hl 6 rfl) ?_
    refine g_iast (j := x1.toNatClampNeg) hx hb hK hJ hP hS (kk_M_value) (ce_M_value) 0 rfl (vin_of hi2) rfl dX9_does_342 (fun H locs hP hS => ?_)
    refine lv_goto (tgt := 368) hx hb dX9_does_343 (by decide) ?_
    exact kX9_does_368 C0 hK hJ  hP hS (lv_sub hl [] rfl) hp
  have hp := o_f hp hcd20
  by_cases hcd21 : ((st2 σ 9 (x1.toNatClampNeg) ((σ 9 (x1.toNatClampNeg)) + ((1 : Int32)))) 1 (x3.toNatClampNeg)) = (114 : Int32)
  · have hp := o_t hp hcd21
    refine g_sw hx hb (off := 181) (tgt := 286) dX9_does_105 (by decide) (by rw [hcd21]; decide) (by decide) ?_
    refine lv_aload_n hx hb dX9_does_286 rfl (lv_at hl 0 rfl) ?_
    refine lv_iload_n hx hb dX9_does_287 rfl (lv_at hl 1 rfl) ?_
    refine lv_iload hx hb dX9_does_288 (lv_at hl 3 rfl) ?_
    refine lv_aload_n hx hb dX9_does_290 rfl (lv_at hl 0 rfl) ?_
    refine g_get (v := .ref (q (6))) hx hb hts miX9_does_X9 hown hK hP (kk_Mod) (ce_Mod) rfl 8 (by decide) mwX9_does_4 rfl dX9_does_291 ?_
    refine lv_iload_n hx hb dX9_does_294 rfl (lv_at hl 1 rfl) ?_
    refine lv_bipush (v := (18 : Int32)) hx hb dX9_does_295 (by decide) ?_
    refine lv_imul hx hb dX9_does_297 ?_
    refine lv_iload hx hb dX9_does_298 (lv_at hl 5 rfl) ?_
    refine lv_iadd hx hb dX9_does_300 ?_
    obtain ⟨hi22, hp⟩ := o_chk hp
    refine g_iald (j := ((x1 * ((18 : Int32))) + x6).toNatClampNeg) hx hb hK hP (kk_M_words) (ce_M_words) 0 rfl (vin_of hi22) rfl dX9_does_301 ?_
    obtain ⟨⟨r23, u24⟩, hq25, hp⟩ := o_b hp
    refine g_cVv (As := [.int x1, .int x4, .int ((st2 σ 9 (x1.toNatClampNeg) ((σ 9 (x1.toNatClampNeg)) + ((1 : Int32)))) 6 (((x1 * ((18 : Int32))) + x6).toNatClampNeg))]) (rest := []) hx hb hml hown hts hK hP hS (mX9_set l hJ hq25) (cwV 3 hts gX9_does_X9_set rfl rfl rfl nVX9_set ⟨Nat.le_of_ble_eq_true rfl, Nat.le_of_ble_eq_true rfl⟩) (g_recv hK hP (kk_Mod) (ce_Mod) rfl) rfl hl.1 rfl (Nat.le_of_ble_eq_true rfl) dX9_does_302 ⟨Nat.le_of_ble_eq_true rfl, Nat.le_of_ble_eq_true rfl⟩ (fun H locs hP hS => ?_)
    exact kX9_does_305 C0 hK hJ  hP hS (lv_sub hl [] rfl) hp
  have hp := o_f hp hcd21
  by_cases hcd26 : ((st2 σ 9 (x1.toNatClampNeg) ((σ 9 (x1.toNatClampNeg)) + ((1 : Int32)))) 1 (x3.toNatClampNeg)) = (115 : Int32)
  · have hp := o_t hp hcd26
    refine g_sw hx hb (off := 127) (tgt := 232) dX9_does_105 (by decide) (by rw [hcd26]; decide) (by decide) ?_
    refine lv_aload_n hx hb dX9_does_232 rfl (lv_at hl 0 rfl) ?_
    refine lv_iload_n hx hb dX9_does_233 rfl (lv_at hl 1 rfl) ?_
    refine lv_iload hx hb dX9_does_234 (lv_at hl 3 rfl) ?_
    refine lv_iload hx hb dX9_does_236 (lv_at hl 6 rfl) ?_
    refine lv_aload_n hx hb dX9_does_238 rfl (lv_at hl 0 rfl) ?_
    refine g_get (v := .ref (q (8))) hx hb hts miX9_does_X9 hown hK hP (kk_Mod) (ce_Mod) rfl 10 (by decide) mwX9_does_2 rfl dX9_does_239 ?_
    refine lv_iload_n hx hb dX9_does_242 rfl (lv_at hl 1 rfl) ?_
    refine lv_iconst (v := (4 : Int32)) hx hb dX9_does_243 (by decide) ?_
    refine lv_imul hx hb dX9_does_244 ?_
    refine lv_iload hx hb dX9_does_245 (lv_at hl 4 rfl) ?_
    refine lv_iadd hx hb dX9_does_247 ?_
    obtain ⟨hi27, hp⟩ := o_chk hp
    refine g_iald (j := ((x1 * ((4 : Int32))) + x5).toNatClampNeg) hx hb hK hP (kk_M_registers) (ce_M_registers) 0 rfl (vin_of hi27) rfl dX9_does_248 ?_
    refine lv_isub hx hb dX9_does_249 ?_
    obtain ⟨⟨r28, u29⟩, hq30, hp⟩ := o_b hp
    refine g_cVv (As := [.int x1, .int x4, .int (x7 - ((st2 σ 9 (x1.toNatClampNeg) ((σ 9 (x1.toNatClampNeg)) + ((1 : Int32)))) 8 (((x1 * ((4 : Int32))) + x5).toNatClampNeg)))]) (rest := []) hx hb hml hown hts hK hP hS (mX9_set l hJ hq30) (cwV 3 hts gX9_does_X9_set rfl rfl rfl nVX9_set ⟨Nat.le_of_ble_eq_true rfl, Nat.le_of_ble_eq_true rfl⟩) (g_recv hK hP (kk_Mod) (ce_Mod) rfl) rfl hl.1 rfl (Nat.le_of_ble_eq_true rfl) dX9_does_250 ⟨Nat.le_of_ble_eq_true rfl, Nat.le_of_ble_eq_true rfl⟩ (fun H locs hP hS => ?_)
    exact kX9_does_253 C0 hK hJ  hP hS (lv_sub hl [] rfl) hp
  have hp := o_f hp hcd26
  refine g_sw hx hb (off := 241) (tgt := 346) dX9_does_105 (by decide) (g_swd (vs := [(97 : Int32), (105 : Int32), (108 : Int32), (109 : Int32), (111 : Int32), (114 : Int32), (115 : Int32)]) (by decide) (List.not_mem_cons_of_ne_of_not_mem hcd4 (List.not_mem_cons_of_ne_of_not_mem hcd9 (List.not_mem_cons_of_ne_of_not_mem hcd14 (List.not_mem_cons_of_ne_of_not_mem hcd18 (List.not_mem_cons_of_ne_of_not_mem hcd20 (List.not_mem_cons_of_ne_of_not_mem hcd21 (List.not_mem_cons_of_ne_of_not_mem hcd26 List.not_mem_nil)))))))) (by decide) ?_
  refine lv_aload_n hx hb dX9_does_346 rfl (lv_at hl 0 rfl) ?_
  refine g_get (v := .ref (q (9))) hx hb hts miX9_does_X9 hown hK hP (kk_Mod) (ce_Mod) rfl 11 (by decide) mwX9_does_0 rfl dX9_does_347 ?_
  refine lv_iload_n hx hb dX9_does_350 rfl (lv_at hl 1 rfl) ?_
  refine lv_iload hx hb dX9_does_351 (lv_at hl 6 rfl) ?_
  refine lv_if_le (tgt := 361) hx hb dX9_does_353 (by decide) (fun hcd31 => ?_) (fun hcd31 => ?_)
  · have hp := o_t hp hcd31
    refine lv_aload_n hx hb dX9_does_361 rfl (lv_at hl 0 rfl) ?_
    refine g_get (v := .ref (q (9))) hx hb hts miX9_does_X9 hown hK hP (kk_Mod) (ce_Mod) rfl 11 (by decide) mwX9_does_0 rfl dX9_does_362 ?_
    refine lv_iload_n hx hb dX9_does_365 rfl (lv_at hl 1 rfl) ?_
    refine g_iald (j := x1.toNatClampNeg) hx hb hK hP (kk_M_next) (ce_M_next) 0 rfl (vin_of hi2) rfl dX9_does_366 ?_
    exact kX9_does_367 C0 hK hJ  hP hS (lv_sub hl [] rfl) hp
  · have hp := o_f hp hcd31
    refine lv_iload hx hb dX9_does_356 (lv_at hl 4 rfl) ?_
    refine lv_goto (tgt := 367) hx hb dX9_does_358 (by decide) ?_
    exact kX9_does_367 C0 hK hJ  hP hS (lv_sub hl [] rfl) hp
def sX9_does_85 (x1 : Int32) (x3 : Int32) (x4 : Int32) (x5 : Int32) (x6 : Int32) (x7 : Int32) (sx0 : Int32) (σ : TS) : Option (Int32 × TS) := (if sx0 = 0 then some (0, σ) else sX9_does_89 x1 x3 x4 x5 x6 x7 σ)
set_option maxHeartbeats 4000000 in
set_option maxRecDepth 100000 in
theorem kX9_does_85 {r : Int32} {u : TS} (C0 : gC RX9 cX9_does 8 none wsX9_does p s m args meth c) (hK : va_K D vwCl (tyL cy) s) (hJ : gJ 39 q) {H : Heap} {locs : List Loc} {σ : TS} {x1 : Int32} {x3 : Int32} {x4 : Int32} {x5 : Int32} {x6 : Int32} {x7 : Int32} {sx0 : Int32} (hP : va_P D vwCl (gS 39 q (MX cy q) σ) H) (hS : va_S (gA 39 q) s.heap H locs) {ls : Array Slot} (hl : lv_has ls 8 [(0, .ref (q (0))), (1, .int x1), (3, .int x3), (4, .int x4), (5, .int x5), (6, .int x6), (7, .int x7)]) (hp : sX9_does_85 x1 x3 x4 x5 x6 x7 sx0 σ = some (r, u)) : W p l e rmX9_does s m args below meth c H locs 0 0 (MQ below (gQv D vwCl (gS 39 q (MX cy q) u) (gA 39 q)) args s 0 0 (gA 39 q)) (F0 m 85 ls [.int sx0]) := by
  obtain ⟨hx, hb, hr, hml, hown, hts, hlocks⟩ := id C0
  unfold sX9_does_85 at hp
  refine lv_if_ne (tgt := 89) hx hb dX9_does_85 (by decide) (fun hcd32 => ?_) (fun hcd32 => ?_)
  · have hp := o_f hp hcd32
    exact kX9_does_89 C0 hK hJ  hP hS hl hp
  · have hp := o_t hp hcd32
    obtain ⟨rfl, rfl⟩ := o_r hp
    exact W.vret hx hb hr (fun t ht hW => ⟨⟨(), rfl, trivial, by subst ht; exact hP⟩, hS.F ht⟩) hS.2.2 dX9_does_88
def sX9_does_13 (x1 : Int32) (x2 : Int32) (sx0 : Int32) (σ : TS) : Option (Int32 × TS) := (if sx0 = 0 then (if vin x1 4 = true then (if vin ((x2 * ((10 : Int32))) + (σ 9 (x1.toNatClampNeg))) 30 = true then (if vin ((x1 * ((4 : Int32))) + (σ 2 (((x2 * ((10 : Int32))) + (σ 9 (x1.toNatClampNeg))).toNatClampNeg))) 16 = true then (if (σ 1 (((x2 * ((10 : Int32))) + (σ 9 (x1.toNatClampNeg))).toNatClampNeg)) = ((114 : Int32)) then ((sX9_mends x1 ((x2 * ((6 : Int32))) + (σ 3 (((x2 * ((10 : Int32))) + (σ 9 (x1.toNatClampNeg))).toNatClampNeg))) σ).bind (fun z => sX9_does_85 x1 ((x2 * ((10 : Int32))) + (σ 9 (x1.toNatClampNeg))) (σ 2 (((x2 * ((10 : Int32))) + (σ 9 (x1.toNatClampNeg))).toNatClampNeg)) (σ 3 (((x2 * ((10 : Int32))) + (σ 9 (x1.toNatClampNeg))).toNatClampNeg)) ((x2 * ((6 : Int32))) + (σ 3 (((x2 * ((10 : Int32))) + (σ 9 (x1.toNatClampNeg))).toNatClampNeg))) (σ 8 (((x1 * ((4 : Int32))) + (σ 2 (((x2 * ((10 : Int32))) + (σ 9 (x1.toNatClampNeg))).toNatClampNeg))).toNatClampNeg)) z.1 z.2)) else sX9_does_89 x1 ((x2 * ((10 : Int32))) + (σ 9 (x1.toNatClampNeg))) (σ 2 (((x2 * ((10 : Int32))) + (σ 9 (x1.toNatClampNeg))).toNatClampNeg)) (σ 3 (((x2 * ((10 : Int32))) + (σ 9 (x1.toNatClampNeg))).toNatClampNeg)) ((x2 * ((6 : Int32))) + (σ 3 (((x2 * ((10 : Int32))) + (σ 9 (x1.toNatClampNeg))).toNatClampNeg))) (σ 8 (((x1 * ((4 : Int32))) + (σ 2 (((x2 * ((10 : Int32))) + (σ 9 (x1.toNatClampNeg))).toNatClampNeg))).toNatClampNeg)) σ) else none) else none) else none) else some (0, σ))
set_option maxHeartbeats 4000000 in
set_option maxRecDepth 100000 in
theorem kX9_does_13 {r : Int32} {u : TS} (C0 : gC RX9 cX9_does 8 none wsX9_does p s m args meth c) (hK : va_K D vwCl (tyL cy) s) (hJ : gJ 39 q) {H : Heap} {locs : List Loc} {σ : TS} {x1 : Int32} {x2 : Int32} {sx0 : Int32} (hP : va_P D vwCl (gS 39 q (MX cy q) σ) H) (hS : va_S (gA 39 q) s.heap H locs) {ls : Array Slot} (hl : lv_has ls 8 [(0, .ref (q (0))), (1, .int x1), (2, .int x2)]) (hp : sX9_does_13 x1 x2 sx0 σ = some (r, u)) : W p l e rmX9_does s m args below meth c H locs 0 0 (MQ below (gQv D vwCl (gS 39 q (MX cy q) u) (gA 39 q)) args s 0 0 (gA 39 q)) (F0 m 13 ls [.int sx0]) := by
  obtain ⟨hx, hb, hr, hml, hown, hts, hlocks⟩ := id C0
  unfold sX9_does_13 at hp
  refine lv_if_eq (tgt := 17) hx hb dX9_does_13 (by decide) (fun hcd33 => ?_) (fun hcd33 => ?_)
  · have hp := o_t hp hcd33
    refine lv_iload_n hx hb dX9_does_17 rfl (lv_at hl 2 rfl) ?_
    refine lv_bipush (v := (10 : Int32)) hx hb dX9_does_18 (by decide) ?_
    refine lv_imul hx hb dX9_does_20 ?_
    refine lv_aload_n hx hb dX9_does_21 rfl (lv_at hl 0 rfl) ?_
    refine g_get (v := .ref (q (9))) hx hb hts miX9_does_X9 hown hK hP (kk_Mod) (ce_Mod) rfl 11 (by decide) mwX9_does_0 rfl dX9_does_22 ?_
    refine lv_iload_n hx hb dX9_does_25 rfl (lv_at hl 1 rfl) ?_
    obtain ⟨hi34, hp⟩ := o_chk hp
    refine g_iald (j := x1.toNatClampNeg) hx hb hK hP (kk_M_next) (ce_M_next) 0 rfl (vin_of hi34) rfl dX9_does_26 ?_
    refine lv_iadd hx hb dX9_does_27 ?_
    refine lv_istore_n (lv' := [(3, .int ((x2 * ((10 : Int32))) + (σ 9 (x1.toNatClampNeg)))), (0, .ref (q (0))), (1, .int x1), (2, .int x2)]) hx hb dX9_does_28 rfl hl (by decide) rfl (fun ls hl => ?_)
    refine lv_aload_n hx hb dX9_does_29 rfl (lv_at hl 1 rfl) ?_
    refine g_get (v := .ref (q (2))) hx hb hts miX9_does_X9 hown hK hP (kk_Mod) (ce_Mod) rfl 4 (by decide) mwX9_does_8 rfl dX9_does_30 ?_
    refine lv_iload_n hx hb dX9_does_33 rfl (lv_at hl 0 rfl) ?_
    obtain ⟨hi35, hp⟩ := o_chk hp
    refine g_iald (j := ((x2 * ((10 : Int32))) + (σ 9 (x1.toNatClampNeg))).toNatClampNeg) hx hb hK hP (kk_M_coded) (ce_M_coded) 0 rfl (vin_of hi35) rfl dX9_does_34 ?_
    refine lv_istore (lv' := [(4, .int (σ 2 (((x2 * ((10 : Int32))) + (σ 9 (x1.toNatClampNeg))).toNatClampNeg))), (3, .int ((x2 * ((10 : Int32))) + (σ 9 (x1.toNatClampNeg)))), (0, .ref (q (0))), (1, .int x1), (2, .int x2)]) hx hb dX9_does_35 hl (by decide) rfl (fun ls hl => ?_)
    refine lv_aload_n hx hb dX9_does_37 rfl (lv_at hl 2 rfl) ?_
    refine g_get (v := .ref (q (3))) hx hb hts miX9_does_X9 hown hK hP (kk_Mod) (ce_Mod) rfl 5 (by decide) mwX9_does_9 rfl dX9_does_38 ?_
    refine lv_iload_n hx hb dX9_does_41 rfl (lv_at hl 1 rfl) ?_
    refine g_iald (j := ((x2 * ((10 : Int32))) + (σ 9 (x1.toNatClampNeg))).toNatClampNeg) hx hb hK hP (kk_M_numbers) (ce_M_numbers) 0 rfl (vin_of hi35) rfl dX9_does_42 ?_
    refine lv_istore (lv' := [(5, .int (σ 3 (((x2 * ((10 : Int32))) + (σ 9 (x1.toNatClampNeg))).toNatClampNeg))), (4, .int (σ 2 (((x2 * ((10 : Int32))) + (σ 9 (x1.toNatClampNeg))).toNatClampNeg))), (3, .int ((x2 * ((10 : Int32))) + (σ 9 (x1.toNatClampNeg)))), (0, .ref (q (0))), (1, .int x1), (2, .int x2)]) hx hb dX9_does_43 hl (by decide) rfl (fun ls hl => ?_)
    refine lv_iload_n hx hb dX9_does_45 rfl (lv_at hl 5 rfl) ?_
    refine lv_bipush (v := (6 : Int32)) hx hb dX9_does_46 (by decide) ?_
    refine lv_imul hx hb dX9_does_48 ?_
    refine lv_iload hx hb dX9_does_49 (lv_at hl 0 rfl) ?_
    refine lv_iadd hx hb dX9_does_51 ?_
    refine lv_istore (lv' := [(6, .int ((x2 * ((6 : Int32))) + (σ 3 (((x2 * ((10 : Int32))) + (σ 9 (x1.toNatClampNeg))).toNatClampNeg)))), (5, .int (σ 3 (((x2 * ((10 : Int32))) + (σ 9 (x1.toNatClampNeg))).toNatClampNeg))), (4, .int (σ 2 (((x2 * ((10 : Int32))) + (σ 9 (x1.toNatClampNeg))).toNatClampNeg))), (3, .int ((x2 * ((10 : Int32))) + (σ 9 (x1.toNatClampNeg)))), (0, .ref (q (0))), (1, .int x1), (2, .int x2)]) hx hb dX9_does_52 hl (by decide) rfl (fun ls hl => ?_)
    refine lv_aload_n hx hb dX9_does_54 rfl (lv_at hl 4 rfl) ?_
    refine g_get (v := .ref (q (8))) hx hb hts miX9_does_X9 hown hK hP (kk_Mod) (ce_Mod) rfl 10 (by decide) mwX9_does_2 rfl dX9_does_55 ?_
    refine lv_iload_n hx hb dX9_does_58 rfl (lv_at hl 5 rfl) ?_
    refine lv_iconst (v := (4 : Int32)) hx hb dX9_does_59 (by decide) ?_
    refine lv_imul hx hb dX9_does_60 ?_
    refine lv_iload hx hb dX9_does_61 (lv_at hl 2 rfl) ?_
    refine lv_iadd hx hb dX9_does_63 ?_
    obtain ⟨hi36, hp⟩ := o_chk hp
    refine g_iald (j := ((x1 * ((4 : Int32))) + (σ 2 (((x2 * ((10 : Int32))) + (σ 9 (x1.toNatClampNeg))).toNatClampNeg))).toNatClampNeg) hx hb hK hP (kk_M_registers) (ce_M_registers) 0 rfl (vin_of hi36) rfl dX9_does_64 ?_
    refine lv_istore (lv' := [(7, .int (σ 8 (((x1 * ((4 : Int32))) + (σ 2 (((x2 * ((10 : Int32))) + (σ 9 (x1.toNatClampNeg))).toNatClampNeg))).toNatClampNeg))), (6, .int ((x2 * ((6 : Int32))) + (σ 3 (((x2 * ((10 : Int32))) + (σ 9 (x1.toNatClampNeg))).toNatClampNeg)))), (5, .int (σ 3 (((x2 * ((10 : Int32))) + (σ 9 (x1.toNatClampNeg))).toNatClampNeg))), (4, .int (σ 2 (((x2 * ((10 : Int32))) + (σ 9 (x1.toNatClampNeg))).toNatClampNeg))), (3, .int ((x2 * ((10 : Int32))) + (σ 9 (x1.toNatClampNeg)))), (0, .ref (q (0))), (1, .int x1), (2, .int x2)]) hx hb dX9_does_65 hl (by decide) rfl (fun ls hl => ?_)
    refine lv_aload_n hx hb dX9_does_67 rfl (lv_at hl 5 rfl) ?_
    refine g_get (v := .ref (q (1))) hx hb hts miX9_does_X9 hown hK hP (kk_Mod) (ce_Mod) rfl 3 (by decide) mwX9_does_1 rfl dX9_does_68 ?_
    refine lv_iload_n hx hb dX9_does_71 rfl (lv_at hl 4 rfl) ?_
    refine g_cald (j := ((x2 * ((10 : Int32))) + (σ 9 (x1.toNatClampNeg))).toNatClampNeg) hx hb hK hP (kk_M_kinds) (ce_M_kinds) 2 rfl (vin_of hi35) rfl dX9_does_72 ?_
    refine lv_bipush (v := (114 : Int32)) hx hb dX9_does_73 (by decide) ?_
    refine lv_icmp_ne (tgt := 89) hx hb dX9_does_75 (by decide) (fun hcd37 => ?_) (fun hcd37 => ?_)
    · have hp := o_f hp hcd37
      exact kX9_does_89 C0 hK hJ  hP hS (lv_sub hl [5, 6, 4, 3, 2, 1, 0] rfl) hp
    · have hp := o_t hp hcd37
      refine lv_aload_n hx hb dX9_does_78 rfl (lv_at hl 5 rfl) ?_
      refine lv_iload_n hx hb dX9_does_79 rfl (lv_at hl 6 rfl) ?_
      refine lv_iload hx hb dX9_does_80 (lv_at hl 1 rfl) ?_
      obtain ⟨⟨r38, u39⟩, hq40, hp⟩ := o_b hp
      refine g_cVi (As := [.int x1, .int ((x2 * ((6 : Int32))) + (σ 3 (((x2 * ((10 : Int32))) + (σ 9 (x1.toNatClampNeg))).toNatClampNeg)))]) (rest := []) hx hb hml hown hts hK hP hS (mX9_mends l hJ hq40) (cwV 2 hts gX9_does_X9_mends rfl rfl rfl nVX9_mends ⟨Nat.le_of_ble_eq_true rfl, Nat.le_of_ble_eq_true rfl⟩) (g_recv hK hP (kk_Mod) (ce_Mod) rfl) rfl hl.1 rfl (Nat.le_of_ble_eq_true rfl) dX9_does_82 ⟨Nat.le_of_ble_eq_true rfl, Nat.le_of_ble_eq_true rfl⟩ (fun H locs hP hS => ?_)
      exact kX9_does_85 C0 hK hJ  hP hS (lv_sub hl [5, 6, 4, 3, 2, 1, 0] rfl) hp
  · have hp := o_f hp hcd33
    obtain ⟨rfl, rfl⟩ := o_r hp
    exact W.vret hx hb hr (fun t ht hW => ⟨⟨(), rfl, trivial, by subst ht; exact hP⟩, hS.F ht⟩) hS.2.2 dX9_does_16
def sX9_does_0 (x1 : Int32) (x2 : Int32) (σ : TS) : Option (Int32 × TS) := (if vin x1 4 = true then ((sX9_isDone x1 x2 (st2 σ 20 (x1.toNatClampNeg) ((0 : Int32)))).bind (fun z => sX9_does_13 x1 x2 z.1 z.2)) else none)
set_option maxHeartbeats 4000000 in
set_option maxRecDepth 100000 in
theorem kX9_does_0 {r : Int32} {u : TS} (C0 : gC RX9 cX9_does 8 none wsX9_does p s m args meth c) (hK : va_K D vwCl (tyL cy) s) (hJ : gJ 39 q) {H : Heap} {locs : List Loc} {σ : TS} {x1 : Int32} {x2 : Int32} (hP : va_P D vwCl (gS 39 q (MX cy q) σ) H) (hS : va_S (gA 39 q) s.heap H locs) {ls : Array Slot} (hl : lv_has ls 8 [(0, .ref (q (0))), (1, .int x1), (2, .int x2)]) (hp : sX9_does_0 x1 x2 σ = some (r, u)) : W p l e rmX9_does s m args below meth c H locs 0 0 (MQ below (gQv D vwCl (gS 39 q (MX cy q) u) (gA 39 q)) args s 0 0 (gA 39 q)) (F0 m 0 ls []) := by
  obtain ⟨hx, hb, hr, hml, hown, hts, hlocks⟩ := id C0
  unfold sX9_does_0 at hp
  refine lv_aload_n hx hb dX9_does_0 rfl (lv_at hl 0 rfl) ?_
  refine g_get (v := .ref (q (20))) hx hb hts miX9_does_X9 hown hK hP (kk_Mod) (ce_Mod) rfl 22 (by decide) mwX9_does_6 rfl dX9_does_1 ?_
  refine lv_iload_n hx hb dX9_does_4 rfl (lv_at hl 1 rfl) ?_
  refine lv_iconst (v := (0 : Int32)) hx hb dX9_does_5 (by decide) ?_
  obtain ⟨hi41, hp⟩ := o_chk hp
  refine g_iast (j := x1.toNatClampNeg) hx hb hK hJ hP hS (kk_M_given) (ce_M_given) 0 rfl (vin_of hi41) rfl dX9_does_6 (fun H locs hP hS => ?_)
  refine lv_aload_n hx hb dX9_does_7 rfl (lv_at hl 0 rfl) ?_
  refine lv_iload_n hx hb dX9_does_8 rfl (lv_at hl 1 rfl) ?_
  refine lv_iload_n hx hb dX9_does_9 rfl (lv_at hl 2 rfl) ?_
  obtain ⟨⟨r42, u43⟩, hq44, hp⟩ := o_b hp
  refine g_cVi (As := [.int x1, .int x2]) (rest := []) hx hb hml hown hts hK hP hS (mX9_isDone l hJ hq44) (cwV 2 hts gX9_does_X9_isDone rfl rfl rfl nVX9_isDone ⟨Nat.le_of_ble_eq_true rfl, Nat.le_of_ble_eq_true rfl⟩) (g_recv hK hP (kk_Mod) (ce_Mod) rfl) rfl hl.1 rfl (Nat.le_of_ble_eq_true rfl) dX9_does_10 ⟨Nat.le_of_ble_eq_true rfl, Nat.le_of_ble_eq_true rfl⟩ (fun H locs hP hS => ?_)
  exact kX9_does_13 C0 hK hJ  hP hS hl hp
def sX9_does (x1 : Int32) (x2 : Int32) (σ : TS) : Option (Int32 × TS) := sX9_does_0 x1 x2 σ
theorem nVX9_does : yX9_does.cls = RX9 ∧ yX9_does.cls ≠ "java/lang/invoke/MethodHandle" ∧ yX9_does.cls ≠ "java/lang/invoke/VarHandle" ∧ (parseMethodDescriptor yX9_does.desc).map (fun d => d.parameters.length) = some 2 := by decide +kernel
set_option maxHeartbeats 4000000 in
set_option maxRecDepth 100000 in
theorem mX9_does (l : Launch) (hJ : gJ 39 q) {x1 : Int32} {x2 : Int32} {σ : TS} {r : Int32} {u : TS} (hp : sX9_does x1 x2 σ = some (r, u)) : Met l yX9_does wsX9_does rmX9_does (va_Pc [.ref (q (0)), .int x1, .int x2] (gPre D vwCl (tyL cy) (gS 39 q (MX cy q) σ))) (gQv D vwCl (gS 39 q (MX cy q) u) (gA 39 q)) 0 0 (gA 39 q) := by
  refine Met.ofW (cc := cX9_does) (maxL := 8) (ret := none) (by decide +kernel) rfl ?_
  intro p e s m args below meth c s₁ B hml hv
  obtain ⟨rfl, hP, hK⟩ := hv
  have hl := lv_entry ([.ref (q (0)), .int x1, .int x2]) (n := 8) (Nat.le_of_ble_eq_true rfl)
  rw [lg_entry_eq]
  generalize (lg_sl ([.ref (q (0)), .int x1, .int x2]) ++ List.replicate (8 - (lg_sl ([.ref (q (0)), .int x1, .int x2])).length) Slot.unset).toArray = ls at hl ⊢
  have hl : lv_has ls 8 [(0, .ref (q (0))), (1, .int x1), (2, .int x2)] := hl
  exact kX9_does_0 ⟨B.exec, B.bytes, B.returns, hml, findClass_of_methodNamed B.named, atoms_spec (ws := wsX9_does) B.pre, B.notSynchronized⟩ hK hJ  hP va_S.rf hl hp
theorem miX9_areLike_X9 : ∀ w ∈ u_ws RX9 TX9 44, w ∈ wsX9_areLike := by decide +kernel
theorem mwX9_areLike_0 : Cond.fieldLink RX9 69 "TriplaneModel" "given" "[I" ∈ wsX9_areLike := by decide +kernel
theorem mwX9_areLike_1 : Cond.fieldLink RX9 72 "TriplaneModel" "value" "[I" ∈ wsX9_areLike := by decide +kernel
abbrev rmX9_areLike : Room := { frames := 0, cells := 0, slots := 0, locals := 0 }
def sX9_areLike_44 (sx0 : Int32) (σ : TS) : Option (Int32 × TS) := (if zok sx0 = true then some (sx0, σ) else none)
set_option maxHeartbeats 4000000 in
set_option maxRecDepth 100000 in
theorem kX9_areLike_44 {r : Int32} {u : TS} (C0 : gC RX9 cX9_areLike 3 ((some .boolean)) wsX9_areLike p s m args meth c) (hK : va_K D vwCl (tyL cy) s) (hJ : gJ 39 q) {H : Heap} {locs : List Loc} {σ : TS} {sx0 : Int32} (hP : va_P D vwCl (gS 39 q (MX cy q) σ) H) (hS : va_S (gA 39 q) s.heap H locs) {ls : Array Slot} (hl : lv_has ls 3 []) (hp : sX9_areLike_44 sx0 σ = some (r, u)) : W p l e rmX9_areLike s m args below meth c H locs 0 0 (MQ below (gQi D vwCl r (gS 39 q (MX cy q) u) (gA 39 q)) args s 0 0 (gA 39 q)) (F0 m 44 ls [.int sx0]) := by
  obtain ⟨hx, hb, hr, hml, hown, hts, hlocks⟩ := id C0
  unfold sX9_areLike_44 at hp
  obtain ⟨hz1, hp⟩ := o_chk hp
  obtain ⟨rfl, rfl⟩ := o_r hp
  exact W.zret (v := sx0) hx hb hr (zok_n hz1).1 (fun t ht hW => ⟨⟨sx0, (), rfl, rfl, by subst ht; exact hP⟩, hS.F ht⟩) hS.2.2 dX9_areLike_44
def sX9_areLike_39 (σ : TS) : Option (Int32 × TS) := sX9_areLike_44 ((1 : Int32)) σ
set_option maxHeartbeats 4000000 in
set_option maxRecDepth 100000 in
theorem kX9_areLike_39 {r : Int32} {u : TS} (C0 : gC RX9 cX9_areLike 3 ((some .boolean)) wsX9_areLike p s m args meth c) (hK : va_K D vwCl (tyL cy) s) (hJ : gJ 39 q) {H : Heap} {locs : List Loc} {σ : TS} (hP : va_P D vwCl (gS 39 q (MX cy q) σ) H) (hS : va_S (gA 39 q) s.heap H locs) {ls : Array Slot} (hl : lv_has ls 3 []) (hp : sX9_areLike_39 σ = some (r, u)) : W p l e rmX9_areLike s m args below meth c H locs 0 0 (MQ below (gQi D vwCl r (gS 39 q (MX cy q) u) (gA 39 q)) args s 0 0 (gA 39 q)) (F0 m 39 ls []) := by
  obtain ⟨hx, hb, hr, hml, hown, hts, hlocks⟩ := id C0
  unfold sX9_areLike_39 at hp
  refine lv_iconst (v := (1 : Int32)) hx hb dX9_areLike_39 (by decide) ?_
  refine lv_goto (tgt := 44) hx hb dX9_areLike_40 (by decide) ?_
  exact kX9_areLike_44 C0 hK hJ  hP hS hl hp
def sX9_areLike_43 (σ : TS) : Option (Int32 × TS) := sX9_areLike_44 ((0 : Int32)) σ
set_option maxHeartbeats 4000000 in
set_option maxRecDepth 100000 in
theorem kX9_areLike_43 {r : Int32} {u : TS} (C0 : gC RX9 cX9_areLike 3 ((some .boolean)) wsX9_areLike p s m args meth c) (hK : va_K D vwCl (tyL cy) s) (hJ : gJ 39 q) {H : Heap} {locs : List Loc} {σ : TS} (hP : va_P D vwCl (gS 39 q (MX cy q) σ) H) (hS : va_S (gA 39 q) s.heap H locs) {ls : Array Slot} (hl : lv_has ls 3 []) (hp : sX9_areLike_43 σ = some (r, u)) : W p l e rmX9_areLike s m args below meth c H locs 0 0 (MQ below (gQi D vwCl r (gS 39 q (MX cy q) u) (gA 39 q)) args s 0 0 (gA 39 q)) (F0 m 43 ls []) := by
  obtain ⟨hx, hb, hr, hml, hown, hts, hlocks⟩ := id C0
  unfold sX9_areLike_43 at hp
  refine lv_iconst (v := (0 : Int32)) hx hb dX9_areLike_43 (by decide) ?_
  exact kX9_areLike_44 C0 hK hJ  hP hS hl hp
def sX9_areLike_0 (x1 : Int32) (x2 : Int32) (σ : TS) : Option (Int32 × TS) := (if vin x1 4 = true then (if vin x2 4 = true then (if (σ 20 (x1.toNatClampNeg)) = (σ 20 (x2.toNatClampNeg)) then (if (σ 20 (x1.toNatClampNeg)) = 0 then sX9_areLike_39 σ else (if (σ 21 (x1.toNatClampNeg)) = (σ 21 (x2.toNatClampNeg)) then sX9_areLike_39 σ else sX9_areLike_43 σ)) else sX9_areLike_43 σ) else none) else none)
set_option maxHeartbeats 4000000 in
set_option maxRecDepth 100000 in
theorem kX9_areLike_0 {r : Int32} {u : TS} (C0 : gC RX9 cX9_areLike 3 ((some .boolean)) wsX9_areLike p s m args meth c) (hK : va_K D vwCl (tyL cy) s) (hJ : gJ 39 q) {H : Heap} {locs : List Loc} {σ : TS} {x1 : Int32} {x2 : Int32} (hP : va_P D vwCl (gS 39 q (MX cy q) σ) H) (hS : va_S (gA 39 q) s.heap H locs) {ls : Array Slot} (hl : lv_has ls 3 [(0, .ref (q (0))), (1, .int x1), (2, .int x2)]) (hp : sX9_areLike_0 x1 x2 σ = some (r, u)) : W p l e rmX9_areLike s m args below meth c H locs 0 0 (MQ below (gQi D vwCl r (gS 39 q (MX cy q) u) (gA 39 q)) args s 0 0 (gA 39 q)) (F0 m 0 ls []) := by
  obtain ⟨hx, hb, hr, hml, hown, hts, hlocks⟩ := id C0
  unfold sX9_areLike_0 at hp
  refine lv_aload_n hx hb dX9_areLike_0 rfl (lv_at hl 0 rfl) ?_
  refine g_get (v := .ref (q (20))) hx hb hts miX9_areLike_X9 hown hK hP (kk_Mod) (ce_Mod) rfl 22 (by decide) mwX9_areLike_0 rfl dX9_areLike_1 ?_
  refine lv_iload_n hx hb dX9_areLike_4 rfl (lv_at hl 1 rfl) ?_
  obtain ⟨hi2, hp⟩ := o_chk hp
  refine g_iald (j := x1.toNatClampNeg) hx hb hK hP (kk_M_given) (ce_M_given) 0 rfl (vin_of hi2) rfl dX9_areLike_5 ?_
  refine lv_aload_n hx hb dX9_areLike_6 rfl (lv_at hl 0 rfl) ?_
  refine g_get (v := .ref (q (20))) hx hb hts miX9_areLike_X9 hown hK hP (kk_Mod) (ce_Mod) rfl 22 (by decide) mwX9_areLike_0 rfl dX9_areLike_7 ?_
  refine lv_iload_n hx hb dX9_areLike_10 rfl (lv_at hl 2 rfl) ?_
  obtain ⟨hi3, hp⟩ := o_chk hp
  refine g_iald (j := x2.toNatClampNeg) hx hb hK hP (kk_M_given) (ce_M_given) 0 rfl (vin_of hi3) rfl dX9_areLike_11 ?_
  refine lv_icmp_ne (tgt := 43) hx hb dX9_areLike_12 (by decide) (fun hcd4 => ?_) (fun hcd4 => ?_)
  · have hp := o_f hp hcd4
    exact kX9_areLike_43 C0 hK hJ  hP hS (lv_sub hl [] rfl) hp
  · have hp := o_t hp hcd4
    refine lv_aload_n hx hb dX9_areLike_15 rfl (lv_at hl 0 rfl) ?_
    refine g_get (v := .ref (q (20))) hx hb hts miX9_areLike_X9 hown hK hP (kk_Mod) (ce_Mod) rfl 22 (by decide) mwX9_areLike_0 rfl dX9_areLike_16 ?_
    refine lv_iload_n hx hb dX9_areLike_19 rfl (lv_at hl 1 rfl) ?_
    refine g_iald (j := x1.toNatClampNeg) hx hb hK hP (kk_M_given) (ce_M_given) 0 rfl (vin_of hi2) rfl dX9_areLike_20 ?_
    refine lv_if_eq (tgt := 39) hx hb dX9_areLike_21 (by decide) (fun hcd5 => ?_) (fun hcd5 => ?_)
    · have hp := o_t hp hcd5
      exact kX9_areLike_39 C0 hK hJ  hP hS (lv_sub hl [] rfl) hp
    · have hp := o_f hp hcd5
      refine lv_aload_n hx hb dX9_areLike_24 rfl (lv_at hl 0 rfl) ?_
      refine g_get (v := .ref (q (21))) hx hb hts miX9_areLike_X9 hown hK hP (kk_Mod) (ce_Mod) rfl 23 (by decide) mwX9_areLike_1 rfl dX9_areLike_25 ?_
      refine lv_iload_n hx hb dX9_areLike_28 rfl (lv_at hl 1 rfl) ?_
      refine g_iald (j := x1.toNatClampNeg) hx hb hK hP (kk_M_value) (ce_M_value) 0 rfl (vin_of hi2) rfl dX9_areLike_29 ?_
      refine lv_aload_n hx hb dX9_areLike_30 rfl (lv_at hl 0 rfl) ?_
      refine g_get (v := .ref (q (21))) hx hb hts miX9_areLike_X9 hown hK hP (kk_Mod) (ce_Mod) rfl 23 (by decide) mwX9_areLike_1 rfl dX9_areLike_31 ?_
      refine lv_iload_n hx hb dX9_areLike_34 rfl (lv_at hl 2 rfl) ?_
      refine g_iald (j := x2.toNatClampNeg) hx hb hK hP (kk_M_value) (ce_M_value) 0 rfl (vin_of hi3) rfl dX9_areLike_35 ?_
      refine lv_icmp_ne (tgt := 43) hx hb dX9_areLike_36 (by decide) (fun hcd6 => ?_) (fun hcd6 => ?_)
      · have hp := o_f hp hcd6
        exact kX9_areLike_43 C0 hK hJ  hP hS (lv_sub hl [] rfl) hp
      · have hp := o_t hp hcd6
        exact kX9_areLike_39 C0 hK hJ  hP hS (lv_sub hl [] rfl) hp
def sX9_areLike (x1 : Int32) (x2 : Int32) (σ : TS) : Option (Int32 × TS) := sX9_areLike_0 x1 x2 σ
theorem nVX9_areLike : yX9_areLike.cls = RX9 ∧ yX9_areLike.cls ≠ "java/lang/invoke/MethodHandle" ∧ yX9_areLike.cls ≠ "java/lang/invoke/VarHandle" ∧ (parseMethodDescriptor yX9_areLike.desc).map (fun d => d.parameters.length) = some 2 := by decide +kernel
set_option maxHeartbeats 4000000 in
set_option maxRecDepth 100000 in
theorem mX9_areLike (l : Launch) (hJ : gJ 39 q) {x1 : Int32} {x2 : Int32} {σ : TS} {r : Int32} {u : TS} (hp : sX9_areLike x1 x2 σ = some (r, u)) : Met l yX9_areLike wsX9_areLike rmX9_areLike (va_Pc [.ref (q (0)), .int x1, .int x2] (gPre D vwCl (tyL cy) (gS 39 q (MX cy q) σ))) (gQi D vwCl r (gS 39 q (MX cy q) u) (gA 39 q)) 0 0 (gA 39 q) := by
  refine Met.ofW (cc := cX9_areLike) (maxL := 3) (ret := (some .boolean)) (by decide +kernel) rfl ?_
  intro p e s m args below meth c s₁ B hml hv
  obtain ⟨rfl, hP, hK⟩ := hv
  have hl := lv_entry ([.ref (q (0)), .int x1, .int x2]) (n := 3) (Nat.le_of_ble_eq_true rfl)
  rw [lg_entry_eq]
  generalize (lg_sl ([.ref (q (0)), .int x1, .int x2]) ++ List.replicate (3 - (lg_sl ([.ref (q (0)), .int x1, .int x2])).length) Slot.unset).toArray = ls at hl ⊢
  have hl : lv_has ls 3 [(0, .ref (q (0))), (1, .int x1), (2, .int x2)] := hl
  exact kX9_areLike_0 ⟨B.exec, B.bytes, B.returns, hml, findClass_of_methodNamed B.named, atoms_spec (ws := wsX9_areLike) B.pre, B.notSynchronized⟩ hK hJ  hP va_S.rf hl hp
theorem miX9_vote_X9 : ∀ w ∈ u_ws RX9 TX9 44, w ∈ wsX9_vote := by decide +kernel
theorem mwX9_vote_0 : Cond.fieldLink RX9 38 "TriplaneModel" "isOff" "[Z" ∈ wsX9_vote := by decide +kernel
theorem mwX9_vote_1 : Cond.fieldLink RX9 45 "TriplaneModel" "strikes" "[I" ∈ wsX9_vote := by decide +kernel
theorem mwX9_vote_2 : Cond.fieldLink RX9 69 "TriplaneModel" "given" "[I" ∈ wsX9_vote := by decide +kernel
theorem mwX9_vote_3 : Cond.fieldLink RX9 75 "TriplaneModel" "outputs" "[I" ∈ wsX9_vote := by decide +kernel
theorem mwX9_vote_4 : Cond.fieldLink RX9 72 "TriplaneModel" "value" "[I" ∈ wsX9_vote := by decide +kernel
abbrev rmX9_vote : Room := { frames := 2, cells := 0, slots := 0, locals := 44 }
def sX9_vote_75 (K21 : Int32 → Int32 → TS → Option (Int32 × TS)) (K29 : Int32 → Int32 → Int32 → TS → Option (Int32 × TS)) (x3 : Int32) (x4 : Int32) (sx0 : Int32) (σ : TS) : Option (Int32 × TS) := K29 sx0 x3 (x4 + (1 : Int32)) σ
set_option maxHeartbeats 4000000 in
set_option maxRecDepth 100000 in
theorem kX9_vote_75 {r : Int32} {u : TS} {K21 : Int32 → Int32 → TS → Option (Int32 × TS)} {K29 : Int32 → Int32 → Int32 → TS → Option (Int32 × TS)} (C0 : gC RX9 cX9_vote 5 none wsX9_vote p s m args meth c) (hK : va_K D vwCl (tyL cy) s) (hJ : gJ 39 q) (kh21 : ∀ (H : Heap) (locs : List Loc) (σ : TS) (x2 : Int32) (x3 : Int32) (hP : va_P D vwCl (gS 39 q (MX cy q) σ) H) (hS : va_S (gA 39 q) s.heap H locs) (ls : Array Slot) (hl : lv_has ls 5 [(0, .ref (q (0))), (2, .int x2), (3, .int x3)]) (hp : K21 x2 x3 σ = some (r, u)), W p l e rmX9_vote s m args below meth c H locs 0 0 (MQ below (gQv D vwCl (gS 39 q (MX cy q) u) (gA 39 q)) args s 0 0 (gA 39 q)) (F0 m 21 ls [])) (kh29 : ∀ (H : Heap) (locs : List Loc) (σ : TS) (x2 : Int32) (x3 : Int32) (x4 : Int32) (hP : va_P D vwCl (gS 39 q (MX cy q) σ) H) (hS : va_S (gA 39 q) s.heap H locs) (ls : Array Slot) (hl : lv_has ls 5 [(0, .ref (q (0))), (2, .int x2), (3, .int x3), (4, .int x4)]) (hp : K29 x2 x3 x4 σ = some (r, u)), W p l e rmX9_vote s m args below meth c H locs 0 0 (MQ below (gQv D vwCl (gS 39 q (MX cy q) u) (gA 39 q)) args s 0 0 (gA 39 q)) (F0 m 29 ls [])) {H : Heap} {locs : List Loc} {σ : TS} {x3 : Int32} {x4 : Int32} {sx0 : Int32} (hP : va_P D vwCl (gS 39 q (MX cy q) σ) H) (hS : va_S (gA 39 q) s.heap H locs) {ls : Array Slot} (hl : lv_has ls 5 [(0, .ref (q (0))), (3, .int x3), (4, .int x4)]) (hp : sX9_vote_75 K21 K29 x3 x4 sx0 σ = some (r, u)) : W p l e rmX9_vote s m args below meth c H locs 0 0 (MQ below (gQv D vwCl (gS 39 q (MX cy q) u) (gA 39 q)) args s 0 0 (gA 39 q)) (F0 m 75 ls [.int sx0]) := by
  obtain ⟨hx, hb, hr, hml, hown, hts, hlocks⟩ := id C0
  unfold sX9_vote_75 at hp
  refine lv_istore_n (lv' := [(2, .int sx0), (0, .ref (q (0))), (3, .int x3), (4, .int x4)]) hx hb dX9_vote_75 rfl hl (by decide) rfl (fun ls hl => ?_)
  refine lv_iinc (v := x4 + (1 : Int32)) (lv' := [(4, .int (x4 + (1 : Int32))), (2, .int sx0), (0, .ref (q (0))), (3, .int x3)]) hx hb dX9_vote_76 hl (k := 3) rfl rfl (by decide) rfl (fun ls hl => ?_)
  refine lv_goto (tgt := 29) hx hb dX9_vote_79 (by decide) ?_
  exact kh29 _ _ _ _ _ _  hP hS _ (lv_sub hl [2, 1, 3, 0] rfl) hp
def sX9_vote_74 (K21 : Int32 → Int32 → TS → Option (Int32 × TS)) (K29 : Int32 → Int32 → Int32 → TS → Option (Int32 × TS)) (x2 : Int32) (x3 : Int32) (x4 : Int32) (σ : TS) : Option (Int32 × TS) := sX9_vote_75 K21 K29 x3 x4 x2 σ
set_option maxHeartbeats 4000000 in
set_option maxRecDepth 100000 in
theorem kX9_vote_74 {r : Int32} {u : TS} {K21 : Int32 → Int32 → TS → Option (Int32 × TS)} {K29 : Int32 → Int32 → Int32 → TS → Option (Int32 × TS)} (C0 : gC RX9 cX9_vote 5 none wsX9_vote p s m args meth c) (hK : va_K D vwCl (tyL cy) s) (hJ : gJ 39 q) (kh21 : ∀ (H : Heap) (locs : List Loc) (σ : TS) (x2 : Int32) (x3 : Int32) (hP : va_P D vwCl (gS 39 q (MX cy q) σ) H) (hS : va_S (gA 39 q) s.heap H locs) (ls : Array Slot) (hl : lv_has ls 5 [(0, .ref (q (0))), (2, .int x2), (3, .int x3)]) (hp : K21 x2 x3 σ = some (r, u)), W p l e rmX9_vote s m args below meth c H locs 0 0 (MQ below (gQv D vwCl (gS 39 q (MX cy q) u) (gA 39 q)) args s 0 0 (gA 39 q)) (F0 m 21 ls [])) (kh29 : ∀ (H : Heap) (locs : List Loc) (σ : TS) (x2 : Int32) (x3 : Int32) (x4 : Int32) (hP : va_P D vwCl (gS 39 q (MX cy q) σ) H) (hS : va_S (gA 39 q) s.heap H locs) (ls : Array Slot) (hl : lv_has ls 5 [(0, .ref (q (0))), (2, .int x2), (3, .int x3), (4, .int x4)]) (hp : K29 x2 x3 x4 σ = some (r, u)), W p l e rmX9_vote s m args below meth c H locs 0 0 (MQ below (gQv D vwCl (gS 39 q (MX cy q) u) (gA 39 q)) args s 0 0 (gA 39 q)) (F0 m 29 ls [])) {H : Heap} {locs : List Loc} {σ : TS} {x2 : Int32} {x3 : Int32} {x4 : Int32} (hP : va_P D vwCl (gS 39 q (MX cy q) σ) H) (hS : va_S (gA 39 q) s.heap H locs) {ls : Array Slot} (hl : lv_has ls 5 [(0, .ref (q (0))), (2, .int x2), (3, .int x3), (4, .int x4)]) (hp : sX9_vote_74 K21 K29 x2 x3 x4 σ = some (r, u)) : W p l e rmX9_vote s m args below meth c H locs 0 0 (MQ below (gQv D vwCl (gS 39 q (MX cy q) u) (gA 39 q)) args s 0 0 (gA 39 q)) (F0 m 74 ls []) := by
  obtain ⟨hx, hb, hr, hml, hown, hts, hlocks⟩ := id C0
  unfold sX9_vote_74 at hp
  refine lv_iload_n hx hb dX9_vote_74 rfl (lv_at hl 1 rfl) ?_
  exact kX9_vote_75 C0 hK hJ kh21 kh29  hP hS (lv_sub hl [0, 2, 3] rfl) hp
def sX9_vote_67 (K21 : Int32 → Int32 → TS → Option (Int32 × TS)) (K29 : Int32 → Int32 → Int32 → TS → Option (Int32 × TS)) (x2 : Int32) (x3 : Int32) (x4 : Int32) (sx0 : Int32) (σ : TS) : Option (Int32 × TS) := (if sx0 = 0 then sX9_vote_74 K21 K29 x2 x3 x4 σ else sX9_vote_75 K21 K29 x3 x4 x3 σ)
set_option maxHeartbeats 4000000 in
set_option maxRecDepth 100000 in
theorem kX9_vote_67 {r : Int32} {u : TS} {K21 : Int32 → Int32 → TS → Option (Int32 × TS)} {K29 : Int32 → Int32 → Int32 → TS → Option (Int32 × TS)} (C0 : gC RX9 cX9_vote 5 none wsX9_vote p s m args meth c) (hK : va_K D vwCl (tyL cy) s) (hJ : gJ 39 q) (kh21 : ∀ (H : Heap) (locs : List Loc) (σ : TS) (x2 : Int32) (x3 : Int32) (hP : va_P D vwCl (gS 39 q (MX cy q) σ) H) (hS : va_S (gA 39 q) s.heap H locs) (ls : Array Slot) (hl : lv_has ls 5 [(0, .ref (q (0))), (2, .int x2), (3, .int x3)]) (hp : K21 x2 x3 σ = some (r, u)), W p l e rmX9_vote s m args below meth c H locs 0 0 (MQ below (gQv D vwCl (gS 39 q (MX cy q) u) (gA 39 q)) args s 0 0 (gA 39 q)) (F0 m 21 ls [])) (kh29 : ∀ (H : Heap) (locs : List Loc) (σ : TS) (x2 : Int32) (x3 : Int32) (x4 : Int32) (hP : va_P D vwCl (gS 39 q (MX cy q) σ) H) (hS : va_S (gA 39 q) s.heap H locs) (ls : Array Slot) (hl : lv_has ls 5 [(0, .ref (q (0))), (2, .int x2), (3, .int x3), (4, .int x4)]) (hp : K29 x2 x3 x4 σ = some (r, u)), W p l e rmX9_vote s m args below meth c H locs 0 0 (MQ below (gQv D vwCl (gS 39 q (MX cy q) u) (gA 39 q)) args s 0 0 (gA 39 q)) (F0 m 29 ls [])) {H : Heap} {locs : List Loc} {σ : TS} {x2 : Int32} {x3 : Int32} {x4 : Int32} {sx0 : Int32} (hP : va_P D vwCl (gS 39 q (MX cy q) σ) H) (hS : va_S (gA 39 q) s.heap H locs) {ls : Array Slot} (hl : lv_has ls 5 [(0, .ref (q (0))), (2, .int x2), (3, .int x3), (4, .int x4)]) (hp : sX9_vote_67 K21 K29 x2 x3 x4 sx0 σ = some (r, u)) : W p l e rmX9_vote s m args below meth c H locs 0 0 (MQ below (gQv D vwCl (gS 39 q (MX cy q) u) (gA 39 q)) args s 0 0 (gA 39 q)) (F0 m 67 ls [.int sx0]) := by
  obtain ⟨hx, hb, hr, hml, hown, hts, hlocks⟩ := id C0
  unfold sX9_vote_67 at hp
  refine lv_if_eq (tgt := 74) hx hb dX9_vote_67 (by decide) (fun hcd1 => ?_) (fun hcd1 => ?_)
  · have hp := o_t hp hcd1
    exact kX9_vote_74 C0 hK hJ kh21 kh29  hP hS hl hp
  · have hp := o_f hp hcd1
    refine lv_iload_n hx hb dX9_vote_70 rfl (lv_at hl 2 rfl) ?_
    refine lv_goto (tgt := 75) hx hb dX9_vote_71 (by decide) ?_
    exact kX9_vote_75 C0 hK hJ kh21 kh29  hP hS (lv_sub hl [0, 2, 3] rfl) hp
def sX9_vote_29 (K21 : Int32 → Int32 → TS → Option (Int32 × TS)) : Nat → Int32 → Int32 → Int32 → TS → Option (Int32 × TS)
  | 0, _, _, _, _ => none
  | n + 1, x2, x3, x4, σ => (if ((3 : Int32)) ≤ x4 then K21 x2 (x3 + (1 : Int32)) σ else (if x3 = x4 then sX9_vote_74 K21 (sX9_vote_29 K21 n) x2 x3 x4 σ else (if vin x3 4 = true then (if (σ 10 (x3.toNatClampNeg)) = 0 then (if vin x4 4 = true then (if (σ 10 (x4.toNatClampNeg)) = 0 then ((sX9_areLike x3 x4 σ).bind (fun z => sX9_vote_67 K21 (sX9_vote_29 K21 n) x2 x3 x4 z.1 z.2)) else sX9_vote_74 K21 (sX9_vote_29 K21 n) x2 x3 x4 σ) else none) else sX9_vote_74 K21 (sX9_vote_29 K21 n) x2 x3 x4 σ) else none)))
set_option maxHeartbeats 4000000 in
set_option maxRecDepth 100000 in
theorem kX9_vote_29 {r : Int32} {u : TS} {K21 : Int32 → Int32 → TS → Option (Int32 × TS)} (C0 : gC RX9 cX9_vote 5 none wsX9_vote p s m args meth c) (hK : va_K D vwCl (tyL cy) s) (hJ : gJ 39 q) (kh21 : ∀ (H : Heap) (locs : List Loc) (σ : TS) (x2 : Int32) (x3 : Int32) (hP : va_P D vwCl (gS 39 q (MX cy q) σ) H) (hS : va_S (gA 39 q) s.heap H locs) (ls : Array Slot) (hl : lv_has ls 5 [(0, .ref (q (0))), (2, .int x2), (3, .int x3)]) (hp : K21 x2 x3 σ = some (r, u)), W p l e rmX9_vote s m args below meth c H locs 0 0 (MQ below (gQv D vwCl (gS 39 q (MX cy q) u) (gA 39 q)) args s 0 0 (gA 39 q)) (F0 m 21 ls [])) : ∀ (n : Nat) (H : Heap) (locs : List Loc) (σ : TS) (x2 : Int32) (x3 : Int32) (x4 : Int32) (hP : va_P D vwCl (gS 39 q (MX cy q) σ) H) (hS : va_S (gA 39 q) s.heap H locs) (ls : Array Slot) (hl : lv_has ls 5 [(0, .ref (q (0))), (2, .int x2), (3, .int x3), (4, .int x4)]) (hp : sX9_vote_29 K21 n x2 x3 x4 σ = some (r, u)), W p l e rmX9_vote s m args below meth c H locs 0 0 (MQ below (gQv D vwCl (gS 39 q (MX cy q) u) (gA 39 q)) args s 0 0 (gA 39 q)) (F0 m 29 ls []) := by
  obtain ⟨hx, hb, hr, hml, hown, hts, hlocks⟩ := id C0
  intro n
  induction n with
  | zero =>
    intro H locs σ x2 x3 x4 hP hS ls hl hp
    cases hp
  | succ n ih =>
    intro H locs σ x2 x3 x4 hP hS ls hl hp
    unfold sX9_vote_29 at hp
    refine lv_iload hx hb dX9_vote_29 (lv_at hl 3 rfl) ?_
    refine lv_iconst (v := (3 : Int32)) hx hb dX9_vote_31 (by decide) ?_
    refine lv_icmp_ge (tgt := 82) hx hb dX9_vote_32 (by decide) (fun hcd2 => ?_) (fun hcd2 => ?_)
    · have hp := o_t hp hcd2
      refine lv_iinc (v := x3 + (1 : Int32)) (lv' := [(3, .int (x3 + (1 : Int32))), (0, .ref (q (0))), (2, .int x2), (4, .int x4)]) hx hb dX9_vote_82 hl (k := 2) rfl rfl (by decide) rfl (fun ls hl => ?_)
      refine lv_goto (tgt := 21) hx hb dX9_vote_85 (by decide) ?_
      exact kh21 _ _ _ _ _  hP hS _ (lv_sub hl [1, 2, 0] rfl) hp
    · have hp := o_f hp hcd2
      refine lv_iload_n hx hb dX9_vote_35 rfl (lv_at hl 2 rfl) ?_
      refine lv_iload hx hb dX9_vote_36 (lv_at hl 3 rfl) ?_
      refine lv_icmp_eq (tgt := 74) hx hb dX9_vote_38 (by decide) (fun hcd3 => ?_) (fun hcd3 => ?_)
      · have hp := o_t hp hcd3
        exact kX9_vote_74 C0 hK hJ kh21 ih  hP hS hl hp
      · have hp := o_f hp hcd3
        refine lv_aload_n hx hb dX9_vote_41 rfl (lv_at hl 0 rfl) ?_
        refine g_get (v := .ref (q (10))) hx hb hts miX9_vote_X9 hown hK hP (kk_Mod) (ce_Mod) rfl 12 (by decide) mwX9_vote_0 rfl dX9_vote_42 ?_
        refine lv_iload_n hx hb dX9_vote_45 rfl (lv_at hl 2 rfl) ?_
        obtain ⟨hi4, hp⟩ := o_chk hp
        refine g_zald (j := x3.toNatClampNeg) hx hb hK hP (kk_M_isOff) (ce_M_isOff) 1 rfl (vin_of hi4) rfl dX9_vote_46 ?_
        refine lv_if_ne (tgt := 74) hx hb dX9_vote_47 (by decide) (fun hcd5 => ?_) (fun hcd5 => ?_)
        · have hp := o_f hp hcd5
          exact kX9_vote_74 C0 hK hJ kh21 ih  hP hS hl hp
        · have hp := o_t hp hcd5
          refine lv_aload_n hx hb dX9_vote_50 rfl (lv_at hl 0 rfl) ?_
          refine g_get (v := .ref (q (10))) hx hb hts miX9_vote_X9 hown hK hP (kk_Mod) (ce_Mod) rfl 12 (by decide) mwX9_vote_0 rfl dX9_vote_51 ?_
          refine lv_iload hx hb dX9_vote_54 (lv_at hl 3 rfl) ?_
          obtain ⟨hi6, hp⟩ := o_chk hp
          refine g_zald (j := x4.toNatClampNeg) hx hb hK hP (kk_M_isOff) (ce_M_isOff) 1 rfl (vin_of hi6) rfl dX9_vote_56 ?_
          refine lv_if_ne (tgt := 74) hx hb dX9_vote_57 (by decide) (fun hcd7 => ?_) (fun hcd7 => ?_)
          · have hp := o_f hp hcd7
            exact kX9_vote_74 C0 hK hJ kh21 ih  hP hS hl hp
          · have hp := o_t hp hcd7
            refine lv_aload_n hx hb dX9_vote_60 rfl (lv_at hl 0 rfl) ?_
            refine lv_iload_n hx hb dX9_vote_61 rfl (lv_at hl 2 rfl) ?_
            refine lv_iload hx hb dX9_vote_62 (lv_at hl 3 rfl) ?_
            obtain ⟨⟨r8, u9⟩, hq10, hp⟩ := o_b hp
            refine g_cVi (As := [.int x3, .int x4]) (rest := []) hx hb hml hown hts hK hP hS (mX9_areLike l hJ hq10) (cwV 2 hts gX9_vote_X9_areLike rfl rfl rfl nVX9_areLike ⟨Nat.le_of_ble_eq_true rfl, Nat.le_of_ble_eq_true rfl⟩) (g_recv hK hP (kk_Mod) (ce_Mod) rfl) rfl hl.1 rfl (Nat.le_of_ble_eq_true rfl) dX9_vote_64 ⟨Nat.le_of_ble_eq_true rfl, Nat.le_of_ble_eq_true rfl⟩ (fun H locs hP hS => ?_)
            exact kX9_vote_67 C0 hK hJ kh21 ih  hP hS hl hp
def sX9_vote_130 (K90 : Int32 → Int32 → TS → Option (Int32 × TS)) (x2 : Int32) (x3 : Int32) (sx1 : Int32) (sx2 : Int32) (sx3 : Int32) (σ : TS) : Option (Int32 × TS) := (if vin sx1 4 = true then K90 x2 (x3 + (1 : Int32)) (st2 σ 12 (sx1.toNatClampNeg) (sx2 + sx3)) else none)
set_option maxHeartbeats 4000000 in
set_option maxRecDepth 100000 in
theorem kX9_vote_130 {r : Int32} {u : TS} {K90 : Int32 → Int32 → TS → Option (Int32 × TS)} (C0 : gC RX9 cX9_vote 5 none wsX9_vote p s m args meth c) (hK : va_K D vwCl (tyL cy) s) (hJ : gJ 39 q) (kh90 : ∀ (H : Heap) (locs : List Loc) (σ : TS) (x2 : Int32) (x3 : Int32) (hP : va_P D vwCl (gS 39 q (MX cy q) σ) H) (hS : va_S (gA 39 q) s.heap H locs) (ls : Array Slot) (hl : lv_has ls 5 [(0, .ref (q (0))), (2, .int x2), (3, .int x3)]) (hp : K90 x2 x3 σ = some (r, u)), W p l e rmX9_vote s m args below meth c H locs 0 0 (MQ below (gQv D vwCl (gS 39 q (MX cy q) u) (gA 39 q)) args s 0 0 (gA 39 q)) (F0 m 90 ls [])) {H : Heap} {locs : List Loc} {σ : TS} {x2 : Int32} {x3 : Int32} {sx1 : Int32} {sx2 : Int32} {sx3 : Int32} (hP : va_P D vwCl (gS 39 q (MX cy q) σ) H) (hS : va_S (gA 39 q) s.heap H locs) {ls : Array Slot} (hl : lv_has ls 5 [(0, .ref (q (0))), (2, .int x2), (3, .int x3)]) (hp : sX9_vote_130 K90 x2 x3 sx1 sx2 sx3 σ = some (r, u)) : W p l e rmX9_vote s m args below meth c H locs 0 0 (MQ below (gQv D vwCl (gS 39 q (MX cy q) u) (gA 39 q)) args s 0 0 (gA 39 q)) (F0 m 130 ls [.int sx3, .int sx2, .int sx1, .ref (q (12))]) := by
  obtain ⟨hx, hb, hr, hml, hown, hts, hlocks⟩ := id C0
  unfold sX9_vote_130 at hp
  refine lv_iadd hx hb dX9_vote_130 ?_
  obtain ⟨hi11, hp⟩ := o_chk hp
  refine g_iast (j := sx1.toNatClampNeg) hx hb hK hJ hP hS (kk_M_strikes) (ce_M_strikes) 0 rfl (vin_of hi11) rfl dX9_vote_131 (fun H locs hP hS => ?_)
  refine lv_iinc (v := x3 + (1 : Int32)) (lv' := [(3, .int (x3 + (1 : Int32))), (0, .ref (q (0))), (2, .int x2)]) hx hb dX9_vote_132 hl (k := 2) rfl rfl (by decide) rfl (fun ls hl => ?_)
  refine lv_goto (tgt := 90) hx hb dX9_vote_135 (by decide) ?_
  exact kh90 _ _ _ _ _  hP hS _ (lv_sub hl [1, 2, 0] rfl) hp
def sX9_vote_125 (K90 : Int32 → Int32 → TS → Option (Int32 × TS)) (x2 : Int32) (x3 : Int32) (sx1 : Int32) (sx2 : Int32) (σ : TS) : Option (Int32 × TS) := sX9_vote_130 K90 x2 x3 sx1 sx2 ((1 : Int32)) σ
set_option maxHeartbeats 4000000 in
set_option maxRecDepth 100000 in
theorem kX9_vote_125 {r : Int32} {u : TS} {K90 : Int32 → Int32 → TS → Option (Int32 × TS)} (C0 : gC RX9 cX9_vote 5 none wsX9_vote p s m args meth c) (hK : va_K D vwCl (tyL cy) s) (hJ : gJ 39 q) (kh90 : ∀ (H : Heap) (locs : List Loc) (σ : TS) (x2 : Int32) (x3 : Int32) (hP : va_P D vwCl (gS 39 q (MX cy q) σ) H) (hS : va_S (gA 39 q) s.heap H locs) (ls : Array Slot) (hl : lv_has ls 5 [(0, .ref (q (0))), (2, .int x2), (3, .int x3)]) (hp : K90 x2 x3 σ = some (r, u)), W p l e rmX9_vote s m args below meth c H locs 0 0 (MQ below (gQv D vwCl (gS 39 q (MX cy q) u) (gA 39 q)) args s 0 0 (gA 39 q)) (F0 m 90 ls [])) {H : Heap} {locs : List Loc} {σ : TS} {x2 : Int32} {x3 : Int32} {sx1 : Int32} {sx2 : Int32} (hP : va_P D vwCl (gS 39 q (MX cy q) σ) H) (hS : va_S (gA 39 q) s.heap H locs) {ls : Array Slot} (hl : lv_has ls 5 [(0, .ref (q (0))), (2, .int x2), (3, .int x3)]) (hp : sX9_vote_125 K90 x2 x3 sx1 sx2 σ = some (r, u)) : W p l e rmX9_vote s m args below meth c H locs 0 0 (MQ below (gQv D vwCl (gS 39 q (MX cy q) u) (gA 39 q)) args s 0 0 (gA 39 q)) (F0 m 125 ls [.int sx2, .int sx1, .ref (q (12))]) := by
  obtain ⟨hx, hb, hr, hml, hown, hts, hlocks⟩ := id C0
  unfold sX9_vote_125 at hp
  refine lv_iconst (v := (1 : Int32)) hx hb dX9_vote_125 (by decide) ?_
  refine lv_goto (tgt := 130) hx hb dX9_vote_126 (by decide) ?_
  exact kX9_vote_130 C0 hK hJ kh90  hP hS hl hp
def sX9_vote_129 (K90 : Int32 → Int32 → TS → Option (Int32 × TS)) (x2 : Int32) (x3 : Int32) (sx1 : Int32) (sx2 : Int32) (σ : TS) : Option (Int32 × TS) := sX9_vote_130 K90 x2 x3 sx1 sx2 ((0 : Int32)) σ
set_option maxHeartbeats 4000000 in
set_option maxRecDepth 100000 in
theorem kX9_vote_129 {r : Int32} {u : TS} {K90 : Int32 → Int32 → TS → Option (Int32 × TS)} (C0 : gC RX9 cX9_vote 5 none wsX9_vote p s m args meth c) (hK : va_K D vwCl (tyL cy) s) (hJ : gJ 39 q) (kh90 : ∀ (H : Heap) (locs : List Loc) (σ : TS) (x2 : Int32) (x3 : Int32) (hP : va_P D vwCl (gS 39 q (MX cy q) σ) H) (hS : va_S (gA 39 q) s.heap H locs) (ls : Array Slot) (hl : lv_has ls 5 [(0, .ref (q (0))), (2, .int x2), (3, .int x3)]) (hp : K90 x2 x3 σ = some (r, u)), W p l e rmX9_vote s m args below meth c H locs 0 0 (MQ below (gQv D vwCl (gS 39 q (MX cy q) u) (gA 39 q)) args s 0 0 (gA 39 q)) (F0 m 90 ls [])) {H : Heap} {locs : List Loc} {σ : TS} {x2 : Int32} {x3 : Int32} {sx1 : Int32} {sx2 : Int32} (hP : va_P D vwCl (gS 39 q (MX cy q) σ) H) (hS : va_S (gA 39 q) s.heap H locs) {ls : Array Slot} (hl : lv_has ls 5 [(0, .ref (q (0))), (2, .int x2), (3, .int x3)]) (hp : sX9_vote_129 K90 x2 x3 sx1 sx2 σ = some (r, u)) : W p l e rmX9_vote s m args below meth c H locs 0 0 (MQ below (gQv D vwCl (gS 39 q (MX cy q) u) (gA 39 q)) args s 0 0 (gA 39 q)) (F0 m 129 ls [.int sx2, .int sx1, .ref (q (12))]) := by
  obtain ⟨hx, hb, hr, hml, hown, hts, hlocks⟩ := id C0
  unfold sX9_vote_129 at hp
  refine lv_iconst (v := (0 : Int32)) hx hb dX9_vote_129 (by decide) ?_
  exact kX9_vote_130 C0 hK hJ kh90  hP hS hl hp
def sX9_vote_122 (K90 : Int32 → Int32 → TS → Option (Int32 × TS)) (x2 : Int32) (x3 : Int32) (sx1 : Int32) (sx2 : Int32) (sx3 : Int32) (σ : TS) : Option (Int32 × TS) := (if sx3 = 0 then sX9_vote_125 K90 x2 x3 sx1 sx2 σ else sX9_vote_129 K90 x2 x3 sx1 sx2 σ)
set_option maxHeartbeats 4000000 in
set_option maxRecDepth 100000 in
theorem kX9_vote_122 {r : Int32} {u : TS} {K90 : Int32 → Int32 → TS → Option (Int32 × TS)} (C0 : gC RX9 cX9_vote 5 none wsX9_vote p s m args meth c) (hK : va_K D vwCl (tyL cy) s) (hJ : gJ 39 q) (kh90 : ∀ (H : Heap) (locs : List Loc) (σ : TS) (x2 : Int32) (x3 : Int32) (hP : va_P D vwCl (gS 39 q (MX cy q) σ) H) (hS : va_S (gA 39 q) s.heap H locs) (ls : Array Slot) (hl : lv_has ls 5 [(0, .ref (q (0))), (2, .int x2), (3, .int x3)]) (hp : K90 x2 x3 σ = some (r, u)), W p l e rmX9_vote s m args below meth c H locs 0 0 (MQ below (gQv D vwCl (gS 39 q (MX cy q) u) (gA 39 q)) args s 0 0 (gA 39 q)) (F0 m 90 ls [])) {H : Heap} {locs : List Loc} {σ : TS} {x2 : Int32} {x3 : Int32} {sx1 : Int32} {sx2 : Int32} {sx3 : Int32} (hP : va_P D vwCl (gS 39 q (MX cy q) σ) H) (hS : va_S (gA 39 q) s.heap H locs) {ls : Array Slot} (hl : lv_has ls 5 [(0, .ref (q (0))), (2, .int x2), (3, .int x3)]) (hp : sX9_vote_122 K90 x2 x3 sx1 sx2 sx3 σ = some (r, u)) : W p l e rmX9_vote s m args below meth c H locs 0 0 (MQ below (gQv D vwCl (gS 39 q (MX cy q) u) (gA 39 q)) args s 0 0 (gA 39 q)) (F0 m 122 ls [.int sx3, .int sx2, .int sx1, .ref (q (12))]) := by
  obtain ⟨hx, hb, hr, hml, hown, hts, hlocks⟩ := id C0
  unfold sX9_vote_122 at hp
  refine lv_if_ne (tgt := 129) hx hb dX9_vote_122 (by decide) (fun hcd12 => ?_) (fun hcd12 => ?_)
  · have hp := o_f hp hcd12
    exact kX9_vote_129 C0 hK hJ kh90  hP hS hl hp
  · have hp := o_t hp hcd12
    exact kX9_vote_125 C0 hK hJ kh90  hP hS hl hp
def sX9_vote_204 (K173 : Int32 → TS → Option (Int32 × TS)) (x3 : Int32) (σ : TS) : Option (Int32 × TS) := K173 (x3 + (1 : Int32)) σ
set_option maxHeartbeats 4000000 in
set_option maxRecDepth 100000 in
theorem kX9_vote_204 {r : Int32} {u : TS} {K173 : Int32 → TS → Option (Int32 × TS)} (C0 : gC RX9 cX9_vote 5 none wsX9_vote p s m args meth c) (hK : va_K D vwCl (tyL cy) s) (hJ : gJ 39 q) (kh173 : ∀ (H : Heap) (locs : List Loc) (σ : TS) (x3 : Int32) (hP : va_P D vwCl (gS 39 q (MX cy q) σ) H) (hS : va_S (gA 39 q) s.heap H locs) (ls : Array Slot) (hl : lv_has ls 5 [(0, .ref (q (0))), (3, .int x3)]) (hp : K173 x3 σ = some (r, u)), W p l e rmX9_vote s m args below meth c H locs 0 0 (MQ below (gQv D vwCl (gS 39 q (MX cy q) u) (gA 39 q)) args s 0 0 (gA 39 q)) (F0 m 173 ls [])) {H : Heap} {locs : List Loc} {σ : TS} {x3 : Int32} (hP : va_P D vwCl (gS 39 q (MX cy q) σ) H) (hS : va_S (gA 39 q) s.heap H locs) {ls : Array Slot} (hl : lv_has ls 5 [(0, .ref (q (0))), (3, .int x3)]) (hp : sX9_vote_204 K173 x3 σ = some (r, u)) : W p l e rmX9_vote s m args below meth c H locs 0 0 (MQ below (gQv D vwCl (gS 39 q (MX cy q) u) (gA 39 q)) args s 0 0 (gA 39 q)) (F0 m 204 ls []) := by
  obtain ⟨hx, hb, hr, hml, hown, hts, hlocks⟩ := id C0
  unfold sX9_vote_204 at hp
  refine lv_iinc (v := x3 + (1 : Int32)) (lv' := [(3, .int (x3 + (1 : Int32))), (0, .ref (q (0)))]) hx hb dX9_vote_204 hl (k := 1) rfl rfl (by decide) rfl (fun ls hl => ?_)
  refine lv_goto (tgt := 173) hx hb dX9_vote_207 (by decide) ?_
  exact kh173 _ _ _ _  hP hS _ (lv_sub hl [1, 0] rfl) hp
def sX9_vote_173 : Nat → Int32 → TS → Option (Int32 × TS)
  | 0, _, _ => none
  | n + 1, x3, σ => (if ((3 : Int32)) ≤ x3 then some (0, σ) else (if vin x3 4 = true then (if (σ 10 (x3.toNatClampNeg)) = 0 then (if (σ 12 (x3.toNatClampNeg)) < ((3 : Int32)) then sX9_vote_204 (sX9_vote_173 n) x3 σ else ((sX9_off x3 ((118 : Int32)) σ).bind (fun z => sX9_vote_204 (sX9_vote_173 n) x3 z.2))) else sX9_vote_204 (sX9_vote_173 n) x3 σ) else none))
set_option maxHeartbeats 4000000 in
set_option maxRecDepth 100000 in
theorem kX9_vote_173 {r : Int32} {u : TS} (C0 : gC RX9 cX9_vote 5 none wsX9_vote p s m args meth c) (hK : va_K D vwCl (tyL cy) s) (hJ : gJ 39 q) : ∀ (n : Nat) (H : Heap) (locs : List Loc) (σ : TS) (x3 : Int32) (hP : va_P D vwCl (gS 39 q (MX cy q) σ) H) (hS : va_S (gA 39 q) s.heap H locs) (ls : Array Slot) (hl : lv_has ls 5 [(0, .ref (q (0))), (3, .int x3)]) (hp : sX9_vote_173 n x3 σ = some (r, u)), W p l e rmX9_vote s m args below meth c H locs 0 0 (MQ below (gQv D vwCl (gS 39 q (MX cy q) u) (gA 39 q)) args s 0 0 (gA 39 q)) (F0 m 173 ls []) := by
  obtain ⟨hx, hb, hr, hml, hown, hts, hlocks⟩ := id C0
  intro n
  induction n with
  | zero =>
    intro H locs σ x3 hP hS ls hl hp
    cases hp
  | succ n ih =>
    intro H locs σ x3 hP hS ls hl hp
    unfold sX9_vote_173 at hp
    refine lv_iload_n hx hb dX9_vote_173 rfl (lv_at hl 1 rfl) ?_
    refine lv_iconst (v := (3 : Int32)) hx hb dX9_vote_174 (by decide) ?_
    refine lv_icmp_ge (tgt := 210) hx hb dX9_vote_175 (by decide) (fun hcd13 => ?_) (fun hcd13 => ?_)
    · have hp := o_t hp hcd13
      obtain ⟨rfl, rfl⟩ := o_r hp
      exact W.vret hx hb hr (fun t ht hW => ⟨⟨(), rfl, trivial, by subst ht; exact hP⟩, hS.F ht⟩) hS.2.2 dX9_vote_210
    · have hp := o_f hp hcd13
      refine lv_aload_n hx hb dX9_vote_178 rfl (lv_at hl 0 rfl) ?_
      refine g_get (v := .ref (q (10))) hx hb hts miX9_vote_X9 hown hK hP (kk_Mod) (ce_Mod) rfl 12 (by decide) mwX9_vote_0 rfl dX9_vote_179 ?_
      refine lv_iload_n hx hb dX9_vote_182 rfl (lv_at hl 1 rfl) ?_
      obtain ⟨hi14, hp⟩ := o_chk hp
      refine g_zald (j := x3.toNatClampNeg) hx hb hK hP (kk_M_isOff) (ce_M_isOff) 1 rfl (vin_of hi14) rfl dX9_vote_183 ?_
      refine lv_if_ne (tgt := 204) hx hb dX9_vote_184 (by decide) (fun hcd15 => ?_) (fun hcd15 => ?_)
      · have hp := o_f hp hcd15
        exact kX9_vote_204 C0 hK hJ ih  hP hS hl hp
      · have hp := o_t hp hcd15
        refine lv_aload_n hx hb dX9_vote_187 rfl (lv_at hl 0 rfl) ?_
        refine g_get (v := .ref (q (12))) hx hb hts miX9_vote_X9 hown hK hP (kk_Mod) (ce_Mod) rfl 14 (by decide) mwX9_vote_1 rfl dX9_vote_188 ?_
        refine lv_iload_n hx hb dX9_vote_191 rfl (lv_at hl 1 rfl) ?_
        refine g_iald (j := x3.toNatClampNeg) hx hb hK hP (kk_M_strikes) (ce_M_strikes) 0 rfl (vin_of hi14) rfl dX9_vote_192 ?_
        refine lv_iconst (v := (3 : Int32)) hx hb dX9_vote_193 (by decide) ?_
        refine lv_icmp_lt (tgt := 204) hx hb dX9_vote_194 (by decide) (fun hcd16 => ?_) (fun hcd16 => ?_)
        · have hp := o_t hp hcd16
          exact kX9_vote_204 C0 hK hJ ih  hP hS hl hp
        · have hp := o_f hp hcd16
          refine lv_aload_n hx hb dX9_vote_197 rfl (lv_at hl 0 rfl) ?_
          refine lv_iload_n hx hb dX9_vote_198 rfl (lv_at hl 1 rfl) ?_
          refine lv_bipush (v := (118 : Int32)) hx hb dX9_vote_199 (by decide) ?_
          obtain ⟨⟨r17, u18⟩, hq19, hp⟩ := o_b hp
          refine g_cVv (As := [.int x3, .int ((118 : Int32))]) (rest := []) hx hb hml hown hts hK hP hS (mX9_off l hJ hq19) (cwV 2 hts gX9_vote_X9_off rfl rfl rfl nVX9_off ⟨Nat.le_of_ble_eq_true rfl, Nat.le_of_ble_eq_true rfl⟩) (g_recv hK hP (kk_Mod) (ce_Mod) rfl) rfl hl.1 rfl (Nat.le_of_ble_eq_true rfl) dX9_vote_201 ⟨Nat.le_of_ble_eq_true rfl, Nat.le_of_ble_eq_true rfl⟩ (fun H locs hP hS => ?_)
          exact kX9_vote_204 C0 hK hJ ih  hP hS hl hp
def sX9_vote_171 (σ : TS) : Option (Int32 × TS) := sX9_vote_173 4 ((0 : Int32)) σ
set_option maxHeartbeats 4000000 in
set_option maxRecDepth 100000 in
theorem kX9_vote_171 {r : Int32} {u : TS} (C0 : gC RX9 cX9_vote 5 none wsX9_vote p s m args meth c) (hK : va_K D vwCl (tyL cy) s) (hJ : gJ 39 q) {H : Heap} {locs : List Loc} {σ : TS} (hP : va_P D vwCl (gS 39 q (MX cy q) σ) H) (hS : va_S (gA 39 q) s.heap H locs) {ls : Array Slot} (hl : lv_has ls 5 [(0, .ref (q (0)))]) (hp : sX9_vote_171 σ = some (r, u)) : W p l e rmX9_vote s m args below meth c H locs 0 0 (MQ below (gQv D vwCl (gS 39 q (MX cy q) u) (gA 39 q)) args s 0 0 (gA 39 q)) (F0 m 171 ls []) := by
  obtain ⟨hx, hb, hr, hml, hown, hts, hlocks⟩ := id C0
  unfold sX9_vote_171 at hp
  refine lv_iconst (v := (0 : Int32)) hx hb dX9_vote_171 (by decide) ?_
  refine lv_istore_n (lv' := [(3, .int ((0 : Int32))), (0, .ref (q (0)))]) hx hb dX9_vote_172 rfl hl (by decide) rfl (fun ls hl => ?_)
  exact kX9_vote_173 C0 hK hJ _ _ _ _ _  hP hS _ (lv_sub hl [1, 0] rfl) hp
def sX9_vote_90 : Nat → Int32 → Int32 → TS → Option (Int32 × TS)
  | 0, _, _, _ => none
  | n + 1, x2, x3, σ => (if ((3 : Int32)) ≤ x3 then (if x2 = ((-1 : Int32)) then sX9_vote_171 σ else (if vin x2 4 = true then (if (σ 20 (x2.toNatClampNeg)) ≤ 0 then sX9_vote_171 σ else (if vin ((σ 20 (x2.toNatClampNeg)) - ((1 : Int32))) 4 = true then sX9_vote_171 (st2 σ 22 (((σ 20 (x2.toNatClampNeg)) - ((1 : Int32))).toNatClampNeg) (σ 21 (x2.toNatClampNeg))) else none)) else none)) else (if vin x3 4 = true then (if (σ 10 (x3.toNatClampNeg)) = 0 then (if x2 = ((-1 : Int32)) then sX9_vote_125 (sX9_vote_90 n) x2 x3 x3 (σ 12 (x3.toNatClampNeg)) σ else ((sX9_areLike x3 x2 σ).bind (fun z => sX9_vote_122 (sX9_vote_90 n) x2 x3 x3 (σ 12 (x3.toNatClampNeg)) z.1 z.2))) else sX9_vote_129 (sX9_vote_90 n) x2 x3 x3 (σ 12 (x3.toNatClampNeg)) σ) else none))
set_option maxHeartbeats 4000000 in
set_option maxRecDepth 100000 in
theorem kX9_vote_90 {r : Int32} {u : TS} (C0 : gC RX9 cX9_vote 5 none wsX9_vote p s m args meth c) (hK : va_K D vwCl (tyL cy) s) (hJ : gJ 39 q) : ∀ (n : Nat) (H : Heap) (locs : List Loc) (σ : TS) (x2 : Int32) (x3 : Int32) (hP : va_P D vwCl (gS 39 q (MX cy q) σ) H) (hS : va_S (gA 39 q) s.heap H locs) (ls : Array Slot) (hl : lv_has ls 5 [(0, .ref (q (0))), (2, .int x2), (3, .int x3)]) (hp : sX9_vote_90 n x2 x3 σ = some (r, u)), W p l e rmX9_vote s m args below meth c H locs 0 0 (MQ below (gQv D vwCl (gS 39 q (MX cy q) u) (gA 39 q)) args s 0 0 (gA 39 q)) (F0 m 90 ls []) := by
  obtain ⟨hx, hb, hr, hml, hown, hts, hlocks⟩ := id C0
  intro n
  induction n with
  | zero =>
    intro H locs σ x2 x3 hP hS ls hl hp
    cases hp
  | succ n ih =>
    intro H locs σ x2 x3 hP hS ls hl hp
    unfold sX9_vote_90 at hp
    refine lv_iload_n hx hb dX9_vote_90 rfl (lv_at hl 2 rfl) ?_
    refine lv_iconst (v := (3 : Int32)) hx hb dX9_vote_91 (by decide) ?_
    refine lv_icmp_ge (tgt := 138) hx hb dX9_vote_92 (by decide) (fun hcd20 => ?_) (fun hcd20 => ?_)
    · have hp := o_t hp hcd20
      refine lv_iload_n hx hb dX9_vote_138 rfl (lv_at hl 1 rfl) ?_
      refine lv_iconst (v := (-1 : Int32)) hx hb dX9_vote_139 (by decide) ?_
      refine lv_icmp_eq (tgt := 171) hx hb dX9_vote_140 (by decide) (fun hcd21 => ?_) (fun hcd21 => ?_)
      · have hp := o_t hp hcd21
        exact kX9_vote_171 C0 hK hJ  hP hS (lv_sub hl [0] rfl) hp
      · have hp := o_f hp hcd21
        refine lv_aload_n hx hb dX9_vote_143 rfl (lv_at hl 0 rfl) ?_
        refine g_get (v := .ref (q (20))) hx hb hts miX9_vote_X9 hown hK hP (kk_Mod) (ce_Mod) rfl 22 (by decide) mwX9_vote_2 rfl dX9_vote_144 ?_
        refine lv_iload_n hx hb dX9_vote_147 rfl (lv_at hl 1 rfl) ?_
        obtain ⟨hi22, hp⟩ := o_chk hp
        refine g_iald (j := x2.toNatClampNeg) hx hb hK hP (kk_M_given) (ce_M_given) 0 rfl (vin_of hi22) rfl dX9_vote_148 ?_
        refine lv_if_le (tgt := 171) hx hb dX9_vote_149 (by decide) (fun hcd23 => ?_) (fun hcd23 => ?_)
        · have hp := o_t hp hcd23
          exact kX9_vote_171 C0 hK hJ  hP hS (lv_sub hl [0] rfl) hp
        · have hp := o_f hp hcd23
          refine lv_aload_n hx hb dX9_vote_152 rfl (lv_at hl 0 rfl) ?_
          refine g_get (v := .ref (q (22))) hx hb hts miX9_vote_X9 hown hK hP (kk_Mod) (ce_Mod) rfl 24 (by decide) mwX9_vote_3 rfl dX9_vote_153 ?_
          refine lv_aload_n hx hb dX9_vote_156 rfl (lv_at hl 0 rfl) ?_
          refine g_get (v := .ref (q (20))) hx hb hts miX9_vote_X9 hown hK hP (kk_Mod) (ce_Mod) rfl 22 (by decide) mwX9_vote_2 rfl dX9_vote_157 ?_
          refine lv_iload_n hx hb dX9_vote_160 rfl (lv_at hl 1 rfl) ?_
          refine g_iald (j := x2.toNatClampNeg) hx hb hK hP (kk_M_given) (ce_M_given) 0 rfl (vin_of hi22) rfl dX9_vote_161 ?_
          refine lv_iconst (v := (1 : Int32)) hx hb dX9_vote_162 (by decide) ?_
          refine lv_isub hx hb dX9_vote_163 ?_
          refine lv_aload_n hx hb dX9_vote_164 rfl (lv_at hl 0 rfl) ?_
          refine g_get (v := .ref (q (21))) hx hb hts miX9_vote_X9 hown hK hP (kk_Mod) (ce_Mod) rfl 23 (by decide) mwX9_vote_4 rfl dX9_vote_165 ?_
          refine lv_iload_n hx hb dX9_vote_168 rfl (lv_at hl 1 rfl) ?_
          refine g_iald (j := x2.toNatClampNeg) hx hb hK hP (kk_M_value) (ce_M_value) 0 rfl (vin_of hi22) rfl dX9_vote_169 ?_
          obtain ⟨hi24, hp⟩ := o_chk hp
          refine g_iast (j := ((σ 20 (x2.toNatClampNeg)) - ((1 : Int32))).toNatClampNeg) hx hb hK hJ hP hS (kk_M_outputs) (ce_M_outputs) 0 rfl (vin_of hi24) rfl dX9_vote_170 (fun H locs hP hS => ?_)
          exact kX9_vote_171 C0 hK hJ  hP hS (lv_sub hl [0] rfl) hp
    · have hp := o_f hp hcd20
      refine lv_aload_n hx hb dX9_vote_95 rfl (lv_at hl 0 rfl) ?_
      refine g_get (v := .ref (q (12))) hx hb hts miX9_vote_X9 hown hK hP (kk_Mod) (ce_Mod) rfl 14 (by decide) mwX9_vote_1 rfl dX9_vote_96 ?_
      refine lv_iload_n hx hb dX9_vote_99 rfl (lv_at hl 2 rfl) ?_
      refine lv_dup2_11 hx hb dX9_vote_100 rfl rfl ?_
      obtain ⟨hi25, hp⟩ := o_chk hp
      refine g_iald (j := x3.toNatClampNeg) hx hb hK hP (kk_M_strikes) (ce_M_strikes) 0 rfl (vin_of hi25) rfl dX9_vote_101 ?_
      refine lv_aload_n hx hb dX9_vote_102 rfl (lv_at hl 0 rfl) ?_
      refine g_get (v := .ref (q (10))) hx hb hts miX9_vote_X9 hown hK hP (kk_Mod) (ce_Mod) rfl 12 (by decide) mwX9_vote_0 rfl dX9_vote_103 ?_
      refine lv_iload_n hx hb dX9_vote_106 rfl (lv_at hl 2 rfl) ?_
      refine g_zald (j := x3.toNatClampNeg) hx hb hK hP (kk_M_isOff) (ce_M_isOff) 1 rfl (vin_of hi25) rfl dX9_vote_107 ?_
      refine lv_if_ne (tgt := 129) hx hb dX9_vote_108 (by decide) (fun hcd26 => ?_) (fun hcd26 => ?_)
      · have hp := o_f hp hcd26
        exact kX9_vote_129 C0 hK hJ ih  hP hS hl hp
      · have hp := o_t hp hcd26
        refine lv_iload_n hx hb dX9_vote_111 rfl (lv_at hl 1 rfl) ?_
        refine lv_iconst (v := (-1 : Int32)) hx hb dX9_vote_112 (by decide) ?_
        refine lv_icmp_eq (tgt := 125) hx hb dX9_vote_113 (by decide) (fun hcd27 => ?_) (fun hcd27 => ?_)
        · have hp := o_t hp hcd27
          exact kX9_vote_125 C0 hK hJ ih  hP hS hl hp
        · have hp := o_f hp hcd27
          refine lv_aload_n hx hb dX9_vote_116 rfl (lv_at hl 0 rfl) ?_
          refine lv_iload_n hx hb dX9_vote_117 rfl (lv_at hl 2 rfl) ?_
          refine lv_iload_n hx hb dX9_vote_118 rfl (lv_at hl 1 rfl) ?_
          obtain ⟨⟨r28, u29⟩, hq30, hp⟩ := o_b hp
          refine g_cVi (As := [.int x3, .int x2]) (rest := [.int (σ 12 (x3.toNatClampNeg)), .int x3, .ref (q (12))]) hx hb hml hown hts hK hP hS (mX9_areLike l hJ hq30) (cwV 2 hts gX9_vote_X9_areLike rfl rfl rfl nVX9_areLike ⟨Nat.le_of_ble_eq_true rfl, Nat.le_of_ble_eq_true rfl⟩) (g_recv hK hP (kk_Mod) (ce_Mod) rfl) rfl hl.1 rfl (Nat.le_of_ble_eq_true rfl) dX9_vote_119 ⟨Nat.le_of_ble_eq_true rfl, Nat.le_of_ble_eq_true rfl⟩ (fun H locs hP hS => ?_)
          exact kX9_vote_122 C0 hK hJ ih  hP hS hl hp
def sX9_vote_21 : Nat → Int32 → Int32 → TS → Option (Int32 × TS)
  | 0, _, _, _ => none
  | n + 1, x2, x3, σ => (if ((3 : Int32)) ≤ x3 then sX9_vote_90 4 x2 ((0 : Int32)) σ else sX9_vote_29 (sX9_vote_21 n) 4 x2 x3 ((0 : Int32)) σ)
set_option maxHeartbeats 4000000 in
set_option maxRecDepth 100000 in
theorem kX9_vote_21 {r : Int32} {u : TS} (C0 : gC RX9 cX9_vote 5 none wsX9_vote p s m args meth c) (hK : va_K D vwCl (tyL cy) s) (hJ : gJ 39 q) : ∀ (n : Nat) (H : Heap) (locs : List Loc) (σ : TS) (x2 : Int32) (x3 : Int32) (hP : va_P D vwCl (gS 39 q (MX cy q) σ) H) (hS : va_S (gA 39 q) s.heap H locs) (ls : Array Slot) (hl : lv_has ls 5 [(0, .ref (q (0))), (2, .int x2), (3, .int x3)]) (hp : sX9_vote_21 n x2 x3 σ = some (r, u)), W p l e rmX9_vote s m args below meth c H locs 0 0 (MQ below (gQv D vwCl (gS 39 q (MX cy q) u) (gA 39 q)) args s 0 0 (gA 39 q)) (F0 m 21 ls []) := by
  obtain ⟨hx, hb, hr, hml, hown, hts, hlocks⟩ := id C0
  intro n
  induction n with
  | zero =>
    intro H locs σ x2 x3 hP hS ls hl hp
    cases hp
  | succ n ih =>
    intro H locs σ x2 x3 hP hS ls hl hp
    unfold sX9_vote_21 at hp
    refine lv_iload_n hx hb dX9_vote_21 rfl (lv_at hl 2 rfl) ?_
    refine lv_iconst (v := (3 : Int32)) hx hb dX9_vote_22 (by decide) ?_
    refine lv_icmp_ge (tgt := 88) hx hb dX9_vote_23 (by decide) (fun hcd31 => ?_) (fun hcd31 => ?_)
    · have hp := o_t hp hcd31
      refine lv_iconst (v := (0 : Int32)) hx hb dX9_vote_88 (by decide) ?_
      refine lv_istore_n (lv' := [(3, .int ((0 : Int32))), (0, .ref (q (0))), (2, .int x2)]) hx hb dX9_vote_89 rfl hl (by decide) rfl (fun ls hl => ?_)
      exact kX9_vote_90 C0 hK hJ _ _ _ _ _ _  hP hS _ (lv_sub hl [1, 2, 0] rfl) hp
    · have hp := o_f hp hcd31
      refine lv_iconst (v := (0 : Int32)) hx hb dX9_vote_26 (by decide) ?_
      refine lv_istore (lv' := [(4, .int ((0 : Int32))), (0, .ref (q (0))), (2, .int x2), (3, .int x3)]) hx hb dX9_vote_27 hl (by decide) rfl (fun ls hl => ?_)
      exact kX9_vote_29 C0 hK hJ ih _ _ _ _ _ _ _  hP hS _ (lv_sub hl [1, 2, 3, 0] rfl) hp
def sX9_vote_18 (sx0 : Int32) (σ : TS) : Option (Int32 × TS) := sX9_vote_21 4 sx0 ((0 : Int32)) σ
set_option maxHeartbeats 4000000 in
set_option maxRecDepth 100000 in
theorem kX9_vote_18 {r : Int32} {u : TS} (C0 : gC RX9 cX9_vote 5 none wsX9_vote p s m args meth c) (hK : va_K D vwCl (tyL cy) s) (hJ : gJ 39 q) {H : Heap} {locs : List Loc} {σ : TS} {sx0 : Int32} (hP : va_P D vwCl (gS 39 q (MX cy q) σ) H) (hS : va_S (gA 39 q) s.heap H locs) {ls : Array Slot} (hl : lv_has ls 5 [(0, .ref (q (0)))]) (hp : sX9_vote_18 sx0 σ = some (r, u)) : W p l e rmX9_vote s m args below meth c H locs 0 0 (MQ below (gQv D vwCl (gS 39 q (MX cy q) u) (gA 39 q)) args s 0 0 (gA 39 q)) (F0 m 18 ls [.int sx0]) := by
  obtain ⟨hx, hb, hr, hml, hown, hts, hlocks⟩ := id C0
  unfold sX9_vote_18 at hp
  refine lv_istore_n (lv' := [(2, .int sx0), (0, .ref (q (0)))]) hx hb dX9_vote_18 rfl hl (by decide) rfl (fun ls hl => ?_)
  refine lv_iconst (v := (0 : Int32)) hx hb dX9_vote_19 (by decide) ?_
  refine lv_istore_n (lv' := [(3, .int ((0 : Int32))), (2, .int sx0), (0, .ref (q (0)))]) hx hb dX9_vote_20 rfl hl (by decide) rfl (fun ls hl => ?_)
  exact kX9_vote_21 C0 hK hJ _ _ _ _ _ _  hP hS _ (lv_sub hl [2, 1, 0] rfl) hp
def sX9_vote_14 (sx0 : Int32) (σ : TS) : Option (Int32 × TS) := sX9_vote_18 sx0 σ
set_option maxHeartbeats 4000000 in
set_option maxRecDepth 100000 in
theorem kX9_vote_14 {r : Int32} {u : TS} (C0 : gC RX9 cX9_vote 5 none wsX9_vote p s m args meth c) (hK : va_K D vwCl (tyL cy) s) (hJ : gJ 39 q) {H : Heap} {locs : List Loc} {σ : TS} {sx0 : Int32} (hP : va_P D vwCl (gS 39 q (MX cy q) σ) H) (hS : va_S (gA 39 q) s.heap H locs) {ls : Array Slot} (hl : lv_has ls 5 [(0, .ref (q (0)))]) (hp : sX9_vote_14 sx0 σ = some (r, u)) : W p l e rmX9_vote s m args below meth c H locs 0 0 (MQ below (gQv D vwCl (gS 39 q (MX cy q) u) (gA 39 q)) args s 0 0 (gA 39 q)) (F0 m 14 ls [.int sx0]) := by
  obtain ⟨hx, hb, hr, hml, hown, hts, hlocks⟩ := id C0
  unfold sX9_vote_14 at hp
  refine lv_goto (tgt := 18) hx hb dX9_vote_14 (by decide) ?_
  exact kX9_vote_18 C0 hK hJ  hP hS hl hp
def sX9_vote_4 (sx0 : Int32) (σ : TS) : Option (Int32 × TS) := (if sx0 = ((1 : Int32)) then ((sX9_lowest σ).bind (fun z => sX9_vote_14 z.1 z.2)) else sX9_vote_18 ((-1 : Int32)) σ)
set_option maxHeartbeats 4000000 in
set_option maxRecDepth 100000 in
theorem kX9_vote_4 {r : Int32} {u : TS} (C0 : gC RX9 cX9_vote 5 none wsX9_vote p s m args meth c) (hK : va_K D vwCl (tyL cy) s) (hJ : gJ 39 q) {H : Heap} {locs : List Loc} {σ : TS} {sx0 : Int32} (hP : va_P D vwCl (gS 39 q (MX cy q) σ) H) (hS : va_S (gA 39 q) s.heap H locs) {ls : Array Slot} (hl : lv_has ls 5 [(0, .ref (q (0)))]) (hp : sX9_vote_4 sx0 σ = some (r, u)) : W p l e rmX9_vote s m args below meth c H locs 0 0 (MQ below (gQv D vwCl (gS 39 q (MX cy q) u) (gA 39 q)) args s 0 0 (gA 39 q)) (F0 m 4 ls [.int sx0]) := by
  obtain ⟨hx, hb, hr, hml, hown, hts, hlocks⟩ := id C0
  unfold sX9_vote_4 at hp
  refine lv_istore_n (lv' := [(1, .int sx0), (0, .ref (q (0)))]) hx hb dX9_vote_4 rfl hl (by decide) rfl (fun ls hl => ?_)
  refine lv_iload_n hx hb dX9_vote_5 rfl (lv_at hl 0 rfl) ?_
  refine lv_iconst (v := (1 : Int32)) hx hb dX9_vote_6 (by decide) ?_
  refine lv_icmp_ne (tgt := 17) hx hb dX9_vote_7 (by decide) (fun hcd32 => ?_) (fun hcd32 => ?_)
  · have hp := o_f hp hcd32
    refine lv_iconst (v := (-1 : Int32)) hx hb dX9_vote_17 (by decide) ?_
    exact kX9_vote_18 C0 hK hJ  hP hS (lv_sub hl [1] rfl) hp
  · have hp := o_t hp hcd32
    refine lv_aload_n hx hb dX9_vote_10 rfl (lv_at hl 1 rfl) ?_
    obtain ⟨⟨r33, u34⟩, hq35, hp⟩ := o_b hp
    refine g_cVi (As := []) (rest := []) hx hb hml hown hts hK hP hS (mX9_lowest l hJ hq35) (cwV 0 hts gX9_vote_X9_lowest rfl rfl rfl nVX9_lowest ⟨Nat.le_of_ble_eq_true rfl, Nat.le_of_ble_eq_true rfl⟩) (g_recv hK hP (kk_Mod) (ce_Mod) rfl) rfl hl.1 rfl (Nat.le_of_ble_eq_true rfl) dX9_vote_11 ⟨Nat.le_of_ble_eq_true rfl, Nat.le_of_ble_eq_true rfl⟩ (fun H locs hP hS => ?_)
    exact kX9_vote_14 C0 hK hJ  hP hS (lv_sub hl [1] rfl) hp
def sX9_vote_0 (σ : TS) : Option (Int32 × TS) := ((sX9_on σ).bind (fun z => sX9_vote_4 z.1 z.2))
set_option maxHeartbeats 4000000 in
set_option maxRecDepth 100000 in
theorem kX9_vote_0 {r : Int32} {u : TS} (C0 : gC RX9 cX9_vote 5 none wsX9_vote p s m args meth c) (hK : va_K D vwCl (tyL cy) s) (hJ : gJ 39 q) {H : Heap} {locs : List Loc} {σ : TS} (hP : va_P D vwCl (gS 39 q (MX cy q) σ) H) (hS : va_S (gA 39 q) s.heap H locs) {ls : Array Slot} (hl : lv_has ls 5 [(0, .ref (q (0)))]) (hp : sX9_vote_0 σ = some (r, u)) : W p l e rmX9_vote s m args below meth c H locs 0 0 (MQ below (gQv D vwCl (gS 39 q (MX cy q) u) (gA 39 q)) args s 0 0 (gA 39 q)) (F0 m 0 ls []) := by
  obtain ⟨hx, hb, hr, hml, hown, hts, hlocks⟩ := id C0
  unfold sX9_vote_0 at hp
  refine lv_aload_n hx hb dX9_vote_0 rfl (lv_at hl 0 rfl) ?_
  obtain ⟨⟨r36, u37⟩, hq38, hp⟩ := o_b hp
  refine g_cVi (As := []) (rest := []) hx hb hml hown hts hK hP hS (mX9_on l hJ hq38) (cwV 0 hts gX9_vote_X9_on rfl rfl rfl nVX9_on ⟨Nat.le_of_ble_eq_true rfl, Nat.le_of_ble_eq_true rfl⟩) (g_recv hK hP (kk_Mod) (ce_Mod) rfl) rfl hl.1 rfl (Nat.le_of_ble_eq_true rfl) dX9_vote_1 ⟨Nat.le_of_ble_eq_true rfl, Nat.le_of_ble_eq_true rfl⟩ (fun H locs hP hS => ?_)
  exact kX9_vote_4 C0 hK hJ  hP hS hl hp
def sX9_vote (σ : TS) : Option (Int32 × TS) := sX9_vote_0 σ
theorem nVX9_vote : yX9_vote.cls = RX9 ∧ yX9_vote.cls ≠ "java/lang/invoke/MethodHandle" ∧ yX9_vote.cls ≠ "java/lang/invoke/VarHandle" ∧ (parseMethodDescriptor yX9_vote.desc).map (fun d => d.parameters.length) = some 0 := by decide +kernel
set_option maxHeartbeats 4000000 in
set_option maxRecDepth 100000 in
theorem mX9_vote (l : Launch) (hJ : gJ 39 q) {σ : TS} {r : Int32} {u : TS} (hp : sX9_vote σ = some (r, u)) : Met l yX9_vote wsX9_vote rmX9_vote (va_Pc [.ref (q (0))] (gPre D vwCl (tyL cy) (gS 39 q (MX cy q) σ))) (gQv D vwCl (gS 39 q (MX cy q) u) (gA 39 q)) 0 0 (gA 39 q) := by
  refine Met.ofW (cc := cX9_vote) (maxL := 5) (ret := none) (by decide +kernel) rfl ?_
  intro p e s m args below meth c s₁ B hml hv
  obtain ⟨rfl, hP, hK⟩ := hv
  have hl := lv_entry ([.ref (q (0))]) (n := 5) (Nat.le_of_ble_eq_true rfl)
  rw [lg_entry_eq]
  generalize (lg_sl ([.ref (q (0))]) ++ List.replicate (5 - (lg_sl ([.ref (q (0))])).length) Slot.unset).toArray = ls at hl ⊢
  have hl : lv_has ls 5 [(0, .ref (q (0)))] := hl
  exact kX9_vote_0 ⟨B.exec, B.bytes, B.returns, hml, findClass_of_methodNamed B.named, atoms_spec (ws := wsX9_vote) B.pre, B.notSynchronized⟩ hK hJ  hP va_S.rf hl hp
abbrev rmX9_areDone : Room := { frames := 1, cells := 0, slots := 0, locals := 22 }
def sX9_areDone_32 (sx0 : Int32) (σ : TS) : Option (Int32 × TS) := (if zok sx0 = true then some (sx0, σ) else none)
set_option maxHeartbeats 4000000 in
set_option maxRecDepth 100000 in
theorem kX9_areDone_32 {r : Int32} {u : TS} (C0 : gC RX9 cX9_areDone 2 ((some .boolean)) wsX9_areDone p s m args meth c) (hK : va_K D vwCl (tyL cy) s) (hJ : gJ 39 q) {H : Heap} {locs : List Loc} {σ : TS} {sx0 : Int32} (hP : va_P D vwCl (gS 39 q (MX cy q) σ) H) (hS : va_S (gA 39 q) s.heap H locs) {ls : Array Slot} (hl : lv_has ls 2 []) (hp : sX9_areDone_32 sx0 σ = some (r, u)) : W p l e rmX9_areDone s m args below meth c H locs 0 0 (MQ below (gQi D vwCl r (gS 39 q (MX cy q) u) (gA 39 q)) args s 0 0 (gA 39 q)) (F0 m 32 ls [.int sx0]) := by
  obtain ⟨hx, hb, hr, hml, hown, hts, hlocks⟩ := id C0
  unfold sX9_areDone_32 at hp
  obtain ⟨hz1, hp⟩ := o_chk hp
  obtain ⟨rfl, rfl⟩ := o_r hp
  exact W.zret (v := sx0) hx hb hr (zok_n hz1).1 (fun t ht hW => ⟨⟨sx0, (), rfl, rfl, by subst ht; exact hP⟩, hS.F ht⟩) hS.2.2 dX9_areDone_32
def sX9_areDone_31 (σ : TS) : Option (Int32 × TS) := sX9_areDone_32 ((0 : Int32)) σ
set_option maxHeartbeats 4000000 in
set_option maxRecDepth 100000 in
theorem kX9_areDone_31 {r : Int32} {u : TS} (C0 : gC RX9 cX9_areDone 2 ((some .boolean)) wsX9_areDone p s m args meth c) (hK : va_K D vwCl (tyL cy) s) (hJ : gJ 39 q) {H : Heap} {locs : List Loc} {σ : TS} (hP : va_P D vwCl (gS 39 q (MX cy q) σ) H) (hS : va_S (gA 39 q) s.heap H locs) {ls : Array Slot} (hl : lv_has ls 2 []) (hp : sX9_areDone_31 σ = some (r, u)) : W p l e rmX9_areDone s m args below meth c H locs 0 0 (MQ below (gQi D vwCl r (gS 39 q (MX cy q) u) (gA 39 q)) args s 0 0 (gA 39 q)) (F0 m 31 ls []) := by
  obtain ⟨hx, hb, hr, hml, hown, hts, hlocks⟩ := id C0
  unfold sX9_areDone_31 at hp
  refine lv_iconst (v := (0 : Int32)) hx hb dX9_areDone_31 (by decide) ?_
  exact kX9_areDone_32 C0 hK hJ  hP hS hl hp
def sX9_areDone_24 (sx0 : Int32) (σ : TS) : Option (Int32 × TS) := (if sx0 = 0 then sX9_areDone_31 σ else sX9_areDone_32 ((1 : Int32)) σ)
set_option maxHeartbeats 4000000 in
set_option maxRecDepth 100000 in
theorem kX9_areDone_24 {r : Int32} {u : TS} (C0 : gC RX9 cX9_areDone 2 ((some .boolean)) wsX9_areDone p s m args meth c) (hK : va_K D vwCl (tyL cy) s) (hJ : gJ 39 q) {H : Heap} {locs : List Loc} {σ : TS} {sx0 : Int32} (hP : va_P D vwCl (gS 39 q (MX cy q) σ) H) (hS : va_S (gA 39 q) s.heap H locs) {ls : Array Slot} (hl : lv_has ls 2 []) (hp : sX9_areDone_24 sx0 σ = some (r, u)) : W p l e rmX9_areDone s m args below meth c H locs 0 0 (MQ below (gQi D vwCl r (gS 39 q (MX cy q) u) (gA 39 q)) args s 0 0 (gA 39 q)) (F0 m 24 ls [.int sx0]) := by
  obtain ⟨hx, hb, hr, hml, hown, hts, hlocks⟩ := id C0
  unfold sX9_areDone_24 at hp
  refine lv_if_eq (tgt := 31) hx hb dX9_areDone_24 (by decide) (fun hcd2 => ?_) (fun hcd2 => ?_)
  · have hp := o_t hp hcd2
    exact kX9_areDone_31 C0 hK hJ  hP hS hl hp
  · have hp := o_f hp hcd2
    refine lv_iconst (v := (1 : Int32)) hx hb dX9_areDone_27 (by decide) ?_
    refine lv_goto (tgt := 32) hx hb dX9_areDone_28 (by decide) ?_
    exact kX9_areDone_32 C0 hK hJ  hP hS hl hp
def sX9_areDone_15 (x1 : Int32) (sx0 : Int32) (σ : TS) : Option (Int32 × TS) := (if sx0 = 0 then sX9_areDone_31 σ else ((sX9_isDone ((2 : Int32)) x1 σ).bind (fun z => sX9_areDone_24 z.1 z.2)))
set_option maxHeartbeats 4000000 in
set_option maxRecDepth 100000 in
theorem kX9_areDone_15 {r : Int32} {u : TS} (C0 : gC RX9 cX9_areDone 2 ((some .boolean)) wsX9_areDone p s m args meth c) (hK : va_K D vwCl (tyL cy) s) (hJ : gJ 39 q) {H : Heap} {locs : List Loc} {σ : TS} {x1 : Int32} {sx0 : Int32} (hP : va_P D vwCl (gS 39 q (MX cy q) σ) H) (hS : va_S (gA 39 q) s.heap H locs) {ls : Array Slot} (hl : lv_has ls 2 [(0, .ref (q (0))), (1, .int x1)]) (hp : sX9_areDone_15 x1 sx0 σ = some (r, u)) : W p l e rmX9_areDone s m args below meth c H locs 0 0 (MQ below (gQi D vwCl r (gS 39 q (MX cy q) u) (gA 39 q)) args s 0 0 (gA 39 q)) (F0 m 15 ls [.int sx0]) := by
  obtain ⟨hx, hb, hr, hml, hown, hts, hlocks⟩ := id C0
  unfold sX9_areDone_15 at hp
  refine lv_if_eq (tgt := 31) hx hb dX9_areDone_15 (by decide) (fun hcd3 => ?_) (fun hcd3 => ?_)
  · have hp := o_t hp hcd3
    exact kX9_areDone_31 C0 hK hJ  hP hS (lv_sub hl [] rfl) hp
  · have hp := o_f hp hcd3
    refine lv_aload_n hx hb dX9_areDone_18 rfl (lv_at hl 0 rfl) ?_
    refine lv_iconst (v := (2 : Int32)) hx hb dX9_areDone_19 (by decide) ?_
    refine lv_iload_n hx hb dX9_areDone_20 rfl (lv_at hl 1 rfl) ?_
    obtain ⟨⟨r4, u5⟩, hq6, hp⟩ := o_b hp
    refine g_cVi (As := [.int ((2 : Int32)), .int x1]) (rest := []) hx hb hml hown hts hK hP hS (mX9_isDone l hJ hq6) (cwV 2 hts gX9_areDone_X9_isDone rfl rfl rfl nVX9_isDone ⟨Nat.le_of_ble_eq_true rfl, Nat.le_of_ble_eq_true rfl⟩) (g_recv hK hP (kk_Mod) (ce_Mod) rfl) rfl hl.1 rfl (Nat.le_of_ble_eq_true rfl) dX9_areDone_21 ⟨Nat.le_of_ble_eq_true rfl, Nat.le_of_ble_eq_true rfl⟩ (fun H locs hP hS => ?_)
    exact kX9_areDone_24 C0 hK hJ  hP hS (lv_sub hl [] rfl) hp
def sX9_areDone_6 (x1 : Int32) (sx0 : Int32) (σ : TS) : Option (Int32 × TS) := (if sx0 = 0 then sX9_areDone_31 σ else ((sX9_isDone ((1 : Int32)) x1 σ).bind (fun z => sX9_areDone_15 x1 z.1 z.2)))
set_option maxHeartbeats 4000000 in
set_option maxRecDepth 100000 in
theorem kX9_areDone_6 {r : Int32} {u : TS} (C0 : gC RX9 cX9_areDone 2 ((some .boolean)) wsX9_areDone p s m args meth c) (hK : va_K D vwCl (tyL cy) s) (hJ : gJ 39 q) {H : Heap} {locs : List Loc} {σ : TS} {x1 : Int32} {sx0 : Int32} (hP : va_P D vwCl (gS 39 q (MX cy q) σ) H) (hS : va_S (gA 39 q) s.heap H locs) {ls : Array Slot} (hl : lv_has ls 2 [(0, .ref (q (0))), (1, .int x1)]) (hp : sX9_areDone_6 x1 sx0 σ = some (r, u)) : W p l e rmX9_areDone s m args below meth c H locs 0 0 (MQ below (gQi D vwCl r (gS 39 q (MX cy q) u) (gA 39 q)) args s 0 0 (gA 39 q)) (F0 m 6 ls [.int sx0]) := by
  obtain ⟨hx, hb, hr, hml, hown, hts, hlocks⟩ := id C0
  unfold sX9_areDone_6 at hp
  refine lv_if_eq (tgt := 31) hx hb dX9_areDone_6 (by decide) (fun hcd7 => ?_) (fun hcd7 => ?_)
  · have hp := o_t hp hcd7
    exact kX9_areDone_31 C0 hK hJ  hP hS (lv_sub hl [] rfl) hp
  · have hp := o_f hp hcd7
    refine lv_aload_n hx hb dX9_areDone_9 rfl (lv_at hl 0 rfl) ?_
    refine lv_iconst (v := (1 : Int32)) hx hb dX9_areDone_10 (by decide) ?_
    refine lv_iload_n hx hb dX9_areDone_11 rfl (lv_at hl 1 rfl) ?_
    obtain ⟨⟨r8, u9⟩, hq10, hp⟩ := o_b hp
    refine g_cVi (As := [.int ((1 : Int32)), .int x1]) (rest := []) hx hb hml hown hts hK hP hS (mX9_isDone l hJ hq10) (cwV 2 hts gX9_areDone_X9_isDone rfl rfl rfl nVX9_isDone ⟨Nat.le_of_ble_eq_true rfl, Nat.le_of_ble_eq_true rfl⟩) (g_recv hK hP (kk_Mod) (ce_Mod) rfl) rfl hl.1 rfl (Nat.le_of_ble_eq_true rfl) dX9_areDone_12 ⟨Nat.le_of_ble_eq_true rfl, Nat.le_of_ble_eq_true rfl⟩ (fun H locs hP hS => ?_)
    exact kX9_areDone_15 C0 hK hJ  hP hS hl hp
def sX9_areDone_0 (x1 : Int32) (σ : TS) : Option (Int32 × TS) := ((sX9_isDone ((0 : Int32)) x1 σ).bind (fun z => sX9_areDone_6 x1 z.1 z.2))
set_option maxHeartbeats 4000000 in
set_option maxRecDepth 100000 in
theorem kX9_areDone_0 {r : Int32} {u : TS} (C0 : gC RX9 cX9_areDone 2 ((some .boolean)) wsX9_areDone p s m args meth c) (hK : va_K D vwCl (tyL cy) s) (hJ : gJ 39 q) {H : Heap} {locs : List Loc} {σ : TS} {x1 : Int32} (hP : va_P D vwCl (gS 39 q (MX cy q) σ) H) (hS : va_S (gA 39 q) s.heap H locs) {ls : Array Slot} (hl : lv_has ls 2 [(0, .ref (q (0))), (1, .int x1)]) (hp : sX9_areDone_0 x1 σ = some (r, u)) : W p l e rmX9_areDone s m args below meth c H locs 0 0 (MQ below (gQi D vwCl r (gS 39 q (MX cy q) u) (gA 39 q)) args s 0 0 (gA 39 q)) (F0 m 0 ls []) := by
  obtain ⟨hx, hb, hr, hml, hown, hts, hlocks⟩ := id C0
  unfold sX9_areDone_0 at hp
  refine lv_aload_n hx hb dX9_areDone_0 rfl (lv_at hl 0 rfl) ?_
  refine lv_iconst (v := (0 : Int32)) hx hb dX9_areDone_1 (by decide) ?_
  refine lv_iload_n hx hb dX9_areDone_2 rfl (lv_at hl 1 rfl) ?_
  obtain ⟨⟨r11, u12⟩, hq13, hp⟩ := o_b hp
  refine g_cVi (As := [.int ((0 : Int32)), .int x1]) (rest := []) hx hb hml hown hts hK hP hS (mX9_isDone l hJ hq13) (cwV 2 hts gX9_areDone_X9_isDone rfl rfl rfl nVX9_isDone ⟨Nat.le_of_ble_eq_true rfl, Nat.le_of_ble_eq_true rfl⟩) (g_recv hK hP (kk_Mod) (ce_Mod) rfl) rfl hl.1 rfl (Nat.le_of_ble_eq_true rfl) dX9_areDone_3 ⟨Nat.le_of_ble_eq_true rfl, Nat.le_of_ble_eq_true rfl⟩ (fun H locs hP hS => ?_)
  exact kX9_areDone_6 C0 hK hJ  hP hS hl hp
def sX9_areDone (x1 : Int32) (σ : TS) : Option (Int32 × TS) := sX9_areDone_0 x1 σ
theorem nVX9_areDone : yX9_areDone.cls = RX9 ∧ yX9_areDone.cls ≠ "java/lang/invoke/MethodHandle" ∧ yX9_areDone.cls ≠ "java/lang/invoke/VarHandle" ∧ (parseMethodDescriptor yX9_areDone.desc).map (fun d => d.parameters.length) = some 1 := by decide +kernel
set_option maxHeartbeats 4000000 in
set_option maxRecDepth 100000 in
theorem mX9_areDone (l : Launch) (hJ : gJ 39 q) {x1 : Int32} {σ : TS} {r : Int32} {u : TS} (hp : sX9_areDone x1 σ = some (r, u)) : Met l yX9_areDone wsX9_areDone rmX9_areDone (va_Pc [.ref (q (0)), .int x1] (gPre D vwCl (tyL cy) (gS 39 q (MX cy q) σ))) (gQi D vwCl r (gS 39 q (MX cy q) u) (gA 39 q)) 0 0 (gA 39 q) := by
  refine Met.ofW (cc := cX9_areDone) (maxL := 2) (ret := (some .boolean)) (by decide +kernel) rfl ?_
  intro p e s m args below meth c s₁ B hml hv
  obtain ⟨rfl, hP, hK⟩ := hv
  have hl := lv_entry ([.ref (q (0)), .int x1]) (n := 2) (Nat.le_of_ble_eq_true rfl)
  rw [lg_entry_eq]
  generalize (lg_sl ([.ref (q (0)), .int x1]) ++ List.replicate (2 - (lg_sl ([.ref (q (0)), .int x1])).length) Slot.unset).toArray = ls at hl ⊢
  have hl : lv_has ls 2 [(0, .ref (q (0))), (1, .int x1)] := hl
  exact kX9_areDone_0 ⟨B.exec, B.bytes, B.returns, hml, findClass_of_methodNamed B.named, atoms_spec (ws := wsX9_areDone) B.pre, B.notSynchronized⟩ hK hJ  hP va_S.rf hl hp
theorem miX9_run_X9 : ∀ w ∈ u_ws RX9 TX9 44, w ∈ wsX9_run := by decide +kernel
theorem mwX9_run_0 : Cond.fieldLink RX9 69 "TriplaneModel" "given" "[I" ∈ wsX9_run := by decide +kernel
theorem mwX9_run_1 : Cond.fieldLink RX9 78 "TriplaneModel" "plainOutputs" "[I" ∈ wsX9_run := by decide +kernel
theorem mwX9_run_2 : Cond.fieldLink RX9 72 "TriplaneModel" "value" "[I" ∈ wsX9_run := by decide +kernel
theorem mwX9_run_3 : Cond.fieldLink RX9 81 "TriplaneModel" "overruns" "[I" ∈ wsX9_run := by decide +kernel
abbrev rmX9_run : Room := { frames := 4, cells := 0, slots := 0, locals := 95 }
def sX9_run_12 (K2 : Int32 → Int32 → TS → Option (Int32 × TS)) (x1 : Int32) (x2 : Int32) (σ : TS) : Option (Int32 × TS) := K2 x1 (x2 + (1 : Int32)) σ
set_option maxHeartbeats 4000000 in
set_option maxRecDepth 100000 in
theorem kX9_run_12 {r : Int32} {u : TS} {K2 : Int32 → Int32 → TS → Option (Int32 × TS)} (C0 : gC RX9 cX9_run 3 none wsX9_run p s m args meth c) (hK : va_K D vwCl (tyL cy) s) (hJ : gJ 39 q) (kh2 : ∀ (H : Heap) (locs : List Loc) (σ : TS) (x1 : Int32) (x2 : Int32) (hP : va_P D vwCl (gS 39 q (MX cy q) σ) H) (hS : va_S (gA 39 q) s.heap H locs) (ls : Array Slot) (hl : lv_has ls 3 [(0, .ref (q (0))), (1, .int x1), (2, .int x2)]) (hp : K2 x1 x2 σ = some (r, u)), W p l e rmX9_run s m args below meth c H locs 0 0 (MQ below (gQv D vwCl (gS 39 q (MX cy q) u) (gA 39 q)) args s 0 0 (gA 39 q)) (F0 m 2 ls [])) {H : Heap} {locs : List Loc} {σ : TS} {x1 : Int32} {x2 : Int32} (hP : va_P D vwCl (gS 39 q (MX cy q) σ) H) (hS : va_S (gA 39 q) s.heap H locs) {ls : Array Slot} (hl : lv_has ls 3 [(0, .ref (q (0))), (1, .int x1), (2, .int x2)]) (hp : sX9_run_12 K2 x1 x2 σ = some (r, u)) : W p l e rmX9_run s m args below meth c H locs 0 0 (MQ below (gQv D vwCl (gS 39 q (MX cy q) u) (gA 39 q)) args s 0 0 (gA 39 q)) (F0 m 12 ls []) := by
  obtain ⟨hx, hb, hr, hml, hown, hts, hlocks⟩ := id C0
  unfold sX9_run_12 at hp
  refine lv_iinc (v := x2 + (1 : Int32)) (lv' := [(2, .int (x2 + (1 : Int32))), (0, .ref (q (0))), (1, .int x1)]) hx hb dX9_run_12 hl (k := 2) rfl rfl (by decide) rfl (fun ls hl => ?_)
  refine lv_goto (tgt := 2) hx hb dX9_run_15 (by decide) ?_
  exact kh2 _ _ _ _ _  hP hS _ (lv_sub hl [1, 2, 0] rfl) hp
def sX9_run_90 (K20 : Int32 → Int32 → TS → Option (Int32 × TS)) (x1 : Int32) (x2 : Int32) (σ : TS) : Option (Int32 × TS) := K20 x1 (x2 + (1 : Int32)) σ
set_option maxHeartbeats 4000000 in
set_option maxRecDepth 100000 in
theorem kX9_run_90 {r : Int32} {u : TS} {K20 : Int32 → Int32 → TS → Option (Int32 × TS)} (C0 : gC RX9 cX9_run 3 none wsX9_run p s m args meth c) (hK : va_K D vwCl (tyL cy) s) (hJ : gJ 39 q) (kh20 : ∀ (H : Heap) (locs : List Loc) (σ : TS) (x1 : Int32) (x2 : Int32) (hP : va_P D vwCl (gS 39 q (MX cy q) σ) H) (hS : va_S (gA 39 q) s.heap H locs) (ls : Array Slot) (hl : lv_has ls 3 [(0, .ref (q (0))), (1, .int x1), (2, .int x2)]) (hp : K20 x1 x2 σ = some (r, u)), W p l e rmX9_run s m args below meth c H locs 0 0 (MQ below (gQv D vwCl (gS 39 q (MX cy q) u) (gA 39 q)) args s 0 0 (gA 39 q)) (F0 m 20 ls [])) {H : Heap} {locs : List Loc} {σ : TS} {x1 : Int32} {x2 : Int32} (hP : va_P D vwCl (gS 39 q (MX cy q) σ) H) (hS : va_S (gA 39 q) s.heap H locs) {ls : Array Slot} (hl : lv_has ls 3 [(0, .ref (q (0))), (1, .int x1), (2, .int x2)]) (hp : sX9_run_90 K20 x1 x2 σ = some (r, u)) : W p l e rmX9_run s m args below meth c H locs 0 0 (MQ below (gQv D vwCl (gS 39 q (MX cy q) u) (gA 39 q)) args s 0 0 (gA 39 q)) (F0 m 90 ls []) := by
  obtain ⟨hx, hb, hr, hml, hown, hts, hlocks⟩ := id C0
  unfold sX9_run_90 at hp
  refine lv_iinc (v := x2 + (1 : Int32)) (lv' := [(2, .int (x2 + (1 : Int32))), (0, .ref (q (0))), (1, .int x1)]) hx hb dX9_run_90 hl (k := 2) rfl rfl (by decide) rfl (fun ls hl => ?_)
  refine lv_goto (tgt := 20) hx hb dX9_run_93 (by decide) ?_
  exact kh20 _ _ _ _ _  hP hS _ (lv_sub hl [1, 2, 0] rfl) hp
def sX9_run_86 (K20 : Int32 → Int32 → TS → Option (Int32 × TS)) (x1 : Int32) (x2 : Int32) (σ : TS) : Option (Int32 × TS) := ((sX9_vote σ).bind (fun z => sX9_run_90 K20 x1 x2 z.2))
set_option maxHeartbeats 4000000 in
set_option maxRecDepth 100000 in
theorem kX9_run_86 {r : Int32} {u : TS} {K20 : Int32 → Int32 → TS → Option (Int32 × TS)} (C0 : gC RX9 cX9_run 3 none wsX9_run p s m args meth c) (hK : va_K D vwCl (tyL cy) s) (hJ : gJ 39 q) (kh20 : ∀ (H : Heap) (locs : List Loc) (σ : TS) (x1 : Int32) (x2 : Int32) (hP : va_P D vwCl (gS 39 q (MX cy q) σ) H) (hS : va_S (gA 39 q) s.heap H locs) (ls : Array Slot) (hl : lv_has ls 3 [(0, .ref (q (0))), (1, .int x1), (2, .int x2)]) (hp : K20 x1 x2 σ = some (r, u)), W p l e rmX9_run s m args below meth c H locs 0 0 (MQ below (gQv D vwCl (gS 39 q (MX cy q) u) (gA 39 q)) args s 0 0 (gA 39 q)) (F0 m 20 ls [])) {H : Heap} {locs : List Loc} {σ : TS} {x1 : Int32} {x2 : Int32} (hP : va_P D vwCl (gS 39 q (MX cy q) σ) H) (hS : va_S (gA 39 q) s.heap H locs) {ls : Array Slot} (hl : lv_has ls 3 [(0, .ref (q (0))), (1, .int x1), (2, .int x2)]) (hp : sX9_run_86 K20 x1 x2 σ = some (r, u)) : W p l e rmX9_run s m args below meth c H locs 0 0 (MQ below (gQv D vwCl (gS 39 q (MX cy q) u) (gA 39 q)) args s 0 0 (gA 39 q)) (F0 m 86 ls []) := by
  obtain ⟨hx, hb, hr, hml, hown, hts, hlocks⟩ := id C0
  unfold sX9_run_86 at hp
  refine lv_aload_n hx hb dX9_run_86 rfl (lv_at hl 0 rfl) ?_
  obtain ⟨⟨r1, u2⟩, hq3, hp⟩ := o_b hp
  refine g_cVv (As := []) (rest := []) hx hb hml hown hts hK hP hS (mX9_vote l hJ hq3) (cwV 0 hts gX9_run_X9_vote rfl rfl rfl nVX9_vote ⟨Nat.le_of_ble_eq_true rfl, Nat.le_of_ble_eq_true rfl⟩) (g_recv hK hP (kk_Mod) (ce_Mod) rfl) rfl hl.1 rfl (Nat.le_of_ble_eq_true rfl) dX9_run_87 ⟨Nat.le_of_ble_eq_true rfl, Nat.le_of_ble_eq_true rfl⟩ (fun H locs hP hS => ?_)
  exact kX9_run_90 C0 hK hJ kh20  hP hS hl hp
def sX9_run_80 (K20 : Int32 → Int32 → TS → Option (Int32 × TS)) (x1 : Int32) (x2 : Int32) (σ : TS) : Option (Int32 × TS) := ((sX9_does ((2 : Int32)) x1 σ).bind (fun z => sX9_run_86 K20 x1 x2 z.2))
set_option maxHeartbeats 4000000 in
set_option maxRecDepth 100000 in
theorem kX9_run_80 {r : Int32} {u : TS} {K20 : Int32 → Int32 → TS → Option (Int32 × TS)} (C0 : gC RX9 cX9_run 3 none wsX9_run p s m args meth c) (hK : va_K D vwCl (tyL cy) s) (hJ : gJ 39 q) (kh20 : ∀ (H : Heap) (locs : List Loc) (σ : TS) (x1 : Int32) (x2 : Int32) (hP : va_P D vwCl (gS 39 q (MX cy q) σ) H) (hS : va_S (gA 39 q) s.heap H locs) (ls : Array Slot) (hl : lv_has ls 3 [(0, .ref (q (0))), (1, .int x1), (2, .int x2)]) (hp : K20 x1 x2 σ = some (r, u)), W p l e rmX9_run s m args below meth c H locs 0 0 (MQ below (gQv D vwCl (gS 39 q (MX cy q) u) (gA 39 q)) args s 0 0 (gA 39 q)) (F0 m 20 ls [])) {H : Heap} {locs : List Loc} {σ : TS} {x1 : Int32} {x2 : Int32} (hP : va_P D vwCl (gS 39 q (MX cy q) σ) H) (hS : va_S (gA 39 q) s.heap H locs) {ls : Array Slot} (hl : lv_has ls 3 [(0, .ref (q (0))), (1, .int x1), (2, .int x2)]) (hp : sX9_run_80 K20 x1 x2 σ = some (r, u)) : W p l e rmX9_run s m args below meth c H locs 0 0 (MQ below (gQv D vwCl (gS 39 q (MX cy q) u) (gA 39 q)) args s 0 0 (gA 39 q)) (F0 m 80 ls []) := by
  obtain ⟨hx, hb, hr, hml, hown, hts, hlocks⟩ := id C0
  unfold sX9_run_80 at hp
  refine lv_aload_n hx hb dX9_run_80 rfl (lv_at hl 0 rfl) ?_
  refine lv_iconst (v := (2 : Int32)) hx hb dX9_run_81 (by decide) ?_
  refine lv_iload_n hx hb dX9_run_82 rfl (lv_at hl 1 rfl) ?_
  obtain ⟨⟨r4, u5⟩, hq6, hp⟩ := o_b hp
  refine g_cVv (As := [.int ((2 : Int32)), .int x1]) (rest := []) hx hb hml hown hts hK hP hS (mX9_does l hJ hq6) (cwV 2 hts gX9_run_X9_does rfl rfl rfl nVX9_does ⟨Nat.le_of_ble_eq_true rfl, Nat.le_of_ble_eq_true rfl⟩) (g_recv hK hP (kk_Mod) (ce_Mod) rfl) rfl hl.1 rfl (Nat.le_of_ble_eq_true rfl) dX9_run_83 ⟨Nat.le_of_ble_eq_true rfl, Nat.le_of_ble_eq_true rfl⟩ (fun H locs hP hS => ?_)
  exact kX9_run_86 C0 hK hJ kh20  hP hS hl hp
def sX9_run_74 (K20 : Int32 → Int32 → TS → Option (Int32 × TS)) (x1 : Int32) (x2 : Int32) (σ : TS) : Option (Int32 × TS) := ((sX9_does ((1 : Int32)) x1 σ).bind (fun z => sX9_run_80 K20 x1 x2 z.2))
set_option maxHeartbeats 4000000 in
set_option maxRecDepth 100000 in
theorem kX9_run_74 {r : Int32} {u : TS} {K20 : Int32 → Int32 → TS → Option (Int32 × TS)} (C0 : gC RX9 cX9_run 3 none wsX9_run p s m args meth c) (hK : va_K D vwCl (tyL cy) s) (hJ : gJ 39 q) (kh20 : ∀ (H : Heap) (locs : List Loc) (σ : TS) (x1 : Int32) (x2 : Int32) (hP : va_P D vwCl (gS 39 q (MX cy q) σ) H) (hS : va_S (gA 39 q) s.heap H locs) (ls : Array Slot) (hl : lv_has ls 3 [(0, .ref (q (0))), (1, .int x1), (2, .int x2)]) (hp : K20 x1 x2 σ = some (r, u)), W p l e rmX9_run s m args below meth c H locs 0 0 (MQ below (gQv D vwCl (gS 39 q (MX cy q) u) (gA 39 q)) args s 0 0 (gA 39 q)) (F0 m 20 ls [])) {H : Heap} {locs : List Loc} {σ : TS} {x1 : Int32} {x2 : Int32} (hP : va_P D vwCl (gS 39 q (MX cy q) σ) H) (hS : va_S (gA 39 q) s.heap H locs) {ls : Array Slot} (hl : lv_has ls 3 [(0, .ref (q (0))), (1, .int x1), (2, .int x2)]) (hp : sX9_run_74 K20 x1 x2 σ = some (r, u)) : W p l e rmX9_run s m args below meth c H locs 0 0 (MQ below (gQv D vwCl (gS 39 q (MX cy q) u) (gA 39 q)) args s 0 0 (gA 39 q)) (F0 m 74 ls []) := by
  obtain ⟨hx, hb, hr, hml, hown, hts, hlocks⟩ := id C0
  unfold sX9_run_74 at hp
  refine lv_aload_n hx hb dX9_run_74 rfl (lv_at hl 0 rfl) ?_
  refine lv_iconst (v := (1 : Int32)) hx hb dX9_run_75 (by decide) ?_
  refine lv_iload_n hx hb dX9_run_76 rfl (lv_at hl 1 rfl) ?_
  obtain ⟨⟨r7, u8⟩, hq9, hp⟩ := o_b hp
  refine g_cVv (As := [.int ((1 : Int32)), .int x1]) (rest := []) hx hb hml hown hts hK hP hS (mX9_does l hJ hq9) (cwV 2 hts gX9_run_X9_does rfl rfl rfl nVX9_does ⟨Nat.le_of_ble_eq_true rfl, Nat.le_of_ble_eq_true rfl⟩) (g_recv hK hP (kk_Mod) (ce_Mod) rfl) rfl hl.1 rfl (Nat.le_of_ble_eq_true rfl) dX9_run_77 ⟨Nat.le_of_ble_eq_true rfl, Nat.le_of_ble_eq_true rfl⟩ (fun H locs hP hS => ?_)
  exact kX9_run_80 C0 hK hJ kh20  hP hS hl hp
def sX9_run_65 (K20 : Int32 → Int32 → TS → Option (Int32 × TS)) (x1 : Int32) (x2 : Int32) (sx0 : Int32) (σ : TS) : Option (Int32 × TS) := (if sx0 = 0 then ((sX9_does ((0 : Int32)) x1 σ).bind (fun z => sX9_run_74 K20 x1 x2 z.2)) else sX9_run_90 K20 x1 x2 σ)
set_option maxHeartbeats 4000000 in
set_option maxRecDepth 100000 in
theorem kX9_run_65 {r : Int32} {u : TS} {K20 : Int32 → Int32 → TS → Option (Int32 × TS)} (C0 : gC RX9 cX9_run 3 none wsX9_run p s m args meth c) (hK : va_K D vwCl (tyL cy) s) (hJ : gJ 39 q) (kh20 : ∀ (H : Heap) (locs : List Loc) (σ : TS) (x1 : Int32) (x2 : Int32) (hP : va_P D vwCl (gS 39 q (MX cy q) σ) H) (hS : va_S (gA 39 q) s.heap H locs) (ls : Array Slot) (hl : lv_has ls 3 [(0, .ref (q (0))), (1, .int x1), (2, .int x2)]) (hp : K20 x1 x2 σ = some (r, u)), W p l e rmX9_run s m args below meth c H locs 0 0 (MQ below (gQv D vwCl (gS 39 q (MX cy q) u) (gA 39 q)) args s 0 0 (gA 39 q)) (F0 m 20 ls [])) {H : Heap} {locs : List Loc} {σ : TS} {x1 : Int32} {x2 : Int32} {sx0 : Int32} (hP : va_P D vwCl (gS 39 q (MX cy q) σ) H) (hS : va_S (gA 39 q) s.heap H locs) {ls : Array Slot} (hl : lv_has ls 3 [(0, .ref (q (0))), (1, .int x1), (2, .int x2)]) (hp : sX9_run_65 K20 x1 x2 sx0 σ = some (r, u)) : W p l e rmX9_run s m args below meth c H locs 0 0 (MQ below (gQv D vwCl (gS 39 q (MX cy q) u) (gA 39 q)) args s 0 0 (gA 39 q)) (F0 m 65 ls [.int sx0]) := by
  obtain ⟨hx, hb, hr, hml, hown, hts, hlocks⟩ := id C0
  unfold sX9_run_65 at hp
  refine lv_if_ne (tgt := 90) hx hb dX9_run_65 (by decide) (fun hcd10 => ?_) (fun hcd10 => ?_)
  · have hp := o_f hp hcd10
    exact kX9_run_90 C0 hK hJ kh20  hP hS hl hp
  · have hp := o_t hp hcd10
    refine lv_aload_n hx hb dX9_run_68 rfl (lv_at hl 0 rfl) ?_
    refine lv_iconst (v := (0 : Int32)) hx hb dX9_run_69 (by decide) ?_
    refine lv_iload_n hx hb dX9_run_70 rfl (lv_at hl 1 rfl) ?_
    obtain ⟨⟨r11, u12⟩, hq13, hp⟩ := o_b hp
    refine g_cVv (As := [.int ((0 : Int32)), .int x1]) (rest := []) hx hb hml hown hts hK hP hS (mX9_does l hJ hq13) (cwV 2 hts gX9_run_X9_does rfl rfl rfl nVX9_does ⟨Nat.le_of_ble_eq_true rfl, Nat.le_of_ble_eq_true rfl⟩) (g_recv hK hP (kk_Mod) (ce_Mod) rfl) rfl hl.1 rfl (Nat.le_of_ble_eq_true rfl) dX9_run_71 ⟨Nat.le_of_ble_eq_true rfl, Nat.le_of_ble_eq_true rfl⟩ (fun H locs hP hS => ?_)
    exact kX9_run_74 C0 hK hJ kh20  hP hS hl hp
def sX9_run_60 (K20 : Int32 → Int32 → TS → Option (Int32 × TS)) (x1 : Int32) (x2 : Int32) (σ : TS) : Option (Int32 × TS) := ((sX9_areDone x1 σ).bind (fun z => sX9_run_65 K20 x1 x2 z.1 z.2))
set_option maxHeartbeats 4000000 in
set_option maxRecDepth 100000 in
theorem kX9_run_60 {r : Int32} {u : TS} {K20 : Int32 → Int32 → TS → Option (Int32 × TS)} (C0 : gC RX9 cX9_run 3 none wsX9_run p s m args meth c) (hK : va_K D vwCl (tyL cy) s) (hJ : gJ 39 q) (kh20 : ∀ (H : Heap) (locs : List Loc) (σ : TS) (x1 : Int32) (x2 : Int32) (hP : va_P D vwCl (gS 39 q (MX cy q) σ) H) (hS : va_S (gA 39 q) s.heap H locs) (ls : Array Slot) (hl : lv_has ls 3 [(0, .ref (q (0))), (1, .int x1), (2, .int x2)]) (hp : K20 x1 x2 σ = some (r, u)), W p l e rmX9_run s m args below meth c H locs 0 0 (MQ below (gQv D vwCl (gS 39 q (MX cy q) u) (gA 39 q)) args s 0 0 (gA 39 q)) (F0 m 20 ls [])) {H : Heap} {locs : List Loc} {σ : TS} {x1 : Int32} {x2 : Int32} (hP : va_P D vwCl (gS 39 q (MX cy q) σ) H) (hS : va_S (gA 39 q) s.heap H locs) {ls : Array Slot} (hl : lv_has ls 3 [(0, .ref (q (0))), (1, .int x1), (2, .int x2)]) (hp : sX9_run_60 K20 x1 x2 σ = some (r, u)) : W p l e rmX9_run s m args below meth c H locs 0 0 (MQ below (gQv D vwCl (gS 39 q (MX cy q) u) (gA 39 q)) args s 0 0 (gA 39 q)) (F0 m 60 ls []) := by
  obtain ⟨hx, hb, hr, hml, hown, hts, hlocks⟩ := id C0
  unfold sX9_run_60 at hp
  refine lv_aload_n hx hb dX9_run_60 rfl (lv_at hl 0 rfl) ?_
  refine lv_iload_n hx hb dX9_run_61 rfl (lv_at hl 1 rfl) ?_
  obtain ⟨⟨r14, u15⟩, hq16, hp⟩ := o_b hp
  refine g_cVi (As := [.int x1]) (rest := []) hx hb hml hown hts hK hP hS (mX9_areDone l hJ hq16) (cwV 1 hts gX9_run_X9_areDone rfl rfl rfl nVX9_areDone ⟨Nat.le_of_ble_eq_true rfl, Nat.le_of_ble_eq_true rfl⟩) (g_recv hK hP (kk_Mod) (ce_Mod) rfl) rfl hl.1 rfl (Nat.le_of_ble_eq_true rfl) dX9_run_62 ⟨Nat.le_of_ble_eq_true rfl, Nat.le_of_ble_eq_true rfl⟩ (fun H locs hP hS => ?_)
  exact kX9_run_65 C0 hK hJ kh20  hP hS hl hp
def sX9_run_32 (K20 : Int32 → Int32 → TS → Option (Int32 × TS)) (x1 : Int32) (x2 : Int32) (σ : TS) : Option (Int32 × TS) := (if (σ 20 3) ≤ 0 then sX9_run_60 K20 x1 x2 σ else (if vin ((σ 20 3) - ((1 : Int32))) 4 = true then sX9_run_60 K20 x1 x2 (st2 σ 23 (((σ 20 3) - ((1 : Int32))).toNatClampNeg) (σ 21 3)) else none))
set_option maxHeartbeats 4000000 in
set_option maxRecDepth 100000 in
theorem kX9_run_32 {r : Int32} {u : TS} {K20 : Int32 → Int32 → TS → Option (Int32 × TS)} (C0 : gC RX9 cX9_run 3 none wsX9_run p s m args meth c) (hK : va_K D vwCl (tyL cy) s) (hJ : gJ 39 q) (kh20 : ∀ (H : Heap) (locs : List Loc) (σ : TS) (x1 : Int32) (x2 : Int32) (hP : va_P D vwCl (gS 39 q (MX cy q) σ) H) (hS : va_S (gA 39 q) s.heap H locs) (ls : Array Slot) (hl : lv_has ls 3 [(0, .ref (q (0))), (1, .int x1), (2, .int x2)]) (hp : K20 x1 x2 σ = some (r, u)), W p l e rmX9_run s m args below meth c H locs 0 0 (MQ below (gQv D vwCl (gS 39 q (MX cy q) u) (gA 39 q)) args s 0 0 (gA 39 q)) (F0 m 20 ls [])) {H : Heap} {locs : List Loc} {σ : TS} {x1 : Int32} {x2 : Int32} (hP : va_P D vwCl (gS 39 q (MX cy q) σ) H) (hS : va_S (gA 39 q) s.heap H locs) {ls : Array Slot} (hl : lv_has ls 3 [(0, .ref (q (0))), (1, .int x1), (2, .int x2)]) (hp : sX9_run_32 K20 x1 x2 σ = some (r, u)) : W p l e rmX9_run s m args below meth c H locs 0 0 (MQ below (gQv D vwCl (gS 39 q (MX cy q) u) (gA 39 q)) args s 0 0 (gA 39 q)) (F0 m 32 ls []) := by
  obtain ⟨hx, hb, hr, hml, hown, hts, hlocks⟩ := id C0
  unfold sX9_run_32 at hp
  refine lv_aload_n hx hb dX9_run_32 rfl (lv_at hl 0 rfl) ?_
  refine g_get (v := .ref (q (20))) hx hb hts miX9_run_X9 hown hK hP (kk_Mod) (ce_Mod) rfl 22 (by decide) mwX9_run_0 rfl dX9_run_33 ?_
  refine lv_iconst (v := (3 : Int32)) hx hb dX9_run_36 (by decide) ?_
  refine g_iald (j := 3) hx hb hK hP (kk_M_given) (ce_M_given) 0 rfl (vin_of (by decide)) rfl dX9_run_37 ?_
  refine lv_if_le (tgt := 60) hx hb dX9_run_38 (by decide) (fun hcd17 => ?_) (fun hcd17 => ?_)
  · have hp := o_t hp hcd17
    exact kX9_run_60 C0 hK hJ kh20  hP hS hl hp
  · have hp := o_f hp hcd17
    refine lv_aload_n hx hb dX9_run_41 rfl (lv_at hl 0 rfl) ?_
    refine g_get (v := .ref (q (23))) hx hb hts miX9_run_X9 hown hK hP (kk_Mod) (ce_Mod) rfl 25 (by decide) mwX9_run_1 rfl dX9_run_42 ?_
    refine lv_aload_n hx hb dX9_run_45 rfl (lv_at hl 0 rfl) ?_
    refine g_get (v := .ref (q (20))) hx hb hts miX9_run_X9 hown hK hP (kk_Mod) (ce_Mod) rfl 22 (by decide) mwX9_run_0 rfl dX9_run_46 ?_
    refine lv_iconst (v := (3 : Int32)) hx hb dX9_run_49 (by decide) ?_
    refine g_iald (j := 3) hx hb hK hP (kk_M_given) (ce_M_given) 0 rfl (vin_of (by decide)) rfl dX9_run_50 ?_
    refine lv_iconst (v := (1 : Int32)) hx hb dX9_run_51 (by decide) ?_
    refine lv_isub hx hb dX9_run_52 ?_
    refine lv_aload_n hx hb dX9_run_53 rfl (lv_at hl 0 rfl) ?_
    refine g_get (v := .ref (q (21))) hx hb hts miX9_run_X9 hown hK hP (kk_Mod) (ce_Mod) rfl 23 (by decide) mwX9_run_2 rfl dX9_run_54 ?_
    refine lv_iconst (v := (3 : Int32)) hx hb dX9_run_57 (by decide) ?_
    refine g_iald (j := 3) hx hb hK hP (kk_M_value) (ce_M_value) 0 rfl (vin_of (by decide)) rfl dX9_run_58 ?_
    obtain ⟨hi18, hp⟩ := o_chk hp
    refine g_iast (j := ((σ 20 3) - ((1 : Int32))).toNatClampNeg) hx hb hK hJ hP hS (kk_M_plainOutputs) (ce_M_plainOutputs) 0 rfl (vin_of hi18) rfl dX9_run_59 (fun H locs hP hS => ?_)
    exact kX9_run_60 C0 hK hJ kh20  hP hS hl hp
def sX9_run_116 (sx1 : Int32) (sx2 : Int32) (sx3 : Int32) (σ : TS) : Option (Int32 × TS) := (if vin sx1 3 = true then some (0, st2 σ 24 (sx1.toNatClampNeg) (sx2 + sx3)) else none)
set_option maxHeartbeats 4000000 in
set_option maxRecDepth 100000 in
theorem kX9_run_116 {r : Int32} {u : TS} (C0 : gC RX9 cX9_run 3 none wsX9_run p s m args meth c) (hK : va_K D vwCl (tyL cy) s) (hJ : gJ 39 q) {H : Heap} {locs : List Loc} {σ : TS} {sx1 : Int32} {sx2 : Int32} {sx3 : Int32} (hP : va_P D vwCl (gS 39 q (MX cy q) σ) H) (hS : va_S (gA 39 q) s.heap H locs) {ls : Array Slot} (hl : lv_has ls 3 []) (hp : sX9_run_116 sx1 sx2 sx3 σ = some (r, u)) : W p l e rmX9_run s m args below meth c H locs 0 0 (MQ below (gQv D vwCl (gS 39 q (MX cy q) u) (gA 39 q)) args s 0 0 (gA 39 q)) (F0 m 116 ls [.int sx3, .int sx2, .int sx1, .ref (q (24))]) := by
  obtain ⟨hx, hb, hr, hml, hown, hts, hlocks⟩ := id C0
  unfold sX9_run_116 at hp
  refine lv_iadd hx hb dX9_run_116 ?_
  obtain ⟨hi19, hp⟩ := o_chk hp
  refine g_iast (j := sx1.toNatClampNeg) hx hb hK hJ hP hS (kk_M_overruns) (ce_M_overruns) 0 rfl (vin_of hi19) rfl dX9_run_117 (fun H locs hP hS => ?_)
  obtain ⟨rfl, rfl⟩ := o_r hp
  exact W.vret hx hb hr (fun t ht hW => ⟨⟨(), rfl, trivial, by subst ht; exact hP⟩, hS.F ht⟩) hS.2.2 dX9_run_118
def sX9_run_108 (sx1 : Int32) (sx2 : Int32) (sx3 : Int32) (σ : TS) : Option (Int32 × TS) := (if sx3 = 0 then sX9_run_116 sx1 sx2 ((1 : Int32)) σ else sX9_run_116 sx1 sx2 ((0 : Int32)) σ)
set_option maxHeartbeats 4000000 in
set_option maxRecDepth 100000 in
theorem kX9_run_108 {r : Int32} {u : TS} (C0 : gC RX9 cX9_run 3 none wsX9_run p s m args meth c) (hK : va_K D vwCl (tyL cy) s) (hJ : gJ 39 q) {H : Heap} {locs : List Loc} {σ : TS} {sx1 : Int32} {sx2 : Int32} {sx3 : Int32} (hP : va_P D vwCl (gS 39 q (MX cy q) σ) H) (hS : va_S (gA 39 q) s.heap H locs) {ls : Array Slot} (hl : lv_has ls 3 []) (hp : sX9_run_108 sx1 sx2 sx3 σ = some (r, u)) : W p l e rmX9_run s m args below meth c H locs 0 0 (MQ below (gQv D vwCl (gS 39 q (MX cy q) u) (gA 39 q)) args s 0 0 (gA 39 q)) (F0 m 108 ls [.int sx3, .int sx2, .int sx1, .ref (q (24))]) := by
  obtain ⟨hx, hb, hr, hml, hown, hts, hlocks⟩ := id C0
  unfold sX9_run_108 at hp
  refine lv_if_eq (tgt := 115) hx hb dX9_run_108 (by decide) (fun hcd20 => ?_) (fun hcd20 => ?_)
  · have hp := o_t hp hcd20
    refine lv_iconst (v := (1 : Int32)) hx hb dX9_run_115 (by decide) ?_
    exact kX9_run_116 C0 hK hJ  hP hS hl hp
  · have hp := o_f hp hcd20
    refine lv_iconst (v := (0 : Int32)) hx hb dX9_run_111 (by decide) ?_
    refine lv_goto (tgt := 116) hx hb dX9_run_112 (by decide) ?_
    exact kX9_run_116 C0 hK hJ  hP hS hl hp
def sX9_run_20 : Nat → Int32 → Int32 → TS → Option (Int32 × TS)
  | 0, _, _, _ => none
  | n + 1, x1, x2, σ => (if ((30 : Int32)) ≤ x2 then (if vin x1 3 = true then ((sX9_areDone x1 σ).bind (fun z => sX9_run_108 x1 (σ 24 (x1.toNatClampNeg)) z.1 z.2)) else none) else ((sX9_does ((3 : Int32)) x1 σ).bind (fun z => sX9_run_32 (sX9_run_20 n) x1 x2 z.2)))
set_option maxHeartbeats 4000000 in
set_option maxRecDepth 100000 in
theorem kX9_run_20 {r : Int32} {u : TS} (C0 : gC RX9 cX9_run 3 none wsX9_run p s m args meth c) (hK : va_K D vwCl (tyL cy) s) (hJ : gJ 39 q) : ∀ (n : Nat) (H : Heap) (locs : List Loc) (σ : TS) (x1 : Int32) (x2 : Int32) (hP : va_P D vwCl (gS 39 q (MX cy q) σ) H) (hS : va_S (gA 39 q) s.heap H locs) (ls : Array Slot) (hl : lv_has ls 3 [(0, .ref (q (0))), (1, .int x1), (2, .int x2)]) (hp : sX9_run_20 n x1 x2 σ = some (r, u)), W p l e rmX9_run s m args below meth c H locs 0 0 (MQ below (gQv D vwCl (gS 39 q (MX cy q) u) (gA 39 q)) args s 0 0 (gA 39 q)) (F0 m 20 ls []) := by
  obtain ⟨hx, hb, hr, hml, hown, hts, hlocks⟩ := id C0
  intro n
  induction n with
  | zero =>
    intro H locs σ x1 x2 hP hS ls hl hp
    cases hp
  | succ n ih =>
    intro H locs σ x1 x2 hP hS ls hl hp
    unfold sX9_run_20 at hp
    refine lv_iload_n hx hb dX9_run_20 rfl (lv_at hl 2 rfl) ?_
    refine lv_bipush (v := (30 : Int32)) hx hb dX9_run_21 (by decide) ?_
    refine lv_icmp_ge (tgt := 96) hx hb dX9_run_23 (by decide) (fun hcd21 => ?_) (fun hcd21 => ?_)
    · have hp := o_t hp hcd21
      refine lv_aload_n hx hb dX9_run_96 rfl (lv_at hl 0 rfl) ?_
      refine g_get (v := .ref (q (24))) hx hb hts miX9_run_X9 hown hK hP (kk_Mod) (ce_Mod) rfl 26 (by decide) mwX9_run_3 rfl dX9_run_97 ?_
      refine lv_iload_n hx hb dX9_run_100 rfl (lv_at hl 1 rfl) ?_
      refine lv_dup2_11 hx hb dX9_run_101 rfl rfl ?_
      obtain ⟨hi22, hp⟩ := o_chk hp
      refine g_iald (j := x1.toNatClampNeg) hx hb hK hP (kk_M_overruns) (ce_M_overruns) 0 rfl (vin_of hi22) rfl dX9_run_102 ?_
      refine lv_aload_n hx hb dX9_run_103 rfl (lv_at hl 0 rfl) ?_
      refine lv_iload_n hx hb dX9_run_104 rfl (lv_at hl 1 rfl) ?_
      obtain ⟨⟨r23, u24⟩, hq25, hp⟩ := o_b hp
      refine g_cVi (As := [.int x1]) (rest := [.int (σ 24 (x1.toNatClampNeg)), .int x1, .ref (q (24))]) hx hb hml hown hts hK hP hS (mX9_areDone l hJ hq25) (cwV 1 hts gX9_run_X9_areDone rfl rfl rfl nVX9_areDone ⟨Nat.le_of_ble_eq_true rfl, Nat.le_of_ble_eq_true rfl⟩) (g_recv hK hP (kk_Mod) (ce_Mod) rfl) rfl hl.1 rfl (Nat.le_of_ble_eq_true rfl) dX9_run_105 ⟨Nat.le_of_ble_eq_true rfl, Nat.le_of_ble_eq_true rfl⟩ (fun H locs hP hS => ?_)
      exact kX9_run_108 C0 hK hJ  hP hS (lv_sub hl [] rfl) hp
    · have hp := o_f hp hcd21
      refine lv_aload_n hx hb dX9_run_26 rfl (lv_at hl 0 rfl) ?_
      refine lv_iconst (v := (3 : Int32)) hx hb dX9_run_27 (by decide) ?_
      refine lv_iload_n hx hb dX9_run_28 rfl (lv_at hl 1 rfl) ?_
      obtain ⟨⟨r26, u27⟩, hq28, hp⟩ := o_b hp
      refine g_cVv (As := [.int ((3 : Int32)), .int x1]) (rest := []) hx hb hml hown hts hK hP hS (mX9_does l hJ hq28) (cwV 2 hts gX9_run_X9_does rfl rfl rfl nVX9_does ⟨Nat.le_of_ble_eq_true rfl, Nat.le_of_ble_eq_true rfl⟩) (g_recv hK hP (kk_Mod) (ce_Mod) rfl) rfl hl.1 rfl (Nat.le_of_ble_eq_true rfl) dX9_run_29 ⟨Nat.le_of_ble_eq_true rfl, Nat.le_of_ble_eq_true rfl⟩ (fun H locs hP hS => ?_)
      exact kX9_run_32 C0 hK hJ ih  hP hS hl hp
def sX9_run_2 : Nat → Int32 → Int32 → TS → Option (Int32 × TS)
  | 0, _, _, _ => none
  | n + 1, x1, x2, σ => (if ((4 : Int32)) ≤ x2 then sX9_run_20 31 x1 ((0 : Int32)) σ else ((sX9_begins x2 σ).bind (fun z => sX9_run_12 (sX9_run_2 n) x1 x2 z.2)))
set_option maxHeartbeats 4000000 in
set_option maxRecDepth 100000 in
theorem kX9_run_2 {r : Int32} {u : TS} (C0 : gC RX9 cX9_run 3 none wsX9_run p s m args meth c) (hK : va_K D vwCl (tyL cy) s) (hJ : gJ 39 q) : ∀ (n : Nat) (H : Heap) (locs : List Loc) (σ : TS) (x1 : Int32) (x2 : Int32) (hP : va_P D vwCl (gS 39 q (MX cy q) σ) H) (hS : va_S (gA 39 q) s.heap H locs) (ls : Array Slot) (hl : lv_has ls 3 [(0, .ref (q (0))), (1, .int x1), (2, .int x2)]) (hp : sX9_run_2 n x1 x2 σ = some (r, u)), W p l e rmX9_run s m args below meth c H locs 0 0 (MQ below (gQv D vwCl (gS 39 q (MX cy q) u) (gA 39 q)) args s 0 0 (gA 39 q)) (F0 m 2 ls []) := by
  obtain ⟨hx, hb, hr, hml, hown, hts, hlocks⟩ := id C0
  intro n
  induction n with
  | zero =>
    intro H locs σ x1 x2 hP hS ls hl hp
    cases hp
  | succ n ih =>
    intro H locs σ x1 x2 hP hS ls hl hp
    unfold sX9_run_2 at hp
    refine lv_iload_n hx hb dX9_run_2 rfl (lv_at hl 2 rfl) ?_
    refine lv_iconst (v := (4 : Int32)) hx hb dX9_run_3 (by decide) ?_
    refine lv_icmp_ge (tgt := 18) hx hb dX9_run_4 (by decide) (fun hcd29 => ?_) (fun hcd29 => ?_)
    · have hp := o_t hp hcd29
      refine lv_iconst (v := (0 : Int32)) hx hb dX9_run_18 (by decide) ?_
      refine lv_istore_n (lv' := [(2, .int ((0 : Int32))), (0, .ref (q (0))), (1, .int x1)]) hx hb dX9_run_19 rfl hl (by decide) rfl (fun ls hl => ?_)
      exact kX9_run_20 C0 hK hJ _ _ _ _ _ _  hP hS _ (lv_sub hl [1, 2, 0] rfl) hp
    · have hp := o_f hp hcd29
      refine lv_aload_n hx hb dX9_run_7 rfl (lv_at hl 0 rfl) ?_
      refine lv_iload_n hx hb dX9_run_8 rfl (lv_at hl 2 rfl) ?_
      obtain ⟨⟨r30, u31⟩, hq32, hp⟩ := o_b hp
      refine g_cVv (As := [.int x2]) (rest := []) hx hb hml hown hts hK hP hS (mX9_begins l hJ hq32) (cwV 1 hts gX9_run_X9_begins rfl rfl rfl nVX9_begins ⟨Nat.le_of_ble_eq_true rfl, Nat.le_of_ble_eq_true rfl⟩) (g_recv hK hP (kk_Mod) (ce_Mod) rfl) rfl hl.1 rfl (Nat.le_of_ble_eq_true rfl) dX9_run_9 ⟨Nat.le_of_ble_eq_true rfl, Nat.le_of_ble_eq_true rfl⟩ (fun H locs hP hS => ?_)
      exact kX9_run_12 C0 hK hJ ih  hP hS hl hp
def sX9_run_0 (x1 : Int32) (σ : TS) : Option (Int32 × TS) := sX9_run_2 5 x1 ((0 : Int32)) σ
set_option maxHeartbeats 4000000 in
set_option maxRecDepth 100000 in
theorem kX9_run_0 {r : Int32} {u : TS} (C0 : gC RX9 cX9_run 3 none wsX9_run p s m args meth c) (hK : va_K D vwCl (tyL cy) s) (hJ : gJ 39 q) {H : Heap} {locs : List Loc} {σ : TS} {x1 : Int32} (hP : va_P D vwCl (gS 39 q (MX cy q) σ) H) (hS : va_S (gA 39 q) s.heap H locs) {ls : Array Slot} (hl : lv_has ls 3 [(0, .ref (q (0))), (1, .int x1)]) (hp : sX9_run_0 x1 σ = some (r, u)) : W p l e rmX9_run s m args below meth c H locs 0 0 (MQ below (gQv D vwCl (gS 39 q (MX cy q) u) (gA 39 q)) args s 0 0 (gA 39 q)) (F0 m 0 ls []) := by
  obtain ⟨hx, hb, hr, hml, hown, hts, hlocks⟩ := id C0
  unfold sX9_run_0 at hp
  refine lv_iconst (v := (0 : Int32)) hx hb dX9_run_0 (by decide) ?_
  refine lv_istore_n (lv' := [(2, .int ((0 : Int32))), (0, .ref (q (0))), (1, .int x1)]) hx hb dX9_run_1 rfl hl (by decide) rfl (fun ls hl => ?_)
  exact kX9_run_2 C0 hK hJ _ _ _ _ _ _  hP hS _ (lv_sub hl [1, 2, 0] rfl) hp
def sX9_run (x1 : Int32) (σ : TS) : Option (Int32 × TS) := sX9_run_0 x1 σ
theorem nVX9_run : yX9_run.cls = RX9 ∧ yX9_run.cls ≠ "java/lang/invoke/MethodHandle" ∧ yX9_run.cls ≠ "java/lang/invoke/VarHandle" ∧ (parseMethodDescriptor yX9_run.desc).map (fun d => d.parameters.length) = some 1 := by decide +kernel
set_option maxHeartbeats 4000000 in
set_option maxRecDepth 100000 in
theorem mX9_run (l : Launch) (hJ : gJ 39 q) {x1 : Int32} {σ : TS} {r : Int32} {u : TS} (hp : sX9_run x1 σ = some (r, u)) : Met l yX9_run wsX9_run rmX9_run (va_Pc [.ref (q (0)), .int x1] (gPre D vwCl (tyL cy) (gS 39 q (MX cy q) σ))) (gQv D vwCl (gS 39 q (MX cy q) u) (gA 39 q)) 0 0 (gA 39 q) := by
  refine Met.ofW (cc := cX9_run) (maxL := 3) (ret := none) (by decide +kernel) rfl ?_
  intro p e s m args below meth c s₁ B hml hv
  obtain ⟨rfl, hP, hK⟩ := hv
  have hl := lv_entry ([.ref (q (0)), .int x1]) (n := 3) (Nat.le_of_ble_eq_true rfl)
  rw [lg_entry_eq]
  generalize (lg_sl ([.ref (q (0)), .int x1]) ++ List.replicate (3 - (lg_sl ([.ref (q (0)), .int x1])).length) Slot.unset).toArray = ls at hl ⊢
  have hl : lv_has ls 3 [(0, .ref (q (0))), (1, .int x1)] := hl
  exact kX9_run_0 ⟨B.exec, B.bytes, B.returns, hml, findClass_of_methodNamed B.named, atoms_spec (ws := wsX9_run) B.pre, B.notSynchronized⟩ hK hJ  hP va_S.rf hl hp
theorem miX9_agree_X9 : ∀ w ∈ u_ws RX9 TX9 44, w ∈ wsX9_agree := by decide +kernel
theorem mwX9_agree_0 : Cond.fieldLink RX9 90 "TriplaneModel" "agreed" "[I" ∈ wsX9_agree := by decide +kernel
theorem mwX9_agree_1 : Cond.fieldLink RX9 93 "TriplaneModel" "refused" "[I" ∈ wsX9_agree := by decide +kernel
theorem mwX9_agree_2 : Cond.fieldLink RX9 87 "TriplaneModel" "lessLimits" "[I" ∈ wsX9_agree := by decide +kernel
theorem mwX9_agree_3 : Cond.fieldLink RX9 84 "TriplaneModel" "readings" "[I" ∈ wsX9_agree := by decide +kernel
abbrev rmX9_agree : Room := { frames := 2, cells := 0, slots := 0, locals := 43 }
def sX9_agree_124 (K2 : Int32 → TS → Option (Int32 × TS)) (x1 : Int32) (σ : TS) : Option (Int32 × TS) := K2 (x1 + (1 : Int32)) σ
set_option maxHeartbeats 4000000 in
set_option maxRecDepth 100000 in
theorem kX9_agree_124 {r : Int32} {u : TS} {K2 : Int32 → TS → Option (Int32 × TS)} (C0 : gC RX9 cX9_agree 4 none wsX9_agree p s m args meth c) (hK : va_K D vwCl (tyL cy) s) (hJ : gJ 39 q) (kh2 : ∀ (H : Heap) (locs : List Loc) (σ : TS) (x1 : Int32) (hP : va_P D vwCl (gS 39 q (MX cy q) σ) H) (hS : va_S (gA 39 q) s.heap H locs) (ls : Array Slot) (hl : lv_has ls 4 [(0, .ref (q (0))), (1, .int x1)]) (hp : K2 x1 σ = some (r, u)), W p l e rmX9_agree s m args below meth c H locs 0 0 (MQ below (gQv D vwCl (gS 39 q (MX cy q) u) (gA 39 q)) args s 0 0 (gA 39 q)) (F0 m 2 ls [])) {H : Heap} {locs : List Loc} {σ : TS} {x1 : Int32} (hP : va_P D vwCl (gS 39 q (MX cy q) σ) H) (hS : va_S (gA 39 q) s.heap H locs) {ls : Array Slot} (hl : lv_has ls 4 [(0, .ref (q (0))), (1, .int x1)]) (hp : sX9_agree_124 K2 x1 σ = some (r, u)) : W p l e rmX9_agree s m args below meth c H locs 0 0 (MQ below (gQv D vwCl (gS 39 q (MX cy q) u) (gA 39 q)) args s 0 0 (gA 39 q)) (F0 m 124 ls []) := by
  obtain ⟨hx, hb, hr, hml, hown, hts, hlocks⟩ := id C0
  unfold sX9_agree_124 at hp
  refine lv_iinc (v := x1 + (1 : Int32)) (lv' := [(1, .int (x1 + (1 : Int32))), (0, .ref (q (0)))]) hx hb dX9_agree_124 hl (k := 1) rfl rfl (by decide) rfl (fun ls hl => ?_)
  refine lv_goto (tgt := 2) hx hb dX9_agree_127 (by decide) ?_
  exact kh2 _ _ _ _  hP hS _ (lv_sub hl [1, 0] rfl) hp
def sX9_agree_110 (K2 : Int32 → TS → Option (Int32 × TS)) (x1 : Int32) (x2 : Int32) (σ : TS) : Option (Int32 × TS) := (if vin x1 4 = true then sX9_agree_124 K2 x1 (st2 (st2 σ 27 (x1.toNatClampNeg) x2) 28 (x1.toNatClampNeg) ((0 : Int32))) else none)
set_option maxHeartbeats 4000000 in
set_option maxRecDepth 100000 in
theorem kX9_agree_110 {r : Int32} {u : TS} {K2 : Int32 → TS → Option (Int32 × TS)} (C0 : gC RX9 cX9_agree 4 none wsX9_agree p s m args meth c) (hK : va_K D vwCl (tyL cy) s) (hJ : gJ 39 q) (kh2 : ∀ (H : Heap) (locs : List Loc) (σ : TS) (x1 : Int32) (hP : va_P D vwCl (gS 39 q (MX cy q) σ) H) (hS : va_S (gA 39 q) s.heap H locs) (ls : Array Slot) (hl : lv_has ls 4 [(0, .ref (q (0))), (1, .int x1)]) (hp : K2 x1 σ = some (r, u)), W p l e rmX9_agree s m args below meth c H locs 0 0 (MQ below (gQv D vwCl (gS 39 q (MX cy q) u) (gA 39 q)) args s 0 0 (gA 39 q)) (F0 m 2 ls [])) {H : Heap} {locs : List Loc} {σ : TS} {x1 : Int32} {x2 : Int32} (hP : va_P D vwCl (gS 39 q (MX cy q) σ) H) (hS : va_S (gA 39 q) s.heap H locs) {ls : Array Slot} (hl : lv_has ls 4 [(0, .ref (q (0))), (1, .int x1), (2, .int x2)]) (hp : sX9_agree_110 K2 x1 x2 σ = some (r, u)) : W p l e rmX9_agree s m args below meth c H locs 0 0 (MQ below (gQv D vwCl (gS 39 q (MX cy q) u) (gA 39 q)) args s 0 0 (gA 39 q)) (F0 m 110 ls []) := by
  obtain ⟨hx, hb, hr, hml, hown, hts, hlocks⟩ := id C0
  unfold sX9_agree_110 at hp
  refine lv_aload_n hx hb dX9_agree_110 rfl (lv_at hl 0 rfl) ?_
  refine g_get (v := .ref (q (27))) hx hb hts miX9_agree_X9 hown hK hP (kk_Mod) (ce_Mod) rfl 29 (by decide) mwX9_agree_0 rfl dX9_agree_111 ?_
  refine lv_iload_n hx hb dX9_agree_114 rfl (lv_at hl 1 rfl) ?_
  refine lv_iload_n hx hb dX9_agree_115 rfl (lv_at hl 2 rfl) ?_
  obtain ⟨hi1, hp⟩ := o_chk hp
  refine g_iast (j := x1.toNatClampNeg) hx hb hK hJ hP hS (kk_M_agreed) (ce_M_agreed) 0 rfl (vin_of hi1) rfl dX9_agree_116 (fun H locs hP hS => ?_)
  refine lv_aload_n hx hb dX9_agree_117 rfl (lv_at hl 0 rfl) ?_
  refine g_get (v := .ref (q (28))) hx hb hts miX9_agree_X9 hown hK hP (kk_Mod) (ce_Mod) rfl 30 (by decide) mwX9_agree_1 rfl dX9_agree_118 ?_
  refine lv_iload_n hx hb dX9_agree_121 rfl (lv_at hl 1 rfl) ?_
  refine lv_iconst (v := (0 : Int32)) hx hb dX9_agree_122 (by decide) ?_
  refine g_iast (j := x1.toNatClampNeg) hx hb hK hJ hP hS (kk_M_refused) (ce_M_refused) 0 rfl (vin_of hi1) rfl dX9_agree_123 (fun H locs hP hS => ?_)
  exact kX9_agree_124 C0 hK hJ kh2  hP hS (lv_sub hl [0, 1] rfl) hp
def sX9_agree_90 (K2 : Int32 → TS → Option (Int32 × TS)) (x1 : Int32) (x2 : Int32) (sx1 : Int32) (sx2 : Int32) (σ : TS) : Option (Int32 × TS) := (if vin sx1 4 = true then (if vin x1 4 = true then (if ((st2 σ 28 (sx1.toNatClampNeg) sx2) 28 (x1.toNatClampNeg)) = 0 then sX9_agree_110 K2 x1 x2 (st2 σ 28 (sx1.toNatClampNeg) sx2) else (if ((st2 σ 28 (sx1.toNatClampNeg) sx2) 28 (x1.toNatClampNeg)) = ((3 : Int32)) then sX9_agree_110 K2 x1 x2 (st2 σ 28 (sx1.toNatClampNeg) sx2) else sX9_agree_124 K2 x1 (st2 σ 28 (sx1.toNatClampNeg) sx2))) else none) else none)
set_option maxHeartbeats 4000000 in
set_option maxRecDepth 100000 in
theorem kX9_agree_90 {r : Int32} {u : TS} {K2 : Int32 → TS → Option (Int32 × TS)} (C0 : gC RX9 cX9_agree 4 none wsX9_agree p s m args meth c) (hK : va_K D vwCl (tyL cy) s) (hJ : gJ 39 q) (kh2 : ∀ (H : Heap) (locs : List Loc) (σ : TS) (x1 : Int32) (hP : va_P D vwCl (gS 39 q (MX cy q) σ) H) (hS : va_S (gA 39 q) s.heap H locs) (ls : Array Slot) (hl : lv_has ls 4 [(0, .ref (q (0))), (1, .int x1)]) (hp : K2 x1 σ = some (r, u)), W p l e rmX9_agree s m args below meth c H locs 0 0 (MQ below (gQv D vwCl (gS 39 q (MX cy q) u) (gA 39 q)) args s 0 0 (gA 39 q)) (F0 m 2 ls [])) {H : Heap} {locs : List Loc} {σ : TS} {x1 : Int32} {x2 : Int32} {sx1 : Int32} {sx2 : Int32} (hP : va_P D vwCl (gS 39 q (MX cy q) σ) H) (hS : va_S (gA 39 q) s.heap H locs) {ls : Array Slot} (hl : lv_has ls 4 [(0, .ref (q (0))), (1, .int x1), (2, .int x2)]) (hp : sX9_agree_90 K2 x1 x2 sx1 sx2 σ = some (r, u)) : W p l e rmX9_agree s m args below meth c H locs 0 0 (MQ below (gQv D vwCl (gS 39 q (MX cy q) u) (gA 39 q)) args s 0 0 (gA 39 q)) (F0 m 90 ls [.int sx2, .int sx1, .ref (q (28))]) := by
  obtain ⟨hx, hb, hr, hml, hown, hts, hlocks⟩ := id C0
  unfold sX9_agree_90 at hp
  obtain ⟨hi2, hp⟩ := o_chk hp
  refine g_iast (j := sx1.toNatClampNeg) hx hb hK hJ hP hS (kk_M_refused) (ce_M_refused) 0 rfl (vin_of hi2) rfl dX9_agree_90 (fun H locs hP hS => ?_)
  refine lv_aload_n hx hb dX9_agree_91 rfl (lv_at hl 0 rfl) ?_
  refine g_get (v := .ref (q (28))) hx hb hts miX9_agree_X9 hown hK hP (kk_Mod) (ce_Mod) rfl 30 (by decide) mwX9_agree_1 rfl dX9_agree_92 ?_
  refine lv_iload_n hx hb dX9_agree_95 rfl (lv_at hl 1 rfl) ?_
  obtain ⟨hi3, hp⟩ := o_chk hp
  refine g_iald (j := x1.toNatClampNeg) hx hb hK hP (kk_M_refused) (ce_M_refused) 0 rfl (vin_of hi3) rfl dX9_agree_96 ?_
  refine lv_if_eq (tgt := 110) hx hb dX9_agree_97 (by decide) (fun hcd4 => ?_) (fun hcd4 => ?_)
  · have hp := o_t hp hcd4
    exact kX9_agree_110 C0 hK hJ kh2  hP hS hl hp
  · have hp := o_f hp hcd4
    refine lv_aload_n hx hb dX9_agree_100 rfl (lv_at hl 0 rfl) ?_
    refine g_get (v := .ref (q (28))) hx hb hts miX9_agree_X9 hown hK hP (kk_Mod) (ce_Mod) rfl 30 (by decide) mwX9_agree_1 rfl dX9_agree_101 ?_
    refine lv_iload_n hx hb dX9_agree_104 rfl (lv_at hl 1 rfl) ?_
    refine g_iald (j := x1.toNatClampNeg) hx hb hK hP (kk_M_refused) (ce_M_refused) 0 rfl (vin_of hi3) rfl dX9_agree_105 ?_
    refine lv_iconst (v := (3 : Int32)) hx hb dX9_agree_106 (by decide) ?_
    refine lv_icmp_ne (tgt := 124) hx hb dX9_agree_107 (by decide) (fun hcd5 => ?_) (fun hcd5 => ?_)
    · have hp := o_f hp hcd5
      exact kX9_agree_124 C0 hK hJ kh2  hP hS (lv_sub hl [0, 1] rfl) hp
    · have hp := o_t hp hcd5
      exact kX9_agree_110 C0 hK hJ kh2  hP hS hl hp
def sX9_agree_58 (K2 : Int32 → TS → Option (Int32 × TS)) (x1 : Int32) (x2 : Int32) (sx0 : Int32) (σ : TS) : Option (Int32 × TS) := (if vin x1 4 = true then (if (((32767 : Int32)) - (σ 26 (x1.toNatClampNeg))) < sx0 then sX9_agree_90 K2 x1 x2 x1 ((σ 28 (x1.toNatClampNeg)) + ((1 : Int32))) σ else sX9_agree_90 K2 x1 x2 x1 ((0 : Int32)) σ) else none)
set_option maxHeartbeats 4000000 in
set_option maxRecDepth 100000 in
theorem kX9_agree_58 {r : Int32} {u : TS} {K2 : Int32 → TS → Option (Int32 × TS)} (C0 : gC RX9 cX9_agree 4 none wsX9_agree p s m args meth c) (hK : va_K D vwCl (tyL cy) s) (hJ : gJ 39 q) (kh2 : ∀ (H : Heap) (locs : List Loc) (σ : TS) (x1 : Int32) (hP : va_P D vwCl (gS 39 q (MX cy q) σ) H) (hS : va_S (gA 39 q) s.heap H locs) (ls : Array Slot) (hl : lv_has ls 4 [(0, .ref (q (0))), (1, .int x1)]) (hp : K2 x1 σ = some (r, u)), W p l e rmX9_agree s m args below meth c H locs 0 0 (MQ below (gQv D vwCl (gS 39 q (MX cy q) u) (gA 39 q)) args s 0 0 (gA 39 q)) (F0 m 2 ls [])) {H : Heap} {locs : List Loc} {σ : TS} {x1 : Int32} {x2 : Int32} {sx0 : Int32} (hP : va_P D vwCl (gS 39 q (MX cy q) σ) H) (hS : va_S (gA 39 q) s.heap H locs) {ls : Array Slot} (hl : lv_has ls 4 [(0, .ref (q (0))), (1, .int x1), (2, .int x2)]) (hp : sX9_agree_58 K2 x1 x2 sx0 σ = some (r, u)) : W p l e rmX9_agree s m args below meth c H locs 0 0 (MQ below (gQv D vwCl (gS 39 q (MX cy q) u) (gA 39 q)) args s 0 0 (gA 39 q)) (F0 m 58 ls [.int sx0]) := by
  obtain ⟨hx, hb, hr, hml, hown, hts, hlocks⟩ := id C0
  unfold sX9_agree_58 at hp
  refine lv_istore_n (lv' := [(3, .int sx0), (0, .ref (q (0))), (1, .int x1), (2, .int x2)]) hx hb dX9_agree_58 rfl hl (by decide) rfl (fun ls hl => ?_)
  refine lv_aload_n hx hb dX9_agree_59 rfl (lv_at hl 1 rfl) ?_
  refine g_get (v := .ref (q (28))) hx hb hts miX9_agree_X9 hown hK hP (kk_Mod) (ce_Mod) rfl 30 (by decide) mwX9_agree_1 rfl dX9_agree_60 ?_
  refine lv_iload_n hx hb dX9_agree_63 rfl (lv_at hl 2 rfl) ?_
  refine lv_iload_n hx hb dX9_agree_64 rfl (lv_at hl 0 rfl) ?_
  refine lv_sipush (v := (32767 : Int32)) hx hb dX9_agree_65 (by decide) ?_
  refine lv_aload_n hx hb dX9_agree_68 rfl (lv_at hl 1 rfl) ?_
  refine g_get (v := .ref (q (26))) hx hb hts miX9_agree_X9 hown hK hP (kk_Mod) (ce_Mod) rfl 28 (by decide) mwX9_agree_2 rfl dX9_agree_69 ?_
  refine lv_iload_n hx hb dX9_agree_72 rfl (lv_at hl 2 rfl) ?_
  obtain ⟨hi6, hp⟩ := o_chk hp
  refine g_iald (j := x1.toNatClampNeg) hx hb hK hP (kk_M_lessLimits) (ce_M_lessLimits) 0 rfl (vin_of hi6) rfl dX9_agree_73 ?_
  refine lv_isub hx hb dX9_agree_74 ?_
  refine lv_icmp_gt (tgt := 82) hx hb dX9_agree_75 (by decide) (fun hcd7 => ?_) (fun hcd7 => ?_)
  · have hp := o_t hp hcd7
    refine lv_aload_n hx hb dX9_agree_82 rfl (lv_at hl 1 rfl) ?_
    refine g_get (v := .ref (q (28))) hx hb hts miX9_agree_X9 hown hK hP (kk_Mod) (ce_Mod) rfl 30 (by decide) mwX9_agree_1 rfl dX9_agree_83 ?_
    refine lv_iload_n hx hb dX9_agree_86 rfl (lv_at hl 2 rfl) ?_
    refine g_iald (j := x1.toNatClampNeg) hx hb hK hP (kk_M_refused) (ce_M_refused) 0 rfl (vin_of hi6) rfl dX9_agree_87 ?_
    refine lv_iconst (v := (1 : Int32)) hx hb dX9_agree_88 (by decide) ?_
    refine lv_iadd hx hb dX9_agree_89 ?_
    exact kX9_agree_90 C0 hK hJ kh2  hP hS (lv_sub hl [1, 2, 3] rfl) hp
  · have hp := o_f hp hcd7
    refine lv_iconst (v := (0 : Int32)) hx hb dX9_agree_78 (by decide) ?_
    refine lv_goto (tgt := 90) hx hb dX9_agree_79 (by decide) ?_
    exact kX9_agree_90 C0 hK hJ kh2  hP hS (lv_sub hl [1, 2, 3] rfl) hp
def sX9_agree_38 (K2 : Int32 → TS → Option (Int32 × TS)) (x1 : Int32) (sx0 : Int32) (σ : TS) : Option (Int32 × TS) := (if vin x1 4 = true then ((sX9_greater (sx0 - (σ 27 (x1.toNatClampNeg))) ((σ 27 (x1.toNatClampNeg)) - sx0) σ).bind (fun z => sX9_agree_58 K2 x1 sx0 z.1 z.2)) else none)
set_option maxHeartbeats 4000000 in
set_option maxRecDepth 100000 in
theorem kX9_agree_38 {r : Int32} {u : TS} {K2 : Int32 → TS → Option (Int32 × TS)} (C0 : gC RX9 cX9_agree 4 none wsX9_agree p s m args meth c) (hK : va_K D vwCl (tyL cy) s) (hJ : gJ 39 q) (kh2 : ∀ (H : Heap) (locs : List Loc) (σ : TS) (x1 : Int32) (hP : va_P D vwCl (gS 39 q (MX cy q) σ) H) (hS : va_S (gA 39 q) s.heap H locs) (ls : Array Slot) (hl : lv_has ls 4 [(0, .ref (q (0))), (1, .int x1)]) (hp : K2 x1 σ = some (r, u)), W p l e rmX9_agree s m args below meth c H locs 0 0 (MQ below (gQv D vwCl (gS 39 q (MX cy q) u) (gA 39 q)) args s 0 0 (gA 39 q)) (F0 m 2 ls [])) {H : Heap} {locs : List Loc} {σ : TS} {x1 : Int32} {sx0 : Int32} (hP : va_P D vwCl (gS 39 q (MX cy q) σ) H) (hS : va_S (gA 39 q) s.heap H locs) {ls : Array Slot} (hl : lv_has ls 4 [(0, .ref (q (0))), (1, .int x1)]) (hp : sX9_agree_38 K2 x1 sx0 σ = some (r, u)) : W p l e rmX9_agree s m args below meth c H locs 0 0 (MQ below (gQv D vwCl (gS 39 q (MX cy q) u) (gA 39 q)) args s 0 0 (gA 39 q)) (F0 m 38 ls [.int sx0]) := by
  obtain ⟨hx, hb, hr, hml, hown, hts, hlocks⟩ := id C0
  unfold sX9_agree_38 at hp
  refine lv_istore_n (lv' := [(2, .int sx0), (0, .ref (q (0))), (1, .int x1)]) hx hb dX9_agree_38 rfl hl (by decide) rfl (fun ls hl => ?_)
  refine lv_iload_n hx hb dX9_agree_39 rfl (lv_at hl 0 rfl) ?_
  refine lv_aload_n hx hb dX9_agree_40 rfl (lv_at hl 1 rfl) ?_
  refine g_get (v := .ref (q (27))) hx hb hts miX9_agree_X9 hown hK hP (kk_Mod) (ce_Mod) rfl 29 (by decide) mwX9_agree_0 rfl dX9_agree_41 ?_
  refine lv_iload_n hx hb dX9_agree_44 rfl (lv_at hl 2 rfl) ?_
  obtain ⟨hi8, hp⟩ := o_chk hp
  refine g_iald (j := x1.toNatClampNeg) hx hb hK hP (kk_M_agreed) (ce_M_agreed) 0 rfl (vin_of hi8) rfl dX9_agree_45 ?_
  refine lv_isub hx hb dX9_agree_46 ?_
  refine lv_aload_n hx hb dX9_agree_47 rfl (lv_at hl 1 rfl) ?_
  refine g_get (v := .ref (q (27))) hx hb hts miX9_agree_X9 hown hK hP (kk_Mod) (ce_Mod) rfl 29 (by decide) mwX9_agree_0 rfl dX9_agree_48 ?_
  refine lv_iload_n hx hb dX9_agree_51 rfl (lv_at hl 2 rfl) ?_
  refine g_iald (j := x1.toNatClampNeg) hx hb hK hP (kk_M_agreed) (ce_M_agreed) 0 rfl (vin_of hi8) rfl dX9_agree_52 ?_
  refine lv_iload_n hx hb dX9_agree_53 rfl (lv_at hl 0 rfl) ?_
  refine lv_isub hx hb dX9_agree_54 ?_
  obtain ⟨⟨r9, u10⟩, hq11, hp⟩ := o_b hp
  refine g_cSi (As := [.int (sx0 - (σ 27 (x1.toNatClampNeg))), .int ((σ 27 (x1.toNatClampNeg)) - sx0)]) (rest := []) hx hb hml hown hts hK hP hS (mX9_greater l hJ hq11) (va_cwS 2 hts gX9_agree_X9_greater rfl rfl rfl nVX9_greater ⟨Nat.le_of_ble_eq_true rfl, Nat.le_of_ble_eq_true rfl⟩) rfl hl.1 rfl (Nat.le_of_ble_eq_true rfl) dX9_agree_55 ⟨Nat.le_of_ble_eq_true rfl, Nat.le_of_ble_eq_true rfl⟩ (fun H locs hP hS => ?_)
  exact kX9_agree_58 C0 hK hJ kh2  hP hS (lv_sub hl [1, 2, 0] rfl) hp
def sX9_agree_2 : Nat → Int32 → TS → Option (Int32 × TS)
  | 0, _, _ => none
  | n + 1, x1, σ => (if ((4 : Int32)) ≤ x1 then some (0, σ) else (if vin (x1 * ((3 : Int32))) 12 = true then (if vin ((x1 * ((3 : Int32))) + ((1 : Int32))) 12 = true then (if vin ((x1 * ((3 : Int32))) + ((2 : Int32))) 12 = true then ((sX9_middle (σ 25 ((x1 * ((3 : Int32))).toNatClampNeg)) (σ 25 (((x1 * ((3 : Int32))) + ((1 : Int32))).toNatClampNeg)) (σ 25 (((x1 * ((3 : Int32))) + ((2 : Int32))).toNatClampNeg)) σ).bind (fun z => sX9_agree_38 (sX9_agree_2 n) x1 z.1 z.2)) else none) else none) else none))
set_option maxHeartbeats 4000000 in
set_option maxRecDepth 100000 in
theorem kX9_agree_2 {r : Int32} {u : TS} (C0 : gC RX9 cX9_agree 4 none wsX9_agree p s m args meth c) (hK : va_K D vwCl (tyL cy) s) (hJ : gJ 39 q) : ∀ (n : Nat) (H : Heap) (locs : List Loc) (σ : TS) (x1 : Int32) (hP : va_P D vwCl (gS 39 q (MX cy q) σ) H) (hS : va_S (gA 39 q) s.heap H locs) (ls : Array Slot) (hl : lv_has ls 4 [(0, .ref (q (0))), (1, .int x1)]) (hp : sX9_agree_2 n x1 σ = some (r, u)), W p l e rmX9_agree s m args below meth c H locs 0 0 (MQ below (gQv D vwCl (gS 39 q (MX cy q) u) (gA 39 q)) args s 0 0 (gA 39 q)) (F0 m 2 ls []) := by
  obtain ⟨hx, hb, hr, hml, hown, hts, hlocks⟩ := id C0
  intro n
  induction n with
  | zero =>
    intro H locs σ x1 hP hS ls hl hp
    cases hp
  | succ n ih =>
    intro H locs σ x1 hP hS ls hl hp
    unfold sX9_agree_2 at hp
    refine lv_iload_n hx hb dX9_agree_2 rfl (lv_at hl 1 rfl) ?_
    refine lv_iconst (v := (4 : Int32)) hx hb dX9_agree_3 (by decide) ?_
    refine lv_icmp_ge (tgt := 130) hx hb dX9_agree_4 (by decide) (fun hcd12 => ?_) (fun hcd12 => ?_)
    · have hp := o_t hp hcd12
      obtain ⟨rfl, rfl⟩ := o_r hp
      exact W.vret hx hb hr (fun t ht hW => ⟨⟨(), rfl, trivial, by subst ht; exact hP⟩, hS.F ht⟩) hS.2.2 dX9_agree_130
    · have hp := o_f hp hcd12
      refine lv_aload_n hx hb dX9_agree_7 rfl (lv_at hl 0 rfl) ?_
      refine g_get (v := .ref (q (25))) hx hb hts miX9_agree_X9 hown hK hP (kk_Mod) (ce_Mod) rfl 27 (by decide) mwX9_agree_3 rfl dX9_agree_8 ?_
      refine lv_iload_n hx hb dX9_agree_11 rfl (lv_at hl 1 rfl) ?_
      refine lv_iconst (v := (3 : Int32)) hx hb dX9_agree_12 (by decide) ?_
      refine lv_imul hx hb dX9_agree_13 ?_
      obtain ⟨hi13, hp⟩ := o_chk hp
      refine g_iald (j := (x1 * ((3 : Int32))).toNatClampNeg) hx hb hK hP (kk_M_readings) (ce_M_readings) 0 rfl (vin_of hi13) rfl dX9_agree_14 ?_
      refine lv_aload_n hx hb dX9_agree_15 rfl (lv_at hl 0 rfl) ?_
      refine g_get (v := .ref (q (25))) hx hb hts miX9_agree_X9 hown hK hP (kk_Mod) (ce_Mod) rfl 27 (by decide) mwX9_agree_3 rfl dX9_agree_16 ?_
      refine lv_iload_n hx hb dX9_agree_19 rfl (lv_at hl 1 rfl) ?_
      refine lv_iconst (v := (3 : Int32)) hx hb dX9_agree_20 (by decide) ?_
      refine lv_imul hx hb dX9_agree_21 ?_
      refine lv_iconst (v := (1 : Int32)) hx hb dX9_agree_22 (by decide) ?_
      refine lv_iadd hx hb dX9_agree_23 ?_
      obtain ⟨hi14, hp⟩ := o_chk hp
      refine g_iald (j := ((x1 * ((3 : Int32))) + ((1 : Int32))).toNatClampNeg) hx hb hK hP (kk_M_readings) (ce_M_readings) 0 rfl (vin_of hi14) rfl dX9_agree_24 ?_
      refine lv_aload_n hx hb dX9_agree_25 rfl (lv_at hl 0 rfl) ?_
      refine g_get (v := .ref (q (25))) hx hb hts miX9_agree_X9 hown hK hP (kk_Mod) (ce_Mod) rfl 27 (by decide) mwX9_agree_3 rfl dX9_agree_26 ?_
      refine lv_iload_n hx hb dX9_agree_29 rfl (lv_at hl 1 rfl) ?_
      refine lv_iconst (v := (3 : Int32)) hx hb dX9_agree_30 (by decide) ?_
      refine lv_imul hx hb dX9_agree_31 ?_
      refine lv_iconst (v := (2 : Int32)) hx hb dX9_agree_32 (by decide) ?_
      refine lv_iadd hx hb dX9_agree_33 ?_
      obtain ⟨hi15, hp⟩ := o_chk hp
      refine g_iald (j := ((x1 * ((3 : Int32))) + ((2 : Int32))).toNatClampNeg) hx hb hK hP (kk_M_readings) (ce_M_readings) 0 rfl (vin_of hi15) rfl dX9_agree_34 ?_
      obtain ⟨⟨r16, u17⟩, hq18, hp⟩ := o_b hp
      refine g_cSi (As := [.int (σ 25 ((x1 * ((3 : Int32))).toNatClampNeg)), .int (σ 25 (((x1 * ((3 : Int32))) + ((1 : Int32))).toNatClampNeg)), .int (σ 25 (((x1 * ((3 : Int32))) + ((2 : Int32))).toNatClampNeg))]) (rest := []) hx hb hml hown hts hK hP hS (mX9_middle l hJ hq18) (va_cwS 3 hts gX9_agree_X9_middle rfl rfl rfl nVX9_middle ⟨Nat.le_of_ble_eq_true rfl, Nat.le_of_ble_eq_true rfl⟩) rfl hl.1 rfl (Nat.le_of_ble_eq_true rfl) dX9_agree_35 ⟨Nat.le_of_ble_eq_true rfl, Nat.le_of_ble_eq_true rfl⟩ (fun H locs hP hS => ?_)
      exact kX9_agree_38 C0 hK hJ ih  hP hS hl hp
def sX9_agree_0 (σ : TS) : Option (Int32 × TS) := sX9_agree_2 5 ((0 : Int32)) σ
set_option maxHeartbeats 4000000 in
set_option maxRecDepth 100000 in
theorem kX9_agree_0 {r : Int32} {u : TS} (C0 : gC RX9 cX9_agree 4 none wsX9_agree p s m args meth c) (hK : va_K D vwCl (tyL cy) s) (hJ : gJ 39 q) {H : Heap} {locs : List Loc} {σ : TS} (hP : va_P D vwCl (gS 39 q (MX cy q) σ) H) (hS : va_S (gA 39 q) s.heap H locs) {ls : Array Slot} (hl : lv_has ls 4 [(0, .ref (q (0)))]) (hp : sX9_agree_0 σ = some (r, u)) : W p l e rmX9_agree s m args below meth c H locs 0 0 (MQ below (gQv D vwCl (gS 39 q (MX cy q) u) (gA 39 q)) args s 0 0 (gA 39 q)) (F0 m 0 ls []) := by
  obtain ⟨hx, hb, hr, hml, hown, hts, hlocks⟩ := id C0
  unfold sX9_agree_0 at hp
  refine lv_iconst (v := (0 : Int32)) hx hb dX9_agree_0 (by decide) ?_
  refine lv_istore_n (lv' := [(1, .int ((0 : Int32))), (0, .ref (q (0)))]) hx hb dX9_agree_1 rfl hl (by decide) rfl (fun ls hl => ?_)
  exact kX9_agree_2 C0 hK hJ _ _ _ _ _  hP hS _ (lv_sub hl [1, 0] rfl) hp
def sX9_agree (σ : TS) : Option (Int32 × TS) := sX9_agree_0 σ
theorem nVX9_agree : yX9_agree.cls = RX9 ∧ yX9_agree.cls ≠ "java/lang/invoke/MethodHandle" ∧ yX9_agree.cls ≠ "java/lang/invoke/VarHandle" ∧ (parseMethodDescriptor yX9_agree.desc).map (fun d => d.parameters.length) = some 0 := by decide +kernel
set_option maxHeartbeats 4000000 in
set_option maxRecDepth 100000 in
theorem mX9_agree (l : Launch) (hJ : gJ 39 q) {σ : TS} {r : Int32} {u : TS} (hp : sX9_agree σ = some (r, u)) : Met l yX9_agree wsX9_agree rmX9_agree (va_Pc [.ref (q (0))] (gPre D vwCl (tyL cy) (gS 39 q (MX cy q) σ))) (gQv D vwCl (gS 39 q (MX cy q) u) (gA 39 q)) 0 0 (gA 39 q) := by
  refine Met.ofW (cc := cX9_agree) (maxL := 4) (ret := none) (by decide +kernel) rfl ?_
  intro p e s m args below meth c s₁ B hml hv
  obtain ⟨rfl, hP, hK⟩ := hv
  have hl := lv_entry ([.ref (q (0))]) (n := 4) (Nat.le_of_ble_eq_true rfl)
  rw [lg_entry_eq]
  generalize (lg_sl ([.ref (q (0))]) ++ List.replicate (4 - (lg_sl ([.ref (q (0))])).length) Slot.unset).toArray = ls at hl ⊢
  have hl : lv_has ls 4 [(0, .ref (q (0)))] := hl
  exact kX9_agree_0 ⟨B.exec, B.bytes, B.returns, hml, findClass_of_methodNamed B.named, atoms_spec (ws := wsX9_agree) B.pre, B.notSynchronized⟩ hK hJ  hP va_S.rf hl hp
theorem miX9_keepClocks_X9 : ∀ w ∈ u_ws RX9 TX9 44, w ∈ wsX9_keepClocks := by decide +kernel
theorem mwX9_keepClocks_0 : Cond.fieldLink RX9 48 "TriplaneModel" "clocks" "[I" ∈ wsX9_keepClocks := by decide +kernel
theorem mwX9_keepClocks_1 : Cond.fieldLink RX9 51 "TriplaneModel" "told" "[I" ∈ wsX9_keepClocks := by decide +kernel
theorem mwX9_keepClocks_2 : Cond.fieldLink RX9 96 "TriplaneModel" "lies" "[I" ∈ wsX9_keepClocks := by decide +kernel
theorem mwX9_keepClocks_3 : Cond.fieldLink RX9 54 "TriplaneModel" "drifts" "[I" ∈ wsX9_keepClocks := by decide +kernel
abbrev rmX9_keepClocks : Room := { frames := 2, cells := 0, slots := 0, locals := 43 }
def sX9_keepClocks_116 (K51 : Int32 → TS → Option (Int32 × TS)) (x1 : Int32) (sx1 : Int32) (sx2 : Int32) (σ : TS) : Option (Int32 × TS) := (if vin sx1 4 = true then K51 (x1 + (1 : Int32)) (st2 σ 13 (sx1.toNatClampNeg) sx2) else none)
set_option maxHeartbeats 4000000 in
set_option maxRecDepth 100000 in
theorem kX9_keepClocks_116 {r : Int32} {u : TS} {K51 : Int32 → TS → Option (Int32 × TS)} (C0 : gC RX9 cX9_keepClocks 4 none wsX9_keepClocks p s m args meth c) (hK : va_K D vwCl (tyL cy) s) (hJ : gJ 39 q) (kh51 : ∀ (H : Heap) (locs : List Loc) (σ : TS) (x1 : Int32) (hP : va_P D vwCl (gS 39 q (MX cy q) σ) H) (hS : va_S (gA 39 q) s.heap H locs) (ls : Array Slot) (hl : lv_has ls 4 [(0, .ref (q (0))), (1, .int x1)]) (hp : K51 x1 σ = some (r, u)), W p l e rmX9_keepClocks s m args below meth c H locs 0 0 (MQ below (gQv D vwCl (gS 39 q (MX cy q) u) (gA 39 q)) args s 0 0 (gA 39 q)) (F0 m 51 ls [])) {H : Heap} {locs : List Loc} {σ : TS} {x1 : Int32} {sx1 : Int32} {sx2 : Int32} (hP : va_P D vwCl (gS 39 q (MX cy q) σ) H) (hS : va_S (gA 39 q) s.heap H locs) {ls : Array Slot} (hl : lv_has ls 4 [(0, .ref (q (0))), (1, .int x1)]) (hp : sX9_keepClocks_116 K51 x1 sx1 sx2 σ = some (r, u)) : W p l e rmX9_keepClocks s m args below meth c H locs 0 0 (MQ below (gQv D vwCl (gS 39 q (MX cy q) u) (gA 39 q)) args s 0 0 (gA 39 q)) (F0 m 116 ls [.int sx2, .int sx1, .ref (q (13))]) := by
  obtain ⟨hx, hb, hr, hml, hown, hts, hlocks⟩ := id C0
  unfold sX9_keepClocks_116 at hp
  obtain ⟨hi1, hp⟩ := o_chk hp
  refine g_iast (j := sx1.toNatClampNeg) hx hb hK hJ hP hS (kk_M_clocks) (ce_M_clocks) 0 rfl (vin_of hi1) rfl dX9_keepClocks_116 (fun H locs hP hS => ?_)
  refine lv_iinc (v := x1 + (1 : Int32)) (lv' := [(1, .int (x1 + (1 : Int32))), (0, .ref (q (0)))]) hx hb dX9_keepClocks_117 hl (k := 1) rfl rfl (by decide) rfl (fun ls hl => ?_)
  refine lv_goto (tgt := 51) hx hb dX9_keepClocks_120 (by decide) ?_
  exact kh51 _ _ _ _  hP hS _ (lv_sub hl [1, 0] rfl) hp
def sX9_keepClocks_51 : Nat → Int32 → TS → Option (Int32 × TS)
  | 0, _, _ => none
  | n + 1, x1, σ => (if ((3 : Int32)) ≤ x1 then some (0, σ) else (if vin x1 4 = true then (if vin ((x1 + ((1 : Int32))) - (x1 + ((1 : Int32))) / ((3 : Int32)) * ((3 : Int32))) 4 = true then (if vin ((((x1 + ((1 : Int32))) - (x1 + ((1 : Int32))) / ((3 : Int32)) * ((3 : Int32))) * ((3 : Int32))) + x1) 9 = true then (if vin ((x1 + ((2 : Int32))) - (x1 + ((2 : Int32))) / ((3 : Int32)) * ((3 : Int32))) 4 = true then (if vin ((((x1 + ((2 : Int32))) - (x1 + ((2 : Int32))) / ((3 : Int32)) * ((3 : Int32))) * ((3 : Int32))) + x1) 9 = true then ((sX9_middle (σ 14 (x1.toNatClampNeg)) ((σ 14 (((x1 + ((1 : Int32))) - (x1 + ((1 : Int32))) / ((3 : Int32)) * ((3 : Int32))).toNatClampNeg)) + (σ 29 (((((x1 + ((1 : Int32))) - (x1 + ((1 : Int32))) / ((3 : Int32)) * ((3 : Int32))) * ((3 : Int32))) + x1).toNatClampNeg))) ((σ 14 (((x1 + ((2 : Int32))) - (x1 + ((2 : Int32))) / ((3 : Int32)) * ((3 : Int32))).toNatClampNeg)) + (σ 29 (((((x1 + ((2 : Int32))) - (x1 + ((2 : Int32))) / ((3 : Int32)) * ((3 : Int32))) * ((3 : Int32))) + x1).toNatClampNeg))) σ).bind (fun z => sX9_keepClocks_116 (sX9_keepClocks_51 n) x1 x1 z.1 z.2)) else none) else none) else none) else none) else none))
set_option maxHeartbeats 4000000 in
set_option maxRecDepth 100000 in
theorem kX9_keepClocks_51 {r : Int32} {u : TS} (C0 : gC RX9 cX9_keepClocks 4 none wsX9_keepClocks p s m args meth c) (hK : va_K D vwCl (tyL cy) s) (hJ : gJ 39 q) : ∀ (n : Nat) (H : Heap) (locs : List Loc) (σ : TS) (x1 : Int32) (hP : va_P D vwCl (gS 39 q (MX cy q) σ) H) (hS : va_S (gA 39 q) s.heap H locs) (ls : Array Slot) (hl : lv_has ls 4 [(0, .ref (q (0))), (1, .int x1)]) (hp : sX9_keepClocks_51 n x1 σ = some (r, u)), W p l e rmX9_keepClocks s m args below meth c H locs 0 0 (MQ below (gQv D vwCl (gS 39 q (MX cy q) u) (gA 39 q)) args s 0 0 (gA 39 q)) (F0 m 51 ls []) := by
  obtain ⟨hx, hb, hr, hml, hown, hts, hlocks⟩ := id C0
  intro n
  induction n with
  | zero =>
    intro H locs σ x1 hP hS ls hl hp
    cases hp
  | succ n ih =>
    intro H locs σ x1 hP hS ls hl hp
    unfold sX9_keepClocks_51 at hp
    refine lv_iload_n hx hb dX9_keepClocks_51 rfl (lv_at hl 1 rfl) ?_
    refine lv_iconst (v := (3 : Int32)) hx hb dX9_keepClocks_52 (by decide) ?_
    refine lv_icmp_ge (tgt := 123) hx hb dX9_keepClocks_53 (by decide) (fun hcd2 => ?_) (fun hcd2 => ?_)
    · have hp := o_t hp hcd2
      obtain ⟨rfl, rfl⟩ := o_r hp
      exact W.vret hx hb hr (fun t ht hW => ⟨⟨(), rfl, trivial, by subst ht; exact hP⟩, hS.F ht⟩) hS.2.2 dX9_keepClocks_123
    · have hp := o_f hp hcd2
      refine lv_iload_n hx hb dX9_keepClocks_56 rfl (lv_at hl 1 rfl) ?_
      refine lv_iconst (v := (1 : Int32)) hx hb dX9_keepClocks_57 (by decide) ?_
      refine lv_iadd hx hb dX9_keepClocks_58 ?_
      refine lv_iconst (v := (3 : Int32)) hx hb dX9_keepClocks_59 (by decide) ?_
      refine lv_irem hx hb dX9_keepClocks_60 (by decide) ?_
      refine lv_istore_n (lv' := [(2, .int ((x1 + ((1 : Int32))) - (x1 + ((1 : Int32))) / ((3 : Int32)) * ((3 : Int32)))), (0, .ref (q (0))), (1, .int x1)]) hx hb dX9_keepClocks_61 rfl hl (by decide) rfl (fun ls hl => ?_)
      refine lv_iload_n hx hb dX9_keepClocks_62 rfl (lv_at hl 2 rfl) ?_
      refine lv_iconst (v := (2 : Int32)) hx hb dX9_keepClocks_63 (by decide) ?_
      refine lv_iadd hx hb dX9_keepClocks_64 ?_
      refine lv_iconst (v := (3 : Int32)) hx hb dX9_keepClocks_65 (by decide) ?_
      refine lv_irem hx hb dX9_keepClocks_66 (by decide) ?_
      refine lv_istore_n (lv' := [(3, .int ((x1 + ((2 : Int32))) - (x1 + ((2 : Int32))) / ((3 : Int32)) * ((3 : Int32)))), (2, .int ((x1 + ((1 : Int32))) - (x1 + ((1 : Int32))) / ((3 : Int32)) * ((3 : Int32)))), (0, .ref (q (0))), (1, .int x1)]) hx hb dX9_keepClocks_67 rfl hl (by decide) rfl (fun ls hl => ?_)
      refine lv_aload_n hx hb dX9_keepClocks_68 rfl (lv_at hl 2 rfl) ?_
      refine g_get (v := .ref (q (13))) hx hb hts miX9_keepClocks_X9 hown hK hP (kk_Mod) (ce_Mod) rfl 15 (by decide) mwX9_keepClocks_0 rfl dX9_keepClocks_69 ?_
      refine lv_iload_n hx hb dX9_keepClocks_72 rfl (lv_at hl 3 rfl) ?_
      refine lv_aload_n hx hb dX9_keepClocks_73 rfl (lv_at hl 2 rfl) ?_
      refine g_get (v := .ref (q (14))) hx hb hts miX9_keepClocks_X9 hown hK hP (kk_Mod) (ce_Mod) rfl 16 (by decide) mwX9_keepClocks_1 rfl dX9_keepClocks_74 ?_
      refine lv_iload_n hx hb dX9_keepClocks_77 rfl (lv_at hl 3 rfl) ?_
      obtain ⟨hi3, hp⟩ := o_chk hp
      refine g_iald (j := x1.toNatClampNeg) hx hb hK hP (kk_M_told) (ce_M_told) 0 rfl (vin_of hi3) rfl dX9_keepClocks_78 ?_
      refine lv_aload_n hx hb dX9_keepClocks_79 rfl (lv_at hl 2 rfl) ?_
      refine g_get (v := .ref (q (14))) hx hb hts miX9_keepClocks_X9 hown hK hP (kk_Mod) (ce_Mod) rfl 16 (by decide) mwX9_keepClocks_1 rfl dX9_keepClocks_80 ?_
      refine lv_iload_n hx hb dX9_keepClocks_83 rfl (lv_at hl 1 rfl) ?_
      obtain ⟨hi4, hp⟩ := o_chk hp
      refine g_iald (j := ((x1 + ((1 : Int32))) - (x1 + ((1 : Int32))) / ((3 : Int32)) * ((3 : Int32))).toNatClampNeg) hx hb hK hP (kk_M_told) (ce_M_told) 0 rfl (vin_of hi4) rfl dX9_keepClocks_84 ?_
      refine lv_aload_n hx hb dX9_keepClocks_85 rfl (lv_at hl 2 rfl) ?_
      refine g_get (v := .ref (q (29))) hx hb hts miX9_keepClocks_X9 hown hK hP (kk_Mod) (ce_Mod) rfl 31 (by decide) mwX9_keepClocks_2 rfl dX9_keepClocks_86 ?_
      refine lv_iload_n hx hb dX9_keepClocks_89 rfl (lv_at hl 1 rfl) ?_
      refine lv_iconst (v := (3 : Int32)) hx hb dX9_keepClocks_90 (by decide) ?_
      refine lv_imul hx hb dX9_keepClocks_91 ?_
      refine lv_iload_n hx hb dX9_keepClocks_92 rfl (lv_at hl 3 rfl) ?_
      refine lv_iadd hx hb dX9_keepClocks_93 ?_
      obtain ⟨hi5, hp⟩ := o_chk hp
      refine g_iald (j := ((((x1 + ((1 : Int32))) - (x1 + ((1 : Int32))) / ((3 : Int32)) * ((3 : Int32))) * ((3 : Int32))) + x1).toNatClampNeg) hx hb hK hP (kk_M_lies) (ce_M_lies) 0 rfl (vin_of hi5) rfl dX9_keepClocks_94 ?_
      refine lv_iadd hx hb dX9_keepClocks_95 ?_
      refine lv_aload_n hx hb dX9_keepClocks_96 rfl (lv_at hl 2 rfl) ?_
      refine g_get (v := .ref (q (14))) hx hb hts miX9_keepClocks_X9 hown hK hP (kk_Mod) (ce_Mod) rfl 16 (by decide) mwX9_keepClocks_1 rfl dX9_keepClocks_97 ?_
      refine lv_iload_n hx hb dX9_keepClocks_100 rfl (lv_at hl 0 rfl) ?_
      obtain ⟨hi6, hp⟩ := o_chk hp
      refine g_iald (j := ((x1 + ((2 : Int32))) - (x1 + ((2 : Int32))) / ((3 : Int32)) * ((3 : Int32))).toNatClampNeg) hx hb hK hP (kk_M_told) (ce_M_told) 0 rfl (vin_of hi6) rfl dX9_keepClocks_101 ?_
      refine lv_aload_n hx hb dX9_keepClocks_102 rfl (lv_at hl 2 rfl) ?_
      refine g_get (v := .ref (q (29))) hx hb hts miX9_keepClocks_X9 hown hK hP (kk_Mod) (ce_Mod) rfl 31 (by decide) mwX9_keepClocks_2 rfl dX9_keepClocks_103 ?_
      refine lv_iload_n hx hb dX9_keepClocks_106 rfl (lv_at hl 0 rfl) ?_
      refine lv_iconst (v := (3 : Int32)) hx hb dX9_keepClocks_107 (by decide) ?_
      refine lv_imul hx hb dX9_keepClocks_108 ?_
      refine lv_iload_n hx hb dX9_keepClocks_109 rfl (lv_at hl 3 rfl) ?_
      refine lv_iadd hx hb dX9_keepClocks_110 ?_
      obtain ⟨hi7, hp⟩ := o_chk hp
      refine g_iald (j := ((((x1 + ((2 : Int32))) - (x1 + ((2 : Int32))) / ((3 : Int32)) * ((3 : Int32))) * ((3 : Int32))) + x1).toNatClampNeg) hx hb hK hP (kk_M_lies) (ce_M_lies) 0 rfl (vin_of hi7) rfl dX9_keepClocks_111 ?_
      refine lv_iadd hx hb dX9_keepClocks_112 ?_
      obtain ⟨⟨r8, u9⟩, hq10, hp⟩ := o_b hp
      refine g_cSi (As := [.int (σ 14 (x1.toNatClampNeg)), .int ((σ 14 (((x1 + ((1 : Int32))) - (x1 + ((1 : Int32))) / ((3 : Int32)) * ((3 : Int32))).toNatClampNeg)) + (σ 29 (((((x1 + ((1 : Int32))) - (x1 + ((1 : Int32))) / ((3 : Int32)) * ((3 : Int32))) * ((3 : Int32))) + x1).toNatClampNeg))), .int ((σ 14 (((x1 + ((2 : Int32))) - (x1 + ((2 : Int32))) / ((3 : Int32)) * ((3 : Int32))).toNatClampNeg)) + (σ 29 (((((x1 + ((2 : Int32))) - (x1 + ((2 : Int32))) / ((3 : Int32)) * ((3 : Int32))) * ((3 : Int32))) + x1).toNatClampNeg)))]) (rest := [.int x1, .ref (q (13))]) hx hb hml hown hts hK hP hS (mX9_middle l hJ hq10) (va_cwS 3 hts gX9_keepClocks_X9_middle rfl rfl rfl nVX9_middle ⟨Nat.le_of_ble_eq_true rfl, Nat.le_of_ble_eq_true rfl⟩) rfl hl.1 rfl (Nat.le_of_ble_eq_true rfl) dX9_keepClocks_113 ⟨Nat.le_of_ble_eq_true rfl, Nat.le_of_ble_eq_true rfl⟩ (fun H locs hP hS => ?_)
      exact kX9_keepClocks_116 C0 hK hJ ih  hP hS (lv_sub hl [2, 3] rfl) hp
def sX9_keepClocks_44 (sx0 : Int32) (σ : TS) : Option (Int32 × TS) := (if ((3 : Int32)) ≤ sx0 then sX9_keepClocks_51 4 ((0 : Int32)) σ else some (0, σ))
set_option maxHeartbeats 4000000 in
set_option maxRecDepth 100000 in
theorem kX9_keepClocks_44 {r : Int32} {u : TS} (C0 : gC RX9 cX9_keepClocks 4 none wsX9_keepClocks p s m args meth c) (hK : va_K D vwCl (tyL cy) s) (hJ : gJ 39 q) {H : Heap} {locs : List Loc} {σ : TS} {sx0 : Int32} (hP : va_P D vwCl (gS 39 q (MX cy q) σ) H) (hS : va_S (gA 39 q) s.heap H locs) {ls : Array Slot} (hl : lv_has ls 4 [(0, .ref (q (0)))]) (hp : sX9_keepClocks_44 sx0 σ = some (r, u)) : W p l e rmX9_keepClocks s m args below meth c H locs 0 0 (MQ below (gQv D vwCl (gS 39 q (MX cy q) u) (gA 39 q)) args s 0 0 (gA 39 q)) (F0 m 44 ls [.int sx0]) := by
  obtain ⟨hx, hb, hr, hml, hown, hts, hlocks⟩ := id C0
  unfold sX9_keepClocks_44 at hp
  refine lv_iconst (v := (3 : Int32)) hx hb dX9_keepClocks_44 (by decide) ?_
  refine lv_icmp_ge (tgt := 49) hx hb dX9_keepClocks_45 (by decide) (fun hcd11 => ?_) (fun hcd11 => ?_)
  · have hp := o_t hp hcd11
    refine lv_iconst (v := (0 : Int32)) hx hb dX9_keepClocks_49 (by decide) ?_
    refine lv_istore_n (lv' := [(1, .int ((0 : Int32))), (0, .ref (q (0)))]) hx hb dX9_keepClocks_50 rfl hl (by decide) rfl (fun ls hl => ?_)
    exact kX9_keepClocks_51 C0 hK hJ _ _ _ _ _  hP hS _ (lv_sub hl [1, 0] rfl) hp
  · have hp := o_f hp hcd11
    obtain ⟨rfl, rfl⟩ := o_r hp
    exact W.vret hx hb hr (fun t ht hW => ⟨⟨(), rfl, trivial, by subst ht; exact hP⟩, hS.F ht⟩) hS.2.2 dX9_keepClocks_48
def sX9_keepClocks_2 : Nat → Int32 → TS → Option (Int32 × TS)
  | 0, _, _ => none
  | n + 1, x1, σ => (if ((3 : Int32)) ≤ x1 then ((sX9_on σ).bind (fun z => sX9_keepClocks_44 z.1 z.2)) else (if vin x1 4 = true then sX9_keepClocks_2 n (x1 + (1 : Int32)) (st2 (st2 σ 13 (x1.toNatClampNeg) ((σ 13 (x1.toNatClampNeg)) + (σ 15 (x1.toNatClampNeg)))) 14 (x1.toNatClampNeg) ((st2 σ 13 (x1.toNatClampNeg) ((σ 13 (x1.toNatClampNeg)) + (σ 15 (x1.toNatClampNeg)))) 13 (x1.toNatClampNeg))) else none))
set_option maxHeartbeats 4000000 in
set_option maxRecDepth 100000 in
theorem kX9_keepClocks_2 {r : Int32} {u : TS} (C0 : gC RX9 cX9_keepClocks 4 none wsX9_keepClocks p s m args meth c) (hK : va_K D vwCl (tyL cy) s) (hJ : gJ 39 q) : ∀ (n : Nat) (H : Heap) (locs : List Loc) (σ : TS) (x1 : Int32) (hP : va_P D vwCl (gS 39 q (MX cy q) σ) H) (hS : va_S (gA 39 q) s.heap H locs) (ls : Array Slot) (hl : lv_has ls 4 [(0, .ref (q (0))), (1, .int x1)]) (hp : sX9_keepClocks_2 n x1 σ = some (r, u)), W p l e rmX9_keepClocks s m args below meth c H locs 0 0 (MQ below (gQv D vwCl (gS 39 q (MX cy q) u) (gA 39 q)) args s 0 0 (gA 39 q)) (F0 m 2 ls []) := by
  obtain ⟨hx, hb, hr, hml, hown, hts, hlocks⟩ := id C0
  intro n
  induction n with
  | zero =>
    intro H locs σ x1 hP hS ls hl hp
    cases hp
  | succ n ih =>
    intro H locs σ x1 hP hS ls hl hp
    unfold sX9_keepClocks_2 at hp
    refine lv_iload_n hx hb dX9_keepClocks_2 rfl (lv_at hl 1 rfl) ?_
    refine lv_iconst (v := (3 : Int32)) hx hb dX9_keepClocks_3 (by decide) ?_
    refine lv_icmp_ge (tgt := 40) hx hb dX9_keepClocks_4 (by decide) (fun hcd12 => ?_) (fun hcd12 => ?_)
    · have hp := o_t hp hcd12
      refine lv_aload_n hx hb dX9_keepClocks_40 rfl (lv_at hl 0 rfl) ?_
      obtain ⟨⟨r13, u14⟩, hq15, hp⟩ := o_b hp
      refine g_cVi (As := []) (rest := []) hx hb hml hown hts hK hP hS (mX9_on l hJ hq15) (cwV 0 hts gX9_keepClocks_X9_on rfl rfl rfl nVX9_on ⟨Nat.le_of_ble_eq_true rfl, Nat.le_of_ble_eq_true rfl⟩) (g_recv hK hP (kk_Mod) (ce_Mod) rfl) rfl hl.1 rfl (Nat.le_of_ble_eq_true rfl) dX9_keepClocks_41 ⟨Nat.le_of_ble_eq_true rfl, Nat.le_of_ble_eq_true rfl⟩ (fun H locs hP hS => ?_)
      exact kX9_keepClocks_44 C0 hK hJ  hP hS (lv_sub hl [0] rfl) hp
    · have hp := o_f hp hcd12
      refine lv_aload_n hx hb dX9_keepClocks_7 rfl (lv_at hl 0 rfl) ?_
      refine g_get (v := .ref (q (13))) hx hb hts miX9_keepClocks_X9 hown hK hP (kk_Mod) (ce_Mod) rfl 15 (by decide) mwX9_keepClocks_0 rfl dX9_keepClocks_8 ?_
      refine lv_iload_n hx hb dX9_keepClocks_11 rfl (lv_at hl 1 rfl) ?_
      refine lv_dup2_11 hx hb dX9_keepClocks_12 rfl rfl ?_
      obtain ⟨hi16, hp⟩ := o_chk hp
      refine g_iald (j := x1.toNatClampNeg) hx hb hK hP (kk_M_clocks) (ce_M_clocks) 0 rfl (vin_of hi16) rfl dX9_keepClocks_13 ?_
      refine lv_aload_n hx hb dX9_keepClocks_14 rfl (lv_at hl 0 rfl) ?_
      refine g_get (v := .ref (q (15))) hx hb hts miX9_keepClocks_X9 hown hK hP (kk_Mod) (ce_Mod) rfl 17 (by decide) mwX9_keepClocks_3 rfl dX9_keepClocks_15 ?_
      refine lv_iload_n hx hb dX9_keepClocks_18 rfl (lv_at hl 1 rfl) ?_
      refine g_iald (j := x1.toNatClampNeg) hx hb hK hP (kk_M_drifts) (ce_M_drifts) 0 rfl (vin_of hi16) rfl dX9_keepClocks_19 ?_
      refine lv_iadd hx hb dX9_keepClocks_20 ?_
      refine g_iast (j := x1.toNatClampNeg) hx hb hK hJ hP hS (kk_M_clocks) (ce_M_clocks) 0 rfl (vin_of hi16) rfl dX9_keepClocks_21 (fun H locs hP hS => ?_)
      refine lv_aload_n hx hb dX9_keepClocks_22 rfl (lv_at hl 0 rfl) ?_
      refine g_get (v := .ref (q (14))) hx hb hts miX9_keepClocks_X9 hown hK hP (kk_Mod) (ce_Mod) rfl 16 (by decide) mwX9_keepClocks_1 rfl dX9_keepClocks_23 ?_
      refine lv_iload_n hx hb dX9_keepClocks_26 rfl (lv_at hl 1 rfl) ?_
      refine lv_aload_n hx hb dX9_keepClocks_27 rfl (lv_at hl 0 rfl) ?_
      refine g_get (v := .ref (q (13))) hx hb hts miX9_keepClocks_X9 hown hK hP (kk_Mod) (ce_Mod) rfl 15 (by decide) mwX9_keepClocks_0 rfl dX9_keepClocks_28 ?_
      refine lv_iload_n hx hb dX9_keepClocks_31 rfl (lv_at hl 1 rfl) ?_
      refine g_iald (j := x1.toNatClampNeg) hx hb hK hP (kk_M_clocks) (ce_M_clocks) 0 rfl (vin_of hi16) rfl dX9_keepClocks_32 ?_
      refine g_iast (j := x1.toNatClampNeg) hx hb hK hJ hP hS (kk_M_told) (ce_M_told) 0 rfl (vin_of hi16) rfl dX9_keepClocks_33 (fun H locs hP hS => ?_)
      refine lv_iinc (v := x1 + (1 : Int32)) (lv' := [(1, .int (x1 + (1 : Int32))), (0, .ref (q (0)))]) hx hb dX9_keepClocks_34 hl (k := 1) rfl rfl (by decide) rfl (fun ls hl => ?_)
      refine lv_goto (tgt := 2) hx hb dX9_keepClocks_37 (by decide) ?_
      exact ih _ _ _ _  hP hS _ (lv_sub hl [1, 0] rfl) hp
def sX9_keepClocks_0 (σ : TS) : Option (Int32 × TS) := sX9_keepClocks_2 4 ((0 : Int32)) σ
set_option maxHeartbeats 4000000 in
set_option maxRecDepth 100000 in
theorem kX9_keepClocks_0 {r : Int32} {u : TS} (C0 : gC RX9 cX9_keepClocks 4 none wsX9_keepClocks p s m args meth c) (hK : va_K D vwCl (tyL cy) s) (hJ : gJ 39 q) {H : Heap} {locs : List Loc} {σ : TS} (hP : va_P D vwCl (gS 39 q (MX cy q) σ) H) (hS : va_S (gA 39 q) s.heap H locs) {ls : Array Slot} (hl : lv_has ls 4 [(0, .ref (q (0)))]) (hp : sX9_keepClocks_0 σ = some (r, u)) : W p l e rmX9_keepClocks s m args below meth c H locs 0 0 (MQ below (gQv D vwCl (gS 39 q (MX cy q) u) (gA 39 q)) args s 0 0 (gA 39 q)) (F0 m 0 ls []) := by
  obtain ⟨hx, hb, hr, hml, hown, hts, hlocks⟩ := id C0
  unfold sX9_keepClocks_0 at hp
  refine lv_iconst (v := (0 : Int32)) hx hb dX9_keepClocks_0 (by decide) ?_
  refine lv_istore_n (lv' := [(1, .int ((0 : Int32))), (0, .ref (q (0)))]) hx hb dX9_keepClocks_1 rfl hl (by decide) rfl (fun ls hl => ?_)
  exact kX9_keepClocks_2 C0 hK hJ _ _ _ _ _  hP hS _ (lv_sub hl [1, 0] rfl) hp
def sX9_keepClocks (σ : TS) : Option (Int32 × TS) := sX9_keepClocks_0 σ
theorem nVX9_keepClocks : yX9_keepClocks.cls = RX9 ∧ yX9_keepClocks.cls ≠ "java/lang/invoke/MethodHandle" ∧ yX9_keepClocks.cls ≠ "java/lang/invoke/VarHandle" ∧ (parseMethodDescriptor yX9_keepClocks.desc).map (fun d => d.parameters.length) = some 0 := by decide +kernel
set_option maxHeartbeats 4000000 in
set_option maxRecDepth 100000 in
theorem mX9_keepClocks (l : Launch) (hJ : gJ 39 q) {σ : TS} {r : Int32} {u : TS} (hp : sX9_keepClocks σ = some (r, u)) : Met l yX9_keepClocks wsX9_keepClocks rmX9_keepClocks (va_Pc [.ref (q (0))] (gPre D vwCl (tyL cy) (gS 39 q (MX cy q) σ))) (gQv D vwCl (gS 39 q (MX cy q) u) (gA 39 q)) 0 0 (gA 39 q) := by
  refine Met.ofW (cc := cX9_keepClocks) (maxL := 4) (ret := none) (by decide +kernel) rfl ?_
  intro p e s m args below meth c s₁ B hml hv
  obtain ⟨rfl, hP, hK⟩ := hv
  have hl := lv_entry ([.ref (q (0))]) (n := 4) (Nat.le_of_ble_eq_true rfl)
  rw [lg_entry_eq]
  generalize (lg_sl ([.ref (q (0))]) ++ List.replicate (4 - (lg_sl ([.ref (q (0))])).length) Slot.unset).toArray = ls at hl ⊢
  have hl : lv_has ls 4 [(0, .ref (q (0)))] := hl
  exact kX9_keepClocks_0 ⟨B.exec, B.bytes, B.returns, hml, findClass_of_methodNamed B.named, atoms_spec (ws := wsX9_keepClocks) B.pre, B.notSynchronized⟩ hK hJ  hP va_S.rf hl hp
theorem miX9_steer_X9 : ∀ w ∈ u_ws RX9 TX9 44, w ∈ wsX9_steer := by decide +kernel
theorem mwX9_steer_0 : Cond.fieldLink RX9 111 "TriplaneModel" "positions" "[I" ∈ wsX9_steer := by decide +kernel
theorem mwX9_steer_1 : Cond.fieldLink RX9 114 "TriplaneModel" "hasLetGo" "[Z" ∈ wsX9_steer := by decide +kernel
theorem mwX9_steer_2 : Cond.fieldLink RX9 75 "TriplaneModel" "outputs" "[I" ∈ wsX9_steer := by decide +kernel
theorem mwX9_steer_3 : Cond.fieldLink RX9 108 "TriplaneModel" "faults" "[I" ∈ wsX9_steer := by decide +kernel
abbrev rmX9_steer : Room := { frames := 2, cells := 0, slots := 0, locals := 43 }
def sX9_steer_135 (K2 : Int32 → TS → Option (Int32 × TS)) (x1 : Int32) (sx1 : Int32) (sx2 : Int32) (σ : TS) : Option (Int32 × TS) := (if vin sx1 4 = true then K2 (x1 + (1 : Int32)) (st2 σ 34 (sx1.toNatClampNeg) sx2) else none)
set_option maxHeartbeats 4000000 in
set_option maxRecDepth 100000 in
theorem kX9_steer_135 {r : Int32} {u : TS} {K2 : Int32 → TS → Option (Int32 × TS)} (C0 : gC RX9 cX9_steer 6 none wsX9_steer p s m args meth c) (hK : va_K D vwCl (tyL cy) s) (hJ : gJ 39 q) (kh2 : ∀ (H : Heap) (locs : List Loc) (σ : TS) (x1 : Int32) (hP : va_P D vwCl (gS 39 q (MX cy q) σ) H) (hS : va_S (gA 39 q) s.heap H locs) (ls : Array Slot) (hl : lv_has ls 6 [(0, .ref (q (0))), (1, .int x1)]) (hp : K2 x1 σ = some (r, u)), W p l e rmX9_steer s m args below meth c H locs 0 0 (MQ below (gQv D vwCl (gS 39 q (MX cy q) u) (gA 39 q)) args s 0 0 (gA 39 q)) (F0 m 2 ls [])) {H : Heap} {locs : List Loc} {σ : TS} {x1 : Int32} {sx1 : Int32} {sx2 : Int32} (hP : va_P D vwCl (gS 39 q (MX cy q) σ) H) (hS : va_S (gA 39 q) s.heap H locs) {ls : Array Slot} (hl : lv_has ls 6 [(0, .ref (q (0))), (1, .int x1)]) (hp : sX9_steer_135 K2 x1 sx1 sx2 σ = some (r, u)) : W p l e rmX9_steer s m args below meth c H locs 0 0 (MQ below (gQv D vwCl (gS 39 q (MX cy q) u) (gA 39 q)) args s 0 0 (gA 39 q)) (F0 m 135 ls [.int sx2, .int sx1, .ref (q (34))]) := by
  obtain ⟨hx, hb, hr, hml, hown, hts, hlocks⟩ := id C0
  unfold sX9_steer_135 at hp
  obtain ⟨hi1, hp⟩ := o_chk hp
  refine g_iast (j := sx1.toNatClampNeg) hx hb hK hJ hP hS (kk_M_positions) (ce_M_positions) 0 rfl (vin_of hi1) rfl dX9_steer_135 (fun H locs hP hS => ?_)
  refine lv_iinc (v := x1 + (1 : Int32)) (lv' := [(1, .int (x1 + (1 : Int32))), (0, .ref (q (0)))]) hx hb dX9_steer_136 hl (k := 1) rfl rfl (by decide) rfl (fun ls hl => ?_)
  refine lv_goto (tgt := 2) hx hb dX9_steer_139 (by decide) ?_
  exact kh2 _ _ _ _  hP hS _ (lv_sub hl [1, 0] rfl) hp
def sX9_steer_109 (K2 : Int32 → TS → Option (Int32 × TS)) (x1 : Int32) (x2 : Int32) (x3 : Int32) (x4 : Int32) (sx1 : Int32) (sx2 : Int32) (σ : TS) : Option (Int32 × TS) := (if vin sx1 4 = true then (if vin x1 4 = true then (if ((st2 σ 35 (sx1.toNatClampNeg) (vp_nar .boolean sx2)) 35 (x1.toNatClampNeg)) = 0 then ((sX9_middle x2 x3 x4 (st2 σ 35 (sx1.toNatClampNeg) (vp_nar .boolean sx2))).bind (fun z => sX9_steer_135 K2 x1 x1 z.1 z.2)) else sX9_steer_135 K2 x1 x1 ((0 : Int32)) (st2 σ 35 (sx1.toNatClampNeg) (vp_nar .boolean sx2))) else none) else none)
set_option maxHeartbeats 4000000 in
set_option maxRecDepth 100000 in
theorem kX9_steer_109 {r : Int32} {u : TS} {K2 : Int32 → TS → Option (Int32 × TS)} (C0 : gC RX9 cX9_steer 6 none wsX9_steer p s m args meth c) (hK : va_K D vwCl (tyL cy) s) (hJ : gJ 39 q) (kh2 : ∀ (H : Heap) (locs : List Loc) (σ : TS) (x1 : Int32) (hP : va_P D vwCl (gS 39 q (MX cy q) σ) H) (hS : va_S (gA 39 q) s.heap H locs) (ls : Array Slot) (hl : lv_has ls 6 [(0, .ref (q (0))), (1, .int x1)]) (hp : K2 x1 σ = some (r, u)), W p l e rmX9_steer s m args below meth c H locs 0 0 (MQ below (gQv D vwCl (gS 39 q (MX cy q) u) (gA 39 q)) args s 0 0 (gA 39 q)) (F0 m 2 ls [])) {H : Heap} {locs : List Loc} {σ : TS} {x1 : Int32} {x2 : Int32} {x3 : Int32} {x4 : Int32} {sx1 : Int32} {sx2 : Int32} (hP : va_P D vwCl (gS 39 q (MX cy q) σ) H) (hS : va_S (gA 39 q) s.heap H locs) {ls : Array Slot} (hl : lv_has ls 6 [(0, .ref (q (0))), (1, .int x1), (2, .int x2), (3, .int x3), (4, .int x4)]) (hp : sX9_steer_109 K2 x1 x2 x3 x4 sx1 sx2 σ = some (r, u)) : W p l e rmX9_steer s m args below meth c H locs 0 0 (MQ below (gQv D vwCl (gS 39 q (MX cy q) u) (gA 39 q)) args s 0 0 (gA 39 q)) (F0 m 109 ls [.int sx2, .int sx1, .ref (q (35))]) := by
  obtain ⟨hx, hb, hr, hml, hown, hts, hlocks⟩ := id C0
  unfold sX9_steer_109 at hp
  obtain ⟨hi2, hp⟩ := o_chk hp
  refine g_zast (j := sx1.toNatClampNeg) hx hb hK hJ hP hS (kk_M_hasLetGo) (ce_M_hasLetGo) 1 rfl (vin_of hi2) rfl dX9_steer_109 (fun H locs hP hS => ?_)
  refine lv_aload_n hx hb dX9_steer_110 rfl (lv_at hl 0 rfl) ?_
  refine g_get (v := .ref (q (34))) hx hb hts miX9_steer_X9 hown hK hP (kk_Mod) (ce_Mod) rfl 36 (by decide) mwX9_steer_0 rfl dX9_steer_111 ?_
  refine lv_iload_n hx hb dX9_steer_114 rfl (lv_at hl 1 rfl) ?_
  refine lv_aload_n hx hb dX9_steer_115 rfl (lv_at hl 0 rfl) ?_
  refine g_get (v := .ref (q (35))) hx hb hts miX9_steer_X9 hown hK hP (kk_Mod) (ce_Mod) rfl 37 (by decide) mwX9_steer_1 rfl dX9_steer_116 ?_
  refine lv_iload_n hx hb dX9_steer_119 rfl (lv_at hl 1 rfl) ?_
  obtain ⟨hi3, hp⟩ := o_chk hp
  refine g_zald (j := x1.toNatClampNeg) hx hb hK hP (kk_M_hasLetGo) (ce_M_hasLetGo) 1 rfl (vin_of hi3) rfl dX9_steer_120 ?_
  refine lv_if_eq (tgt := 128) hx hb dX9_steer_121 (by decide) (fun hcd4 => ?_) (fun hcd4 => ?_)
  · have hp := o_t hp hcd4
    refine lv_iload_n hx hb dX9_steer_128 rfl (lv_at hl 2 rfl) ?_
    refine lv_iload_n hx hb dX9_steer_129 rfl (lv_at hl 3 rfl) ?_
    refine lv_iload hx hb dX9_steer_130 (lv_at hl 4 rfl) ?_
    obtain ⟨⟨r5, u6⟩, hq7, hp⟩ := o_b hp
    refine g_cSi (As := [.int x2, .int x3, .int x4]) (rest := [.int x1, .ref (q (34))]) hx hb hml hown hts hK hP hS (mX9_middle l hJ hq7) (va_cwS 3 hts gX9_steer_X9_middle rfl rfl rfl nVX9_middle ⟨Nat.le_of_ble_eq_true rfl, Nat.le_of_ble_eq_true rfl⟩) rfl hl.1 rfl (Nat.le_of_ble_eq_true rfl) dX9_steer_132 ⟨Nat.le_of_ble_eq_true rfl, Nat.le_of_ble_eq_true rfl⟩ (fun H locs hP hS => ?_)
    exact kX9_steer_135 C0 hK hJ kh2  hP hS (lv_sub hl [0, 1] rfl) hp
  · have hp := o_f hp hcd4
    refine lv_iconst (v := (0 : Int32)) hx hb dX9_steer_124 (by decide) ?_
    refine lv_goto (tgt := 135) hx hb dX9_steer_125 (by decide) ?_
    exact kX9_steer_135 C0 hK hJ kh2  hP hS (lv_sub hl [0, 1] rfl) hp
def sX9_steer_104 (K2 : Int32 → TS → Option (Int32 × TS)) (x1 : Int32) (x2 : Int32) (x3 : Int32) (x4 : Int32) (sx1 : Int32) (σ : TS) : Option (Int32 × TS) := sX9_steer_109 K2 x1 x2 x3 x4 sx1 ((1 : Int32)) σ
set_option maxHeartbeats 4000000 in
set_option maxRecDepth 100000 in
theorem kX9_steer_104 {r : Int32} {u : TS} {K2 : Int32 → TS → Option (Int32 × TS)} (C0 : gC RX9 cX9_steer 6 none wsX9_steer p s m args meth c) (hK : va_K D vwCl (tyL cy) s) (hJ : gJ 39 q) (kh2 : ∀ (H : Heap) (locs : List Loc) (σ : TS) (x1 : Int32) (hP : va_P D vwCl (gS 39 q (MX cy q) σ) H) (hS : va_S (gA 39 q) s.heap H locs) (ls : Array Slot) (hl : lv_has ls 6 [(0, .ref (q (0))), (1, .int x1)]) (hp : K2 x1 σ = some (r, u)), W p l e rmX9_steer s m args below meth c H locs 0 0 (MQ below (gQv D vwCl (gS 39 q (MX cy q) u) (gA 39 q)) args s 0 0 (gA 39 q)) (F0 m 2 ls [])) {H : Heap} {locs : List Loc} {σ : TS} {x1 : Int32} {x2 : Int32} {x3 : Int32} {x4 : Int32} {sx1 : Int32} (hP : va_P D vwCl (gS 39 q (MX cy q) σ) H) (hS : va_S (gA 39 q) s.heap H locs) {ls : Array Slot} (hl : lv_has ls 6 [(0, .ref (q (0))), (1, .int x1), (2, .int x2), (3, .int x3), (4, .int x4)]) (hp : sX9_steer_104 K2 x1 x2 x3 x4 sx1 σ = some (r, u)) : W p l e rmX9_steer s m args below meth c H locs 0 0 (MQ below (gQv D vwCl (gS 39 q (MX cy q) u) (gA 39 q)) args s 0 0 (gA 39 q)) (F0 m 104 ls [.int sx1, .ref (q (35))]) := by
  obtain ⟨hx, hb, hr, hml, hown, hts, hlocks⟩ := id C0
  unfold sX9_steer_104 at hp
  refine lv_iconst (v := (1 : Int32)) hx hb dX9_steer_104 (by decide) ?_
  refine lv_goto (tgt := 109) hx hb dX9_steer_105 (by decide) ?_
  exact kX9_steer_109 C0 hK hJ kh2  hP hS hl hp
def sX9_steer_80 (K2 : Int32 → TS → Option (Int32 × TS)) (x1 : Int32) (x2 : Int32) (x3 : Int32) (x4 : Int32) (sx0 : Int32) (sx1 : Int32) (σ : TS) : Option (Int32 × TS) := (if vin x1 4 = true then (if (σ 35 (x1.toNatClampNeg)) = 0 then (if (sx0 - sx1) ≤ ((100 : Int32)) then sX9_steer_109 K2 x1 x2 x3 x4 x1 ((0 : Int32)) σ else sX9_steer_104 K2 x1 x2 x3 x4 x1 σ) else sX9_steer_104 K2 x1 x2 x3 x4 x1 σ) else none)
set_option maxHeartbeats 4000000 in
set_option maxRecDepth 100000 in
theorem kX9_steer_80 {r : Int32} {u : TS} {K2 : Int32 → TS → Option (Int32 × TS)} (C0 : gC RX9 cX9_steer 6 none wsX9_steer p s m args meth c) (hK : va_K D vwCl (tyL cy) s) (hJ : gJ 39 q) (kh2 : ∀ (H : Heap) (locs : List Loc) (σ : TS) (x1 : Int32) (hP : va_P D vwCl (gS 39 q (MX cy q) σ) H) (hS : va_S (gA 39 q) s.heap H locs) (ls : Array Slot) (hl : lv_has ls 6 [(0, .ref (q (0))), (1, .int x1)]) (hp : K2 x1 σ = some (r, u)), W p l e rmX9_steer s m args below meth c H locs 0 0 (MQ below (gQv D vwCl (gS 39 q (MX cy q) u) (gA 39 q)) args s 0 0 (gA 39 q)) (F0 m 2 ls [])) {H : Heap} {locs : List Loc} {σ : TS} {x1 : Int32} {x2 : Int32} {x3 : Int32} {x4 : Int32} {sx0 : Int32} {sx1 : Int32} (hP : va_P D vwCl (gS 39 q (MX cy q) σ) H) (hS : va_S (gA 39 q) s.heap H locs) {ls : Array Slot} (hl : lv_has ls 6 [(0, .ref (q (0))), (1, .int x1), (2, .int x2), (3, .int x3), (4, .int x4)]) (hp : sX9_steer_80 K2 x1 x2 x3 x4 sx0 sx1 σ = some (r, u)) : W p l e rmX9_steer s m args below meth c H locs 0 0 (MQ below (gQv D vwCl (gS 39 q (MX cy q) u) (gA 39 q)) args s 0 0 (gA 39 q)) (F0 m 80 ls [.int sx1, .int sx0]) := by
  obtain ⟨hx, hb, hr, hml, hown, hts, hlocks⟩ := id C0
  unfold sX9_steer_80 at hp
  refine lv_isub hx hb dX9_steer_80 ?_
  refine lv_istore (lv' := [(5, .int (sx0 - sx1)), (0, .ref (q (0))), (1, .int x1), (2, .int x2), (3, .int x3), (4, .int x4)]) hx hb dX9_steer_81 hl (by decide) rfl (fun ls hl => ?_)
  refine lv_aload_n hx hb dX9_steer_83 rfl (lv_at hl 1 rfl) ?_
  refine g_get (v := .ref (q (35))) hx hb hts miX9_steer_X9 hown hK hP (kk_Mod) (ce_Mod) rfl 37 (by decide) mwX9_steer_1 rfl dX9_steer_84 ?_
  refine lv_iload_n hx hb dX9_steer_87 rfl (lv_at hl 2 rfl) ?_
  refine lv_aload_n hx hb dX9_steer_88 rfl (lv_at hl 1 rfl) ?_
  refine g_get (v := .ref (q (35))) hx hb hts miX9_steer_X9 hown hK hP (kk_Mod) (ce_Mod) rfl 37 (by decide) mwX9_steer_1 rfl dX9_steer_89 ?_
  refine lv_iload_n hx hb dX9_steer_92 rfl (lv_at hl 2 rfl) ?_
  obtain ⟨hi8, hp⟩ := o_chk hp
  refine g_zald (j := x1.toNatClampNeg) hx hb hK hP (kk_M_hasLetGo) (ce_M_hasLetGo) 1 rfl (vin_of hi8) rfl dX9_steer_93 ?_
  refine lv_if_ne (tgt := 104) hx hb dX9_steer_94 (by decide) (fun hcd9 => ?_) (fun hcd9 => ?_)
  · have hp := o_f hp hcd9
    exact kX9_steer_104 C0 hK hJ kh2  hP hS (lv_sub hl [1, 2, 3, 4, 5] rfl) hp
  · have hp := o_t hp hcd9
    refine lv_iload hx hb dX9_steer_97 (lv_at hl 0 rfl) ?_
    refine lv_bipush (v := (100 : Int32)) hx hb dX9_steer_99 (by decide) ?_
    refine lv_icmp_le (tgt := 108) hx hb dX9_steer_101 (by decide) (fun hcd10 => ?_) (fun hcd10 => ?_)
    · have hp := o_t hp hcd10
      refine lv_iconst (v := (0 : Int32)) hx hb dX9_steer_108 (by decide) ?_
      exact kX9_steer_109 C0 hK hJ kh2  hP hS (lv_sub hl [1, 2, 3, 4, 5] rfl) hp
    · have hp := o_f hp hcd10
      exact kX9_steer_104 C0 hK hJ kh2  hP hS (lv_sub hl [1, 2, 3, 4, 5] rfl) hp
def sX9_steer_77 (K2 : Int32 → TS → Option (Int32 × TS)) (x1 : Int32) (x2 : Int32) (x3 : Int32) (x4 : Int32) (sx0 : Int32) (sx1 : Int32) (sx2 : Int32) (σ : TS) : Option (Int32 × TS) := ((sX9_lesser sx1 sx2 σ).bind (fun z => sX9_steer_80 K2 x1 x2 x3 x4 sx0 z.1 z.2))
set_option maxHeartbeats 4000000 in
set_option maxRecDepth 100000 in
theorem kX9_steer_77 {r : Int32} {u : TS} {K2 : Int32 → TS → Option (Int32 × TS)} (C0 : gC RX9 cX9_steer 6 none wsX9_steer p s m args meth c) (hK : va_K D vwCl (tyL cy) s) (hJ : gJ 39 q) (kh2 : ∀ (H : Heap) (locs : List Loc) (σ : TS) (x1 : Int32) (hP : va_P D vwCl (gS 39 q (MX cy q) σ) H) (hS : va_S (gA 39 q) s.heap H locs) (ls : Array Slot) (hl : lv_has ls 6 [(0, .ref (q (0))), (1, .int x1)]) (hp : K2 x1 σ = some (r, u)), W p l e rmX9_steer s m args below meth c H locs 0 0 (MQ below (gQv D vwCl (gS 39 q (MX cy q) u) (gA 39 q)) args s 0 0 (gA 39 q)) (F0 m 2 ls [])) {H : Heap} {locs : List Loc} {σ : TS} {x1 : Int32} {x2 : Int32} {x3 : Int32} {x4 : Int32} {sx0 : Int32} {sx1 : Int32} {sx2 : Int32} (hP : va_P D vwCl (gS 39 q (MX cy q) σ) H) (hS : va_S (gA 39 q) s.heap H locs) {ls : Array Slot} (hl : lv_has ls 6 [(0, .ref (q (0))), (1, .int x1), (2, .int x2), (3, .int x3), (4, .int x4)]) (hp : sX9_steer_77 K2 x1 x2 x3 x4 sx0 sx1 sx2 σ = some (r, u)) : W p l e rmX9_steer s m args below meth c H locs 0 0 (MQ below (gQv D vwCl (gS 39 q (MX cy q) u) (gA 39 q)) args s 0 0 (gA 39 q)) (F0 m 77 ls [.int sx2, .int sx1, .int sx0]) := by
  obtain ⟨hx, hb, hr, hml, hown, hts, hlocks⟩ := id C0
  unfold sX9_steer_77 at hp
  obtain ⟨⟨r11, u12⟩, hq13, hp⟩ := o_b hp
  refine g_cSi (As := [.int sx1, .int sx2]) (rest := [.int sx0]) hx hb hml hown hts hK hP hS (mX9_lesser l hJ hq13) (va_cwS 2 hts gX9_steer_X9_lesser rfl rfl rfl nVX9_lesser ⟨Nat.le_of_ble_eq_true rfl, Nat.le_of_ble_eq_true rfl⟩) rfl hl.1 rfl (Nat.le_of_ble_eq_true rfl) dX9_steer_77 ⟨Nat.le_of_ble_eq_true rfl, Nat.le_of_ble_eq_true rfl⟩ (fun H locs hP hS => ?_)
  exact kX9_steer_80 C0 hK hJ kh2  hP hS hl hp
def sX9_steer_70 (K2 : Int32 → TS → Option (Int32 × TS)) (x1 : Int32) (x2 : Int32) (x3 : Int32) (x4 : Int32) (sx0 : Int32) (σ : TS) : Option (Int32 × TS) := ((sX9_lesser x3 x4 σ).bind (fun z => sX9_steer_77 K2 x1 x2 x3 x4 sx0 x2 z.1 z.2))
set_option maxHeartbeats 4000000 in
set_option maxRecDepth 100000 in
theorem kX9_steer_70 {r : Int32} {u : TS} {K2 : Int32 → TS → Option (Int32 × TS)} (C0 : gC RX9 cX9_steer 6 none wsX9_steer p s m args meth c) (hK : va_K D vwCl (tyL cy) s) (hJ : gJ 39 q) (kh2 : ∀ (H : Heap) (locs : List Loc) (σ : TS) (x1 : Int32) (hP : va_P D vwCl (gS 39 q (MX cy q) σ) H) (hS : va_S (gA 39 q) s.heap H locs) (ls : Array Slot) (hl : lv_has ls 6 [(0, .ref (q (0))), (1, .int x1)]) (hp : K2 x1 σ = some (r, u)), W p l e rmX9_steer s m args below meth c H locs 0 0 (MQ below (gQv D vwCl (gS 39 q (MX cy q) u) (gA 39 q)) args s 0 0 (gA 39 q)) (F0 m 2 ls [])) {H : Heap} {locs : List Loc} {σ : TS} {x1 : Int32} {x2 : Int32} {x3 : Int32} {x4 : Int32} {sx0 : Int32} (hP : va_P D vwCl (gS 39 q (MX cy q) σ) H) (hS : va_S (gA 39 q) s.heap H locs) {ls : Array Slot} (hl : lv_has ls 6 [(0, .ref (q (0))), (1, .int x1), (2, .int x2), (3, .int x3), (4, .int x4)]) (hp : sX9_steer_70 K2 x1 x2 x3 x4 sx0 σ = some (r, u)) : W p l e rmX9_steer s m args below meth c H locs 0 0 (MQ below (gQv D vwCl (gS 39 q (MX cy q) u) (gA 39 q)) args s 0 0 (gA 39 q)) (F0 m 70 ls [.int sx0]) := by
  obtain ⟨hx, hb, hr, hml, hown, hts, hlocks⟩ := id C0
  unfold sX9_steer_70 at hp
  refine lv_iload_n hx hb dX9_steer_70 rfl (lv_at hl 2 rfl) ?_
  refine lv_iload_n hx hb dX9_steer_71 rfl (lv_at hl 3 rfl) ?_
  refine lv_iload hx hb dX9_steer_72 (lv_at hl 4 rfl) ?_
  obtain ⟨⟨r14, u15⟩, hq16, hp⟩ := o_b hp
  refine g_cSi (As := [.int x3, .int x4]) (rest := [.int x2, .int sx0]) hx hb hml hown hts hK hP hS (mX9_lesser l hJ hq16) (va_cwS 2 hts gX9_steer_X9_lesser rfl rfl rfl nVX9_lesser ⟨Nat.le_of_ble_eq_true rfl, Nat.le_of_ble_eq_true rfl⟩) rfl hl.1 rfl (Nat.le_of_ble_eq_true rfl) dX9_steer_74 ⟨Nat.le_of_ble_eq_true rfl, Nat.le_of_ble_eq_true rfl⟩ (fun H locs hP hS => ?_)
  exact kX9_steer_77 C0 hK hJ kh2  hP hS hl hp
def sX9_steer_67 (K2 : Int32 → TS → Option (Int32 × TS)) (x1 : Int32) (x2 : Int32) (x3 : Int32) (x4 : Int32) (sx0 : Int32) (sx1 : Int32) (σ : TS) : Option (Int32 × TS) := ((sX9_greater sx0 sx1 σ).bind (fun z => sX9_steer_70 K2 x1 x2 x3 x4 z.1 z.2))
set_option maxHeartbeats 4000000 in
set_option maxRecDepth 100000 in
theorem kX9_steer_67 {r : Int32} {u : TS} {K2 : Int32 → TS → Option (Int32 × TS)} (C0 : gC RX9 cX9_steer 6 none wsX9_steer p s m args meth c) (hK : va_K D vwCl (tyL cy) s) (hJ : gJ 39 q) (kh2 : ∀ (H : Heap) (locs : List Loc) (σ : TS) (x1 : Int32) (hP : va_P D vwCl (gS 39 q (MX cy q) σ) H) (hS : va_S (gA 39 q) s.heap H locs) (ls : Array Slot) (hl : lv_has ls 6 [(0, .ref (q (0))), (1, .int x1)]) (hp : K2 x1 σ = some (r, u)), W p l e rmX9_steer s m args below meth c H locs 0 0 (MQ below (gQv D vwCl (gS 39 q (MX cy q) u) (gA 39 q)) args s 0 0 (gA 39 q)) (F0 m 2 ls [])) {H : Heap} {locs : List Loc} {σ : TS} {x1 : Int32} {x2 : Int32} {x3 : Int32} {x4 : Int32} {sx0 : Int32} {sx1 : Int32} (hP : va_P D vwCl (gS 39 q (MX cy q) σ) H) (hS : va_S (gA 39 q) s.heap H locs) {ls : Array Slot} (hl : lv_has ls 6 [(0, .ref (q (0))), (1, .int x1), (2, .int x2), (3, .int x3), (4, .int x4)]) (hp : sX9_steer_67 K2 x1 x2 x3 x4 sx0 sx1 σ = some (r, u)) : W p l e rmX9_steer s m args below meth c H locs 0 0 (MQ below (gQv D vwCl (gS 39 q (MX cy q) u) (gA 39 q)) args s 0 0 (gA 39 q)) (F0 m 67 ls [.int sx1, .int sx0]) := by
  obtain ⟨hx, hb, hr, hml, hown, hts, hlocks⟩ := id C0
  unfold sX9_steer_67 at hp
  obtain ⟨⟨r17, u18⟩, hq19, hp⟩ := o_b hp
  refine g_cSi (As := [.int sx0, .int sx1]) (rest := []) hx hb hml hown hts hK hP hS (mX9_greater l hJ hq19) (va_cwS 2 hts gX9_steer_X9_greater rfl rfl rfl nVX9_greater ⟨Nat.le_of_ble_eq_true rfl, Nat.le_of_ble_eq_true rfl⟩) rfl hl.1 rfl (Nat.le_of_ble_eq_true rfl) dX9_steer_67 ⟨Nat.le_of_ble_eq_true rfl, Nat.le_of_ble_eq_true rfl⟩ (fun H locs hP hS => ?_)
  exact kX9_steer_70 C0 hK hJ kh2  hP hS hl hp
def sX9_steer_2 : Nat → Int32 → TS → Option (Int32 × TS)
  | 0, _, _ => none
  | n + 1, x1, σ => (if ((4 : Int32)) ≤ x1 then some (0, σ) else (if vin x1 4 = true then (if vin (x1 * ((3 : Int32))) 12 = true then (if vin ((x1 * ((3 : Int32))) + ((1 : Int32))) 12 = true then (if vin ((x1 * ((3 : Int32))) + ((2 : Int32))) 12 = true then ((sX9_greater ((σ 22 (x1.toNatClampNeg)) + (σ 33 (((x1 * ((3 : Int32))) + ((1 : Int32))).toNatClampNeg))) ((σ 22 (x1.toNatClampNeg)) + (σ 33 (((x1 * ((3 : Int32))) + ((2 : Int32))).toNatClampNeg))) σ).bind (fun z => sX9_steer_67 (sX9_steer_2 n) x1 ((σ 22 (x1.toNatClampNeg)) + (σ 33 ((x1 * ((3 : Int32))).toNatClampNeg))) ((σ 22 (x1.toNatClampNeg)) + (σ 33 (((x1 * ((3 : Int32))) + ((1 : Int32))).toNatClampNeg))) ((σ 22 (x1.toNatClampNeg)) + (σ 33 (((x1 * ((3 : Int32))) + ((2 : Int32))).toNatClampNeg))) ((σ 22 (x1.toNatClampNeg)) + (σ 33 ((x1 * ((3 : Int32))).toNatClampNeg))) z.1 z.2)) else none) else none) else none) else none))
set_option maxHeartbeats 4000000 in
set_option maxRecDepth 100000 in
theorem kX9_steer_2 {r : Int32} {u : TS} (C0 : gC RX9 cX9_steer 6 none wsX9_steer p s m args meth c) (hK : va_K D vwCl (tyL cy) s) (hJ : gJ 39 q) : ∀ (n : Nat) (H : Heap) (locs : List Loc) (σ : TS) (x1 : Int32) (hP : va_P D vwCl (gS 39 q (MX cy q) σ) H) (hS : va_S (gA 39 q) s.heap H locs) (ls : Array Slot) (hl : lv_has ls 6 [(0, .ref (q (0))), (1, .int x1)]) (hp : sX9_steer_2 n x1 σ = some (r, u)), W p l e rmX9_steer s m args below meth c H locs 0 0 (MQ below (gQv D vwCl (gS 39 q (MX cy q) u) (gA 39 q)) args s 0 0 (gA 39 q)) (F0 m 2 ls []) := by
  obtain ⟨hx, hb, hr, hml, hown, hts, hlocks⟩ := id C0
  intro n
  induction n with
  | zero =>
    intro H locs σ x1 hP hS ls hl hp
    cases hp
  | succ n ih =>
    intro H locs σ x1 hP hS ls hl hp
    unfold sX9_steer_2 at hp
    refine lv_iload_n hx hb dX9_steer_2 rfl (lv_at hl 1 rfl) ?_
    refine lv_iconst (v := (4 : Int32)) hx hb dX9_steer_3 (by decide) ?_
    refine lv_icmp_ge (tgt := 142) hx hb dX9_steer_4 (by decide) (fun hcd20 => ?_) (fun hcd20 => ?_)
    · have hp := o_t hp hcd20
      obtain ⟨rfl, rfl⟩ := o_r hp
      exact W.vret hx hb hr (fun t ht hW => ⟨⟨(), rfl, trivial, by subst ht; exact hP⟩, hS.F ht⟩) hS.2.2 dX9_steer_142
    · have hp := o_f hp hcd20
      refine lv_aload_n hx hb dX9_steer_7 rfl (lv_at hl 0 rfl) ?_
      refine g_get (v := .ref (q (22))) hx hb hts miX9_steer_X9 hown hK hP (kk_Mod) (ce_Mod) rfl 24 (by decide) mwX9_steer_2 rfl dX9_steer_8 ?_
      refine lv_iload_n hx hb dX9_steer_11 rfl (lv_at hl 1 rfl) ?_
      obtain ⟨hi21, hp⟩ := o_chk hp
      refine g_iald (j := x1.toNatClampNeg) hx hb hK hP (kk_M_outputs) (ce_M_outputs) 0 rfl (vin_of hi21) rfl dX9_steer_12 ?_
      refine lv_aload_n hx hb dX9_steer_13 rfl (lv_at hl 0 rfl) ?_
      refine g_get (v := .ref (q (33))) hx hb hts miX9_steer_X9 hown hK hP (kk_Mod) (ce_Mod) rfl 35 (by decide) mwX9_steer_3 rfl dX9_steer_14 ?_
      refine lv_iload_n hx hb dX9_steer_17 rfl (lv_at hl 1 rfl) ?_
      refine lv_iconst (v := (3 : Int32)) hx hb dX9_steer_18 (by decide) ?_
      refine lv_imul hx hb dX9_steer_19 ?_
      obtain ⟨hi22, hp⟩ := o_chk hp
      refine g_iald (j := (x1 * ((3 : Int32))).toNatClampNeg) hx hb hK hP (kk_M_faults) (ce_M_faults) 0 rfl (vin_of hi22) rfl dX9_steer_20 ?_
      refine lv_iadd hx hb dX9_steer_21 ?_
      refine lv_istore_n (lv' := [(2, .int ((σ 22 (x1.toNatClampNeg)) + (σ 33 ((x1 * ((3 : Int32))).toNatClampNeg)))), (0, .ref (q (0))), (1, .int x1)]) hx hb dX9_steer_22 rfl hl (by decide) rfl (fun ls hl => ?_)
      refine lv_aload_n hx hb dX9_steer_23 rfl (lv_at hl 1 rfl) ?_
      refine g_get (v := .ref (q (22))) hx hb hts miX9_steer_X9 hown hK hP (kk_Mod) (ce_Mod) rfl 24 (by decide) mwX9_steer_2 rfl dX9_steer_24 ?_
      refine lv_iload_n hx hb dX9_steer_27 rfl (lv_at hl 2 rfl) ?_
      refine g_iald (j := x1.toNatClampNeg) hx hb hK hP (kk_M_outputs) (ce_M_outputs) 0 rfl (vin_of hi21) rfl dX9_steer_28 ?_
      refine lv_aload_n hx hb dX9_steer_29 rfl (lv_at hl 1 rfl) ?_
      refine g_get (v := .ref (q (33))) hx hb hts miX9_steer_X9 hown hK hP (kk_Mod) (ce_Mod) rfl 35 (by decide) mwX9_steer_3 rfl dX9_steer_30 ?_
      refine lv_iload_n hx hb dX9_steer_33 rfl (lv_at hl 2 rfl) ?_
      refine lv_iconst (v := (3 : Int32)) hx hb dX9_steer_34 (by decide) ?_
      refine lv_imul hx hb dX9_steer_35 ?_
      refine lv_iconst (v := (1 : Int32)) hx hb dX9_steer_36 (by decide) ?_
      refine lv_iadd hx hb dX9_steer_37 ?_
      obtain ⟨hi23, hp⟩ := o_chk hp
      refine g_iald (j := ((x1 * ((3 : Int32))) + ((1 : Int32))).toNatClampNeg) hx hb hK hP (kk_M_faults) (ce_M_faults) 0 rfl (vin_of hi23) rfl dX9_steer_38 ?_
      refine lv_iadd hx hb dX9_steer_39 ?_
      refine lv_istore_n (lv' := [(3, .int ((σ 22 (x1.toNatClampNeg)) + (σ 33 (((x1 * ((3 : Int32))) + ((1 : Int32))).toNatClampNeg)))), (2, .int ((σ 22 (x1.toNatClampNeg)) + (σ 33 ((x1 * ((3 : Int32))).toNatClampNeg)))), (0, .ref (q (0))), (1, .int x1)]) hx hb dX9_steer_40 rfl hl (by decide) rfl (fun ls hl => ?_)
      refine lv_aload_n hx hb dX9_steer_41 rfl (lv_at hl 2 rfl) ?_
      refine g_get (v := .ref (q (22))) hx hb hts miX9_steer_X9 hown hK hP (kk_Mod) (ce_Mod) rfl 24 (by decide) mwX9_steer_2 rfl dX9_steer_42 ?_
      refine lv_iload_n hx hb dX9_steer_45 rfl (lv_at hl 3 rfl) ?_
      refine g_iald (j := x1.toNatClampNeg) hx hb hK hP (kk_M_outputs) (ce_M_outputs) 0 rfl (vin_of hi21) rfl dX9_steer_46 ?_
      refine lv_aload_n hx hb dX9_steer_47 rfl (lv_at hl 2 rfl) ?_
      refine g_get (v := .ref (q (33))) hx hb hts miX9_steer_X9 hown hK hP (kk_Mod) (ce_Mod) rfl 35 (by decide) mwX9_steer_3 rfl dX9_steer_48 ?_
      refine lv_iload_n hx hb dX9_steer_51 rfl (lv_at hl 3 rfl) ?_
      refine lv_iconst (v := (3 : Int32)) hx hb dX9_steer_52 (by decide) ?_
      refine lv_imul hx hb dX9_steer_53 ?_
      refine lv_iconst (v := (2 : Int32)) hx hb dX9_steer_54 (by decide) ?_
      refine lv_iadd hx hb dX9_steer_55 ?_
      obtain ⟨hi24, hp⟩ := o_chk hp
      refine g_iald (j := ((x1 * ((3 : Int32))) + ((2 : Int32))).toNatClampNeg) hx hb hK hP (kk_M_faults) (ce_M_faults) 0 rfl (vin_of hi24) rfl dX9_steer_56 ?_
      refine lv_iadd hx hb dX9_steer_57 ?_
      refine lv_istore (lv' := [(4, .int ((σ 22 (x1.toNatClampNeg)) + (σ 33 (((x1 * ((3 : Int32))) + ((2 : Int32))).toNatClampNeg)))), (3, .int ((σ 22 (x1.toNatClampNeg)) + (σ 33 (((x1 * ((3 : Int32))) + ((1 : Int32))).toNatClampNeg)))), (2, .int ((σ 22 (x1.toNatClampNeg)) + (σ 33 ((x1 * ((3 : Int32))).toNatClampNeg)))), (0, .ref (q (0))), (1, .int x1)]) hx hb dX9_steer_58 hl (by decide) rfl (fun ls hl => ?_)
      refine lv_iload_n hx hb dX9_steer_60 rfl (lv_at hl 2 rfl) ?_
      refine lv_iload_n hx hb dX9_steer_61 rfl (lv_at hl 1 rfl) ?_
      refine lv_iload hx hb dX9_steer_62 (lv_at hl 0 rfl) ?_
      obtain ⟨⟨r25, u26⟩, hq27, hp⟩ := o_b hp
      refine g_cSi (As := [.int ((σ 22 (x1.toNatClampNeg)) + (σ 33 (((x1 * ((3 : Int32))) + ((1 : Int32))).toNatClampNeg))), .int ((σ 22 (x1.toNatClampNeg)) + (σ 33 (((x1 * ((3 : Int32))) + ((2 : Int32))).toNatClampNeg)))]) (rest := [.int ((σ 22 (x1.toNatClampNeg)) + (σ 33 ((x1 * ((3 : Int32))).toNatClampNeg)))]) hx hb hml hown hts hK hP hS (mX9_greater l hJ hq27) (va_cwS 2 hts gX9_steer_X9_greater rfl rfl rfl nVX9_greater ⟨Nat.le_of_ble_eq_true rfl, Nat.le_of_ble_eq_true rfl⟩) rfl hl.1 rfl (Nat.le_of_ble_eq_true rfl) dX9_steer_64 ⟨Nat.le_of_ble_eq_true rfl, Nat.le_of_ble_eq_true rfl⟩ (fun H locs hP hS => ?_)
      exact kX9_steer_67 C0 hK hJ ih  hP hS (lv_sub hl [3, 4, 2, 1, 0] rfl) hp
def sX9_steer_0 (σ : TS) : Option (Int32 × TS) := sX9_steer_2 5 ((0 : Int32)) σ
set_option maxHeartbeats 4000000 in
set_option maxRecDepth 100000 in
theorem kX9_steer_0 {r : Int32} {u : TS} (C0 : gC RX9 cX9_steer 6 none wsX9_steer p s m args meth c) (hK : va_K D vwCl (tyL cy) s) (hJ : gJ 39 q) {H : Heap} {locs : List Loc} {σ : TS} (hP : va_P D vwCl (gS 39 q (MX cy q) σ) H) (hS : va_S (gA 39 q) s.heap H locs) {ls : Array Slot} (hl : lv_has ls 6 [(0, .ref (q (0)))]) (hp : sX9_steer_0 σ = some (r, u)) : W p l e rmX9_steer s m args below meth c H locs 0 0 (MQ below (gQv D vwCl (gS 39 q (MX cy q) u) (gA 39 q)) args s 0 0 (gA 39 q)) (F0 m 0 ls []) := by
  obtain ⟨hx, hb, hr, hml, hown, hts, hlocks⟩ := id C0
  unfold sX9_steer_0 at hp
  refine lv_iconst (v := (0 : Int32)) hx hb dX9_steer_0 (by decide) ?_
  refine lv_istore_n (lv' := [(1, .int ((0 : Int32))), (0, .ref (q (0)))]) hx hb dX9_steer_1 rfl hl (by decide) rfl (fun ls hl => ?_)
  exact kX9_steer_2 C0 hK hJ _ _ _ _ _  hP hS _ (lv_sub hl [1, 0] rfl) hp
def sX9_steer (σ : TS) : Option (Int32 × TS) := sX9_steer_0 σ
theorem nVX9_steer : yX9_steer.cls = RX9 ∧ yX9_steer.cls ≠ "java/lang/invoke/MethodHandle" ∧ yX9_steer.cls ≠ "java/lang/invoke/VarHandle" ∧ (parseMethodDescriptor yX9_steer.desc).map (fun d => d.parameters.length) = some 0 := by decide +kernel
set_option maxHeartbeats 4000000 in
set_option maxRecDepth 100000 in
theorem mX9_steer (l : Launch) (hJ : gJ 39 q) {σ : TS} {r : Int32} {u : TS} (hp : sX9_steer σ = some (r, u)) : Met l yX9_steer wsX9_steer rmX9_steer (va_Pc [.ref (q (0))] (gPre D vwCl (tyL cy) (gS 39 q (MX cy q) σ))) (gQv D vwCl (gS 39 q (MX cy q) u) (gA 39 q)) 0 0 (gA 39 q) := by
  refine Met.ofW (cc := cX9_steer) (maxL := 6) (ret := none) (by decide +kernel) rfl ?_
  intro p e s m args below meth c s₁ B hml hv
  obtain ⟨rfl, hP, hK⟩ := hv
  have hl := lv_entry ([.ref (q (0))]) (n := 6) (Nat.le_of_ble_eq_true rfl)
  rw [lg_entry_eq]
  generalize (lg_sl ([.ref (q (0))]) ++ List.replicate (6 - (lg_sl ([.ref (q (0))])).length) Slot.unset).toArray = ls at hl ⊢
  have hl : lv_has ls 6 [(0, .ref (q (0)))] := hl
  exact kX9_steer_0 ⟨B.exec, B.bytes, B.returns, hml, findClass_of_methodNamed B.named, atoms_spec (ws := wsX9_steer) B.pre, B.notSynchronized⟩ hK hJ  hP va_S.rf hl hp
theorem miX9_frame_X9 : ∀ w ∈ u_ws RX9 TX9 44, w ∈ wsX9_frame := by decide +kernel
theorem mwX9_frame_0 : Cond.fieldLink RX9 38 "TriplaneModel" "isOff" "[Z" ∈ wsX9_frame := by decide +kernel
theorem mwX9_frame_1 : Cond.fieldLink RX9 148 "TriplaneModel" "time" "I" ∈ wsX9_frame := by decide +kernel
theorem mwX9_frame_2 : Cond.fieldLink RX9 23 "TriplaneModel" "slots" "[I" ∈ wsX9_frame := by decide +kernel
theorem mwX9_frame_3 : Cond.fieldLink RX9 222 "TriplaneModel" "mode" "I" ∈ wsX9_frame := by decide +kernel
theorem mwX9_frame_4 : Cond.fieldLink RX9 130 "TriplaneModel" "thrown" "I" ∈ wsX9_frame := by decide +kernel
abbrev rmX9_frame : Room := { frames := 5, cells := 0, slots := 0, locals := 117 }
def sX9_frame_60 (K26 : Int32 → Int32 → TS → Option (Int32 × TS)) (x1 : Int32) (x2 : Int32) (σ : TS) : Option (Int32 × TS) := K26 x1 (x2 + (1 : Int32)) σ
set_option maxHeartbeats 4000000 in
set_option maxRecDepth 100000 in
theorem kX9_frame_60 {r : Int32} {u : TS} {K26 : Int32 → Int32 → TS → Option (Int32 × TS)} (C0 : gC RX9 cX9_frame 4 ((some .int)) wsX9_frame p s m args meth c) (hK : va_K D vwCl (tyL cy) s) (hJ : gJ 39 q) (kh26 : ∀ (H : Heap) (locs : List Loc) (σ : TS) (x1 : Int32) (x2 : Int32) (hP : va_P D vwCl (gS 39 q (MX cy q) σ) H) (hS : va_S (gA 39 q) s.heap H locs) (ls : Array Slot) (hl : lv_has ls 4 [(0, .ref (q (0))), (1, .int x1), (2, .int x2)]) (hp : K26 x1 x2 σ = some (r, u)), W p l e rmX9_frame s m args below meth c H locs 0 0 (MQ below (gQi D vwCl r (gS 39 q (MX cy q) u) (gA 39 q)) args s 0 0 (gA 39 q)) (F0 m 26 ls [])) {H : Heap} {locs : List Loc} {σ : TS} {x1 : Int32} {x2 : Int32} (hP : va_P D vwCl (gS 39 q (MX cy q) σ) H) (hS : va_S (gA 39 q) s.heap H locs) {ls : Array Slot} (hl : lv_has ls 4 [(0, .ref (q (0))), (1, .int x1), (2, .int x2)]) (hp : sX9_frame_60 K26 x1 x2 σ = some (r, u)) : W p l e rmX9_frame s m args below meth c H locs 0 0 (MQ below (gQi D vwCl r (gS 39 q (MX cy q) u) (gA 39 q)) args s 0 0 (gA 39 q)) (F0 m 60 ls []) := by
  obtain ⟨hx, hb, hr, hml, hown, hts, hlocks⟩ := id C0
  unfold sX9_frame_60 at hp
  refine lv_iinc (v := x2 + (1 : Int32)) (lv' := [(2, .int (x2 + (1 : Int32))), (0, .ref (q (0))), (1, .int x1)]) hx hb dX9_frame_60 hl (k := 2) rfl rfl (by decide) rfl (fun ls hl => ?_)
  refine lv_goto (tgt := 26) hx hb dX9_frame_63 (by decide) ?_
  exact kh26 _ _ _ _ _  hP hS _ (lv_sub hl [1, 2, 0] rfl) hp
def sX9_frame_95 (K68 : Int32 → TS → Option (Int32 × TS)) (x2 : Int32) (σ : TS) : Option (Int32 × TS) := K68 (x2 + (1 : Int32)) σ
set_option maxHeartbeats 4000000 in
set_option maxRecDepth 100000 in
theorem kX9_frame_95 {r : Int32} {u : TS} {K68 : Int32 → TS → Option (Int32 × TS)} (C0 : gC RX9 cX9_frame 4 ((some .int)) wsX9_frame p s m args meth c) (hK : va_K D vwCl (tyL cy) s) (hJ : gJ 39 q) (kh68 : ∀ (H : Heap) (locs : List Loc) (σ : TS) (x2 : Int32) (hP : va_P D vwCl (gS 39 q (MX cy q) σ) H) (hS : va_S (gA 39 q) s.heap H locs) (ls : Array Slot) (hl : lv_has ls 4 [(0, .ref (q (0))), (2, .int x2)]) (hp : K68 x2 σ = some (r, u)), W p l e rmX9_frame s m args below meth c H locs 0 0 (MQ below (gQi D vwCl r (gS 39 q (MX cy q) u) (gA 39 q)) args s 0 0 (gA 39 q)) (F0 m 68 ls [])) {H : Heap} {locs : List Loc} {σ : TS} {x2 : Int32} (hP : va_P D vwCl (gS 39 q (MX cy q) σ) H) (hS : va_S (gA 39 q) s.heap H locs) {ls : Array Slot} (hl : lv_has ls 4 [(0, .ref (q (0))), (2, .int x2)]) (hp : sX9_frame_95 K68 x2 σ = some (r, u)) : W p l e rmX9_frame s m args below meth c H locs 0 0 (MQ below (gQi D vwCl r (gS 39 q (MX cy q) u) (gA 39 q)) args s 0 0 (gA 39 q)) (F0 m 95 ls []) := by
  obtain ⟨hx, hb, hr, hml, hown, hts, hlocks⟩ := id C0
  unfold sX9_frame_95 at hp
  refine lv_iinc (v := x2 + (1 : Int32)) (lv' := [(2, .int (x2 + (1 : Int32))), (0, .ref (q (0)))]) hx hb dX9_frame_95 hl (k := 1) rfl rfl (by decide) rfl (fun ls hl => ?_)
  refine lv_goto (tgt := 68) hx hb dX9_frame_98 (by decide) ?_
  exact kh68 _ _ _ _  hP hS _ (lv_sub hl [1, 0] rfl) hp
def sX9_frame_94 (K68 : Int32 → TS → Option (Int32 × TS)) (x2 : Int32) (sx0 : Int32) (σ : TS) : Option (Int32 × TS) := sX9_frame_95 K68 x2 σ
set_option maxHeartbeats 4000000 in
set_option maxRecDepth 100000 in
theorem kX9_frame_94 {r : Int32} {u : TS} {K68 : Int32 → TS → Option (Int32 × TS)} (C0 : gC RX9 cX9_frame 4 ((some .int)) wsX9_frame p s m args meth c) (hK : va_K D vwCl (tyL cy) s) (hJ : gJ 39 q) (kh68 : ∀ (H : Heap) (locs : List Loc) (σ : TS) (x2 : Int32) (hP : va_P D vwCl (gS 39 q (MX cy q) σ) H) (hS : va_S (gA 39 q) s.heap H locs) (ls : Array Slot) (hl : lv_has ls 4 [(0, .ref (q (0))), (2, .int x2)]) (hp : K68 x2 σ = some (r, u)), W p l e rmX9_frame s m args below meth c H locs 0 0 (MQ below (gQi D vwCl r (gS 39 q (MX cy q) u) (gA 39 q)) args s 0 0 (gA 39 q)) (F0 m 68 ls [])) {H : Heap} {locs : List Loc} {σ : TS} {x2 : Int32} {sx0 : Int32} (hP : va_P D vwCl (gS 39 q (MX cy q) σ) H) (hS : va_S (gA 39 q) s.heap H locs) {ls : Array Slot} (hl : lv_has ls 4 [(0, .ref (q (0))), (2, .int x2)]) (hp : sX9_frame_94 K68 x2 sx0 σ = some (r, u)) : W p l e rmX9_frame s m args below meth c H locs 0 0 (MQ below (gQi D vwCl r (gS 39 q (MX cy q) u) (gA 39 q)) args s 0 0 (gA 39 q)) (F0 m 94 ls [.int sx0]) := by
  obtain ⟨hx, hb, hr, hml, hown, hts, hlocks⟩ := id C0
  unfold sX9_frame_94 at hp
  refine lv_istore_n (lv' := [(3, .int sx0), (0, .ref (q (0))), (2, .int x2)]) hx hb dX9_frame_94 rfl hl (by decide) rfl (fun ls hl => ?_)
  exact kX9_frame_95 C0 hK hJ kh68  hP hS (lv_sub hl [1, 2] rfl) hp
def sX9_frame_113 (sx0 : Int32) (σ : TS) : Option (Int32 × TS) := some (sx0, σ)
set_option maxHeartbeats 4000000 in
set_option maxRecDepth 100000 in
theorem kX9_frame_113 {r : Int32} {u : TS} (C0 : gC RX9 cX9_frame 4 ((some .int)) wsX9_frame p s m args meth c) (hK : va_K D vwCl (tyL cy) s) (hJ : gJ 39 q) {H : Heap} {locs : List Loc} {σ : TS} {sx0 : Int32} (hP : va_P D vwCl (gS 39 q (MX cy q) σ) H) (hS : va_S (gA 39 q) s.heap H locs) {ls : Array Slot} (hl : lv_has ls 4 []) (hp : sX9_frame_113 sx0 σ = some (r, u)) : W p l e rmX9_frame s m args below meth c H locs 0 0 (MQ below (gQi D vwCl r (gS 39 q (MX cy q) u) (gA 39 q)) args s 0 0 (gA 39 q)) (F0 m 113 ls [.int sx0]) := by
  obtain ⟨hx, hb, hr, hml, hown, hts, hlocks⟩ := id C0
  unfold sX9_frame_113 at hp
  obtain ⟨rfl, rfl⟩ := o_r hp
  exact W.iret (v := sx0) hx hb hr (fun t ht hW => ⟨⟨sx0, (), rfl, rfl, by subst ht; exact hP⟩, hS.F ht⟩) hS.2.2 dX9_frame_113
def sX9_frame_109 (σ : TS) : Option (Int32 × TS) := ((sX9_on σ).bind (fun z => sX9_frame_113 z.1 z.2))
set_option maxHeartbeats 4000000 in
set_option maxRecDepth 100000 in
theorem kX9_frame_109 {r : Int32} {u : TS} (C0 : gC RX9 cX9_frame 4 ((some .int)) wsX9_frame p s m args meth c) (hK : va_K D vwCl (tyL cy) s) (hJ : gJ 39 q) {H : Heap} {locs : List Loc} {σ : TS} (hP : va_P D vwCl (gS 39 q (MX cy q) σ) H) (hS : va_S (gA 39 q) s.heap H locs) {ls : Array Slot} (hl : lv_has ls 4 [(0, .ref (q (0)))]) (hp : sX9_frame_109 σ = some (r, u)) : W p l e rmX9_frame s m args below meth c H locs 0 0 (MQ below (gQi D vwCl r (gS 39 q (MX cy q) u) (gA 39 q)) args s 0 0 (gA 39 q)) (F0 m 109 ls []) := by
  obtain ⟨hx, hb, hr, hml, hown, hts, hlocks⟩ := id C0
  unfold sX9_frame_109 at hp
  refine lv_aload_n hx hb dX9_frame_109 rfl (lv_at hl 0 rfl) ?_
  obtain ⟨⟨r1, u2⟩, hq3, hp⟩ := o_b hp
  refine g_cVi (As := []) (rest := []) hx hb hml hown hts hK hP hS (mX9_on l hJ hq3) (cwV 0 hts gX9_frame_X9_on rfl rfl rfl nVX9_on ⟨Nat.le_of_ble_eq_true rfl, Nat.le_of_ble_eq_true rfl⟩) (g_recv hK hP (kk_Mod) (ce_Mod) rfl) rfl hl.1 rfl (Nat.le_of_ble_eq_true rfl) dX9_frame_110 ⟨Nat.le_of_ble_eq_true rfl, Nat.le_of_ble_eq_true rfl⟩ (fun H locs hP hS => ?_)
  exact kX9_frame_113 C0 hK hJ  hP hS (lv_sub hl [] rfl) hp
def sX9_frame_105 (σ : TS) : Option (Int32 × TS) := ((sX9_steer σ).bind (fun z => sX9_frame_109 z.2))
set_option maxHeartbeats 4000000 in
set_option maxRecDepth 100000 in
theorem kX9_frame_105 {r : Int32} {u : TS} (C0 : gC RX9 cX9_frame 4 ((some .int)) wsX9_frame p s m args meth c) (hK : va_K D vwCl (tyL cy) s) (hJ : gJ 39 q) {H : Heap} {locs : List Loc} {σ : TS} (hP : va_P D vwCl (gS 39 q (MX cy q) σ) H) (hS : va_S (gA 39 q) s.heap H locs) {ls : Array Slot} (hl : lv_has ls 4 [(0, .ref (q (0)))]) (hp : sX9_frame_105 σ = some (r, u)) : W p l e rmX9_frame s m args below meth c H locs 0 0 (MQ below (gQi D vwCl r (gS 39 q (MX cy q) u) (gA 39 q)) args s 0 0 (gA 39 q)) (F0 m 105 ls []) := by
  obtain ⟨hx, hb, hr, hml, hown, hts, hlocks⟩ := id C0
  unfold sX9_frame_105 at hp
  refine lv_aload_n hx hb dX9_frame_105 rfl (lv_at hl 0 rfl) ?_
  obtain ⟨⟨r4, u5⟩, hq6, hp⟩ := o_b hp
  refine g_cVv (As := []) (rest := []) hx hb hml hown hts hK hP hS (mX9_steer l hJ hq6) (cwV 0 hts gX9_frame_X9_steer rfl rfl rfl nVX9_steer ⟨Nat.le_of_ble_eq_true rfl, Nat.le_of_ble_eq_true rfl⟩) (g_recv hK hP (kk_Mod) (ce_Mod) rfl) rfl hl.1 rfl (Nat.le_of_ble_eq_true rfl) dX9_frame_106 ⟨Nat.le_of_ble_eq_true rfl, Nat.le_of_ble_eq_true rfl⟩ (fun H locs hP hS => ?_)
  exact kX9_frame_109 C0 hK hJ  hP hS hl hp
def sX9_frame_68 : Nat → Int32 → TS → Option (Int32 × TS)
  | 0, _, _ => none
  | n + 1, x2, σ => (if ((3 : Int32)) ≤ x2 then ((sX9_keepClocks σ).bind (fun z => sX9_frame_105 z.2)) else (if vin x2 4 = true then (if (σ 10 (x2.toNatClampNeg)) = 0 then ((sX9_mends x2 ((σ 0 1) - (σ 0 1) / ((18 : Int32)) * ((18 : Int32))) σ).bind (fun z => sX9_frame_94 (sX9_frame_68 n) x2 z.1 z.2)) else sX9_frame_95 (sX9_frame_68 n) x2 σ) else none))
set_option maxHeartbeats 4000000 in
set_option maxRecDepth 100000 in
theorem kX9_frame_68 {r : Int32} {u : TS} (C0 : gC RX9 cX9_frame 4 ((some .int)) wsX9_frame p s m args meth c) (hK : va_K D vwCl (tyL cy) s) (hJ : gJ 39 q) : ∀ (n : Nat) (H : Heap) (locs : List Loc) (σ : TS) (x2 : Int32) (hP : va_P D vwCl (gS 39 q (MX cy q) σ) H) (hS : va_S (gA 39 q) s.heap H locs) (ls : Array Slot) (hl : lv_has ls 4 [(0, .ref (q (0))), (2, .int x2)]) (hp : sX9_frame_68 n x2 σ = some (r, u)), W p l e rmX9_frame s m args below meth c H locs 0 0 (MQ below (gQi D vwCl r (gS 39 q (MX cy q) u) (gA 39 q)) args s 0 0 (gA 39 q)) (F0 m 68 ls []) := by
  obtain ⟨hx, hb, hr, hml, hown, hts, hlocks⟩ := id C0
  intro n
  induction n with
  | zero =>
    intro H locs σ x2 hP hS ls hl hp
    cases hp
  | succ n ih =>
    intro H locs σ x2 hP hS ls hl hp
    unfold sX9_frame_68 at hp
    refine lv_iload_n hx hb dX9_frame_68 rfl (lv_at hl 1 rfl) ?_
    refine lv_iconst (v := (3 : Int32)) hx hb dX9_frame_69 (by decide) ?_
    refine lv_icmp_ge (tgt := 101) hx hb dX9_frame_70 (by decide) (fun hcd7 => ?_) (fun hcd7 => ?_)
    · have hp := o_t hp hcd7
      refine lv_aload_n hx hb dX9_frame_101 rfl (lv_at hl 0 rfl) ?_
      obtain ⟨⟨r8, u9⟩, hq10, hp⟩ := o_b hp
      refine g_cVv (As := []) (rest := []) hx hb hml hown hts hK hP hS (mX9_keepClocks l hJ hq10) (cwV 0 hts gX9_frame_X9_keepClocks rfl rfl rfl nVX9_keepClocks ⟨Nat.le_of_ble_eq_true rfl, Nat.le_of_ble_eq_true rfl⟩) (g_recv hK hP (kk_Mod) (ce_Mod) rfl) rfl hl.1 rfl (Nat.le_of_ble_eq_true rfl) dX9_frame_102 ⟨Nat.le_of_ble_eq_true rfl, Nat.le_of_ble_eq_true rfl⟩ (fun H locs hP hS => ?_)
      exact kX9_frame_105 C0 hK hJ  hP hS (lv_sub hl [0] rfl) hp
    · have hp := o_f hp hcd7
      refine lv_aload_n hx hb dX9_frame_73 rfl (lv_at hl 0 rfl) ?_
      refine g_get (v := .ref (q (10))) hx hb hts miX9_frame_X9 hown hK hP (kk_Mod) (ce_Mod) rfl 12 (by decide) mwX9_frame_0 rfl dX9_frame_74 ?_
      refine lv_iload_n hx hb dX9_frame_77 rfl (lv_at hl 1 rfl) ?_
      obtain ⟨hi11, hp⟩ := o_chk hp
      refine g_zald (j := x2.toNatClampNeg) hx hb hK hP (kk_M_isOff) (ce_M_isOff) 1 rfl (vin_of hi11) rfl dX9_frame_78 ?_
      refine lv_if_ne (tgt := 95) hx hb dX9_frame_79 (by decide) (fun hcd12 => ?_) (fun hcd12 => ?_)
      · have hp := o_f hp hcd12
        exact kX9_frame_95 C0 hK hJ ih  hP hS hl hp
      · have hp := o_t hp hcd12
        refine lv_aload_n hx hb dX9_frame_82 rfl (lv_at hl 0 rfl) ?_
        refine lv_iload_n hx hb dX9_frame_83 rfl (lv_at hl 1 rfl) ?_
        refine lv_aload_n hx hb dX9_frame_84 rfl (lv_at hl 0 rfl) ?_
        refine g_get (v := .int (σ 0 1)) hx hb hts miX9_frame_X9 hown hK hP (kk_Mod) (ce_Mod) rfl 1 (by decide) mwX9_frame_1 rfl dX9_frame_85 ?_
        refine lv_bipush (v := (18 : Int32)) hx hb dX9_frame_88 (by decide) ?_
        refine lv_irem hx hb dX9_frame_90 (by decide) ?_
        obtain ⟨⟨r13, u14⟩, hq15, hp⟩ := o_b hp
        refine g_cVi (As := [.int x2, .int ((σ 0 1) - (σ 0 1) / ((18 : Int32)) * ((18 : Int32)))]) (rest := []) hx hb hml hown hts hK hP hS (mX9_mends l hJ hq15) (cwV 2 hts gX9_frame_X9_mends rfl rfl rfl nVX9_mends ⟨Nat.le_of_ble_eq_true rfl, Nat.le_of_ble_eq_true rfl⟩) (g_recv hK hP (kk_Mod) (ce_Mod) rfl) rfl hl.1 rfl (Nat.le_of_ble_eq_true rfl) dX9_frame_91 ⟨Nat.le_of_ble_eq_true rfl, Nat.le_of_ble_eq_true rfl⟩ (fun H locs hP hS => ?_)
        exact kX9_frame_94 C0 hK hJ ih  hP hS hl hp
def sX9_frame_26 : Nat → Int32 → Int32 → TS → Option (Int32 × TS)
  | 0, _, _, _ => none
  | n + 1, x1, x2, σ => (if ((3 : Int32)) ≤ x2 then sX9_frame_68 4 ((0 : Int32)) σ else (if vin ((x1 * ((3 : Int32))) + x2) 6 = true then (if (σ 5 (((x1 * ((3 : Int32))) + x2).toNatClampNeg)) ≤ 0 then sX9_frame_60 (sX9_frame_26 n) x1 x2 σ else ((sX9_run ((σ 5 (((x1 * ((3 : Int32))) + x2).toNatClampNeg)) - ((1 : Int32))) σ).bind (fun z => sX9_frame_60 (sX9_frame_26 n) x1 x2 z.2))) else none))
set_option maxHeartbeats 4000000 in
set_option maxRecDepth 100000 in
theorem kX9_frame_26 {r : Int32} {u : TS} (C0 : gC RX9 cX9_frame 4 ((some .int)) wsX9_frame p s m args meth c) (hK : va_K D vwCl (tyL cy) s) (hJ : gJ 39 q) : ∀ (n : Nat) (H : Heap) (locs : List Loc) (σ : TS) (x1 : Int32) (x2 : Int32) (hP : va_P D vwCl (gS 39 q (MX cy q) σ) H) (hS : va_S (gA 39 q) s.heap H locs) (ls : Array Slot) (hl : lv_has ls 4 [(0, .ref (q (0))), (1, .int x1), (2, .int x2)]) (hp : sX9_frame_26 n x1 x2 σ = some (r, u)), W p l e rmX9_frame s m args below meth c H locs 0 0 (MQ below (gQi D vwCl r (gS 39 q (MX cy q) u) (gA 39 q)) args s 0 0 (gA 39 q)) (F0 m 26 ls []) := by
  obtain ⟨hx, hb, hr, hml, hown, hts, hlocks⟩ := id C0
  intro n
  induction n with
  | zero =>
    intro H locs σ x1 x2 hP hS ls hl hp
    cases hp
  | succ n ih =>
    intro H locs σ x1 x2 hP hS ls hl hp
    unfold sX9_frame_26 at hp
    refine lv_iload_n hx hb dX9_frame_26 rfl (lv_at hl 2 rfl) ?_
    refine lv_iconst (v := (3 : Int32)) hx hb dX9_frame_27 (by decide) ?_
    refine lv_icmp_ge (tgt := 66) hx hb dX9_frame_28 (by decide) (fun hcd16 => ?_) (fun hcd16 => ?_)
    · have hp := o_t hp hcd16
      refine lv_iconst (v := (0 : Int32)) hx hb dX9_frame_66 (by decide) ?_
      refine lv_istore_n (lv' := [(2, .int ((0 : Int32))), (0, .ref (q (0))), (1, .int x1)]) hx hb dX9_frame_67 rfl hl (by decide) rfl (fun ls hl => ?_)
      exact kX9_frame_68 C0 hK hJ _ _ _ _ _  hP hS _ (lv_sub hl [1, 0] rfl) hp
    · have hp := o_f hp hcd16
      refine lv_aload_n hx hb dX9_frame_31 rfl (lv_at hl 0 rfl) ?_
      refine g_get (v := .ref (q (5))) hx hb hts miX9_frame_X9 hown hK hP (kk_Mod) (ce_Mod) rfl 7 (by decide) mwX9_frame_2 rfl dX9_frame_32 ?_
      refine lv_iload_n hx hb dX9_frame_35 rfl (lv_at hl 1 rfl) ?_
      refine lv_iconst (v := (3 : Int32)) hx hb dX9_frame_36 (by decide) ?_
      refine lv_imul hx hb dX9_frame_37 ?_
      refine lv_iload_n hx hb dX9_frame_38 rfl (lv_at hl 2 rfl) ?_
      refine lv_iadd hx hb dX9_frame_39 ?_
      obtain ⟨hi17, hp⟩ := o_chk hp
      refine g_iald (j := ((x1 * ((3 : Int32))) + x2).toNatClampNeg) hx hb hK hP (kk_M_slots) (ce_M_slots) 0 rfl (vin_of hi17) rfl dX9_frame_40 ?_
      refine lv_if_le (tgt := 60) hx hb dX9_frame_41 (by decide) (fun hcd18 => ?_) (fun hcd18 => ?_)
      · have hp := o_t hp hcd18
        exact kX9_frame_60 C0 hK hJ ih  hP hS hl hp
      · have hp := o_f hp hcd18
        refine lv_aload_n hx hb dX9_frame_44 rfl (lv_at hl 0 rfl) ?_
        refine lv_aload_n hx hb dX9_frame_45 rfl (lv_at hl 0 rfl) ?_
        refine g_get (v := .ref (q (5))) hx hb hts miX9_frame_X9 hown hK hP (kk_Mod) (ce_Mod) rfl 7 (by decide) mwX9_frame_2 rfl dX9_frame_46 ?_
        refine lv_iload_n hx hb dX9_frame_49 rfl (lv_at hl 1 rfl) ?_
        refine lv_iconst (v := (3 : Int32)) hx hb dX9_frame_50 (by decide) ?_
        refine lv_imul hx hb dX9_frame_51 ?_
        refine lv_iload_n hx hb dX9_frame_52 rfl (lv_at hl 2 rfl) ?_
        refine lv_iadd hx hb dX9_frame_53 ?_
        refine g_iald (j := ((x1 * ((3 : Int32))) + x2).toNatClampNeg) hx hb hK hP (kk_M_slots) (ce_M_slots) 0 rfl (vin_of hi17) rfl dX9_frame_54 ?_
        refine lv_iconst (v := (1 : Int32)) hx hb dX9_frame_55 (by decide) ?_
        refine lv_isub hx hb dX9_frame_56 ?_
        obtain ⟨⟨r19, u20⟩, hq21, hp⟩ := o_b hp
        refine g_cVv (As := [.int ((σ 5 (((x1 * ((3 : Int32))) + x2).toNatClampNeg)) - ((1 : Int32)))]) (rest := []) hx hb hml hown hts hK hP hS (mX9_run l hJ hq21) (cwV 1 hts gX9_frame_X9_run rfl rfl rfl nVX9_run ⟨Nat.le_of_ble_eq_true rfl, Nat.le_of_ble_eq_true rfl⟩) (g_recv hK hP (kk_Mod) (ce_Mod) rfl) rfl hl.1 rfl (Nat.le_of_ble_eq_true rfl) dX9_frame_57 ⟨Nat.le_of_ble_eq_true rfl, Nat.le_of_ble_eq_true rfl⟩ (fun H locs hP hS => ?_)
        exact kX9_frame_60 C0 hK hJ ih  hP hS hl hp
def sX9_frame_19 (σ : TS) : Option (Int32 × TS) := sX9_frame_26 4 (σ 0 2) ((0 : Int32)) σ
set_option maxHeartbeats 4000000 in
set_option maxRecDepth 100000 in
theorem kX9_frame_19 {r : Int32} {u : TS} (C0 : gC RX9 cX9_frame 4 ((some .int)) wsX9_frame p s m args meth c) (hK : va_K D vwCl (tyL cy) s) (hJ : gJ 39 q) {H : Heap} {locs : List Loc} {σ : TS} (hP : va_P D vwCl (gS 39 q (MX cy q) σ) H) (hS : va_S (gA 39 q) s.heap H locs) {ls : Array Slot} (hl : lv_has ls 4 [(0, .ref (q (0)))]) (hp : sX9_frame_19 σ = some (r, u)) : W p l e rmX9_frame s m args below meth c H locs 0 0 (MQ below (gQi D vwCl r (gS 39 q (MX cy q) u) (gA 39 q)) args s 0 0 (gA 39 q)) (F0 m 19 ls []) := by
  obtain ⟨hx, hb, hr, hml, hown, hts, hlocks⟩ := id C0
  unfold sX9_frame_19 at hp
  refine lv_aload_n hx hb dX9_frame_19 rfl (lv_at hl 0 rfl) ?_
  refine g_get (v := .int (σ 0 2)) hx hb hts miX9_frame_X9 hown hK hP (kk_Mod) (ce_Mod) rfl 2 (by decide) mwX9_frame_3 rfl dX9_frame_20 ?_
  refine lv_istore_n (lv' := [(1, .int (σ 0 2)), (0, .ref (q (0)))]) hx hb dX9_frame_23 rfl hl (by decide) rfl (fun ls hl => ?_)
  refine lv_iconst (v := (0 : Int32)) hx hb dX9_frame_24 (by decide) ?_
  refine lv_istore_n (lv' := [(2, .int ((0 : Int32))), (1, .int (σ 0 2)), (0, .ref (q (0)))]) hx hb dX9_frame_25 rfl hl (by decide) rfl (fun ls hl => ?_)
  exact kX9_frame_26 C0 hK hJ _ _ _ _ _ _  hP hS _ (lv_sub hl [2, 1, 0] rfl) hp
def sX9_frame_0 (σ : TS) : Option (Int32 × TS) := ((sX9_agree (st2 (st2 σ 0 0 ((0 : Int32))) 0 1 (((st2 σ 0 0 ((0 : Int32))) 0 1) + ((1 : Int32))))).bind (fun z => sX9_frame_19 z.2))
set_option maxHeartbeats 4000000 in
set_option maxRecDepth 100000 in
theorem kX9_frame_0 {r : Int32} {u : TS} (C0 : gC RX9 cX9_frame 4 ((some .int)) wsX9_frame p s m args meth c) (hK : va_K D vwCl (tyL cy) s) (hJ : gJ 39 q) {H : Heap} {locs : List Loc} {σ : TS} (hP : va_P D vwCl (gS 39 q (MX cy q) σ) H) (hS : va_S (gA 39 q) s.heap H locs) {ls : Array Slot} (hl : lv_has ls 4 [(0, .ref (q (0)))]) (hp : sX9_frame_0 σ = some (r, u)) : W p l e rmX9_frame s m args below meth c H locs 0 0 (MQ below (gQi D vwCl r (gS 39 q (MX cy q) u) (gA 39 q)) args s 0 0 (gA 39 q)) (F0 m 0 ls []) := by
  obtain ⟨hx, hb, hr, hml, hown, hts, hlocks⟩ := id C0
  unfold sX9_frame_0 at hp
  refine lv_aload_n hx hb dX9_frame_0 rfl (lv_at hl 0 rfl) ?_
  refine lv_iconst (v := (0 : Int32)) hx hb dX9_frame_1 (by decide) ?_
  refine g_put (v := (0 : Int32)) hx hb hts miX9_frame_X9 tyX9 tyX9_ok nmX9 hown hK hJ hP hS (kk_Mod) (ce_Mod) rfl 0 (by decide) mwX9_frame_4 rfl rfl rfl (Nat.le_of_ble_eq_true rfl) rfl dX9_frame_2 (fun H locs hP hS => ?_)
  refine lv_aload_n hx hb dX9_frame_5 rfl (lv_at hl 0 rfl) ?_
  refine lv_dup hx hb dX9_frame_6 rfl ?_
  refine g_get (v := .int ((st2 σ 0 0 ((0 : Int32))) 0 1)) hx hb hts miX9_frame_X9 hown hK hP (kk_Mod) (ce_Mod) rfl 1 (by decide) mwX9_frame_1 rfl dX9_frame_7 ?_
  refine lv_iconst (v := (1 : Int32)) hx hb dX9_frame_10 (by decide) ?_
  refine lv_iadd hx hb dX9_frame_11 ?_
  refine g_put (v := ((st2 σ 0 0 ((0 : Int32))) 0 1) + ((1 : Int32))) hx hb hts miX9_frame_X9 tyX9 tyX9_ok nmX9 hown hK hJ hP hS (kk_Mod) (ce_Mod) rfl 1 (by decide) mwX9_frame_1 rfl rfl rfl (Nat.le_of_ble_eq_true rfl) rfl dX9_frame_12 (fun H locs hP hS => ?_)
  refine lv_aload_n hx hb dX9_frame_15 rfl (lv_at hl 0 rfl) ?_
  obtain ⟨⟨r22, u23⟩, hq24, hp⟩ := o_b hp
  refine g_cVv (As := []) (rest := []) hx hb hml hown hts hK hP hS (mX9_agree l hJ hq24) (cwV 0 hts gX9_frame_X9_agree rfl rfl rfl nVX9_agree ⟨Nat.le_of_ble_eq_true rfl, Nat.le_of_ble_eq_true rfl⟩) (g_recv hK hP (kk_Mod) (ce_Mod) rfl) rfl hl.1 rfl (Nat.le_of_ble_eq_true rfl) dX9_frame_16 ⟨Nat.le_of_ble_eq_true rfl, Nat.le_of_ble_eq_true rfl⟩ (fun H locs hP hS => ?_)
  exact kX9_frame_19 C0 hK hJ  hP hS hl hp
def sX9_frame (σ : TS) : Option (Int32 × TS) := sX9_frame_0 σ
theorem nVX9_frame : yX9_frame.cls = RX9 ∧ yX9_frame.cls ≠ "java/lang/invoke/MethodHandle" ∧ yX9_frame.cls ≠ "java/lang/invoke/VarHandle" ∧ (parseMethodDescriptor yX9_frame.desc).map (fun d => d.parameters.length) = some 0 := by decide +kernel
set_option maxHeartbeats 4000000 in
set_option maxRecDepth 100000 in
theorem mX9_frame (l : Launch) (hJ : gJ 39 q) {σ : TS} {r : Int32} {u : TS} (hp : sX9_frame σ = some (r, u)) : Met l yX9_frame wsX9_frame rmX9_frame (va_Pc [.ref (q (0))] (gPre D vwCl (tyL cy) (gS 39 q (MX cy q) σ))) (gQi D vwCl r (gS 39 q (MX cy q) u) (gA 39 q)) 0 0 (gA 39 q) := by
  refine Met.ofW (cc := cX9_frame) (maxL := 4) (ret := (some .int)) (by decide +kernel) rfl ?_
  intro p e s m args below meth c s₁ B hml hv
  obtain ⟨rfl, hP, hK⟩ := hv
  have hl := lv_entry ([.ref (q (0))]) (n := 4) (Nat.le_of_ble_eq_true rfl)
  rw [lg_entry_eq]
  generalize (lg_sl ([.ref (q (0))]) ++ List.replicate (4 - (lg_sl ([.ref (q (0))])).length) Slot.unset).toArray = ls at hl ⊢
  have hl : lv_has ls 4 [(0, .ref (q (0)))] := hl
  exact kX9_frame_0 ⟨B.exec, B.bytes, B.returns, hml, findClass_of_methodNamed B.named, atoms_spec (ws := wsX9_frame) B.pre, B.notSynchronized⟩ hK hJ  hP va_S.rf hl hp
theorem miX9_time_X9 : ∀ w ∈ u_ws RX9 TX9 44, w ∈ wsX9_time := by decide +kernel
theorem mwX9_time_0 : Cond.fieldLink RX9 130 "TriplaneModel" "thrown" "I" ∈ wsX9_time := by decide +kernel
theorem mwX9_time_1 : Cond.fieldLink RX9 148 "TriplaneModel" "time" "I" ∈ wsX9_time := by decide +kernel
abbrev rmX9_time : Room := { frames := 0, cells := 0, slots := 0, locals := 0 }
def sX9_time_0 (σ : TS) : Option (Int32 × TS) := some ((st2 σ 0 0 ((0 : Int32))) 0 1, st2 σ 0 0 ((0 : Int32)))
set_option maxHeartbeats 4000000 in
set_option maxRecDepth 100000 in
theorem kX9_time_0 {r : Int32} {u : TS} (C0 : gC RX9 cX9_time 1 ((some .int)) wsX9_time p s m args meth c) (hK : va_K D vwCl (tyL cy) s) (hJ : gJ 39 q) {H : Heap} {locs : List Loc} {σ : TS} (hP : va_P D vwCl (gS 39 q (MX cy q) σ) H) (hS : va_S (gA 39 q) s.heap H locs) {ls : Array Slot} (hl : lv_has ls 1 [(0, .ref (q (0)))]) (hp : sX9_time_0 σ = some (r, u)) : W p l e rmX9_time s m args below meth c H locs 0 0 (MQ below (gQi D vwCl r (gS 39 q (MX cy q) u) (gA 39 q)) args s 0 0 (gA 39 q)) (F0 m 0 ls []) := by
  obtain ⟨hx, hb, hr, hml, hown, hts, hlocks⟩ := id C0
  unfold sX9_time_0 at hp
  refine lv_aload_n hx hb dX9_time_0 rfl (lv_at hl 0 rfl) ?_
  refine lv_iconst (v := (0 : Int32)) hx hb dX9_time_1 (by decide) ?_
  refine g_put (v := (0 : Int32)) hx hb hts miX9_time_X9 tyX9 tyX9_ok nmX9 hown hK hJ hP hS (kk_Mod) (ce_Mod) rfl 0 (by decide) mwX9_time_0 rfl rfl rfl (Nat.le_of_ble_eq_true rfl) rfl dX9_time_2 (fun H locs hP hS => ?_)
  refine lv_aload_n hx hb dX9_time_5 rfl (lv_at hl 0 rfl) ?_
  refine g_get (v := .int ((st2 σ 0 0 ((0 : Int32))) 0 1)) hx hb hts miX9_time_X9 hown hK hP (kk_Mod) (ce_Mod) rfl 1 (by decide) mwX9_time_1 rfl dX9_time_6 ?_
  obtain ⟨rfl, rfl⟩ := o_r hp
  exact W.iret (v := (st2 σ 0 0 ((0 : Int32))) 0 1) hx hb hr (fun t ht hW => ⟨⟨(st2 σ 0 0 ((0 : Int32))) 0 1, (), rfl, rfl, by subst ht; exact hP⟩, hS.F ht⟩) hS.2.2 dX9_time_9
def sX9_time (σ : TS) : Option (Int32 × TS) := sX9_time_0 σ
theorem nVX9_time : yX9_time.cls = RX9 ∧ yX9_time.cls ≠ "java/lang/invoke/MethodHandle" ∧ yX9_time.cls ≠ "java/lang/invoke/VarHandle" ∧ (parseMethodDescriptor yX9_time.desc).map (fun d => d.parameters.length) = some 0 := by decide +kernel
set_option maxHeartbeats 4000000 in
set_option maxRecDepth 100000 in
theorem mX9_time (l : Launch) (hJ : gJ 39 q) {σ : TS} {r : Int32} {u : TS} (hp : sX9_time σ = some (r, u)) : Met l yX9_time wsX9_time rmX9_time (va_Pc [.ref (q (0))] (gPre D vwCl (tyL cy) (gS 39 q (MX cy q) σ))) (gQi D vwCl r (gS 39 q (MX cy q) u) (gA 39 q)) 0 0 (gA 39 q) := by
  refine Met.ofW (cc := cX9_time) (maxL := 1) (ret := (some .int)) (by decide +kernel) rfl ?_
  intro p e s m args below meth c s₁ B hml hv
  obtain ⟨rfl, hP, hK⟩ := hv
  have hl := lv_entry ([.ref (q (0))]) (n := 1) (Nat.le_of_ble_eq_true rfl)
  rw [lg_entry_eq]
  generalize (lg_sl ([.ref (q (0))]) ++ List.replicate (1 - (lg_sl ([.ref (q (0))])).length) Slot.unset).toArray = ls at hl ⊢
  have hl : lv_has ls 1 [(0, .ref (q (0)))] := hl
  exact kX9_time_0 ⟨B.exec, B.bytes, B.returns, hml, findClass_of_methodNamed B.named, atoms_spec (ws := wsX9_time) B.pre, B.notSynchronized⟩ hK hJ  hP va_S.rf hl hp
theorem miX9_mode_X9 : ∀ w ∈ u_ws RX9 TX9 44, w ∈ wsX9_mode := by decide +kernel
theorem mwX9_mode_0 : Cond.fieldLink RX9 130 "TriplaneModel" "thrown" "I" ∈ wsX9_mode := by decide +kernel
theorem mwX9_mode_1 : Cond.fieldLink RX9 222 "TriplaneModel" "mode" "I" ∈ wsX9_mode := by decide +kernel
abbrev rmX9_mode : Room := { frames := 0, cells := 0, slots := 0, locals := 0 }
def sX9_mode_0 (σ : TS) : Option (Int32 × TS) := some ((st2 σ 0 0 ((0 : Int32))) 0 2, st2 σ 0 0 ((0 : Int32)))
set_option maxHeartbeats 4000000 in
set_option maxRecDepth 100000 in
theorem kX9_mode_0 {r : Int32} {u : TS} (C0 : gC RX9 cX9_mode 1 ((some .int)) wsX9_mode p s m args meth c) (hK : va_K D vwCl (tyL cy) s) (hJ : gJ 39 q) {H : Heap} {locs : List Loc} {σ : TS} (hP : va_P D vwCl (gS 39 q (MX cy q) σ) H) (hS : va_S (gA 39 q) s.heap H locs) {ls : Array Slot} (hl : lv_has ls 1 [(0, .ref (q (0)))]) (hp : sX9_mode_0 σ = some (r, u)) : W p l e rmX9_mode s m args below meth c H locs 0 0 (MQ below (gQi D vwCl r (gS 39 q (MX cy q) u) (gA 39 q)) args s 0 0 (gA 39 q)) (F0 m 0 ls []) := by
  obtain ⟨hx, hb, hr, hml, hown, hts, hlocks⟩ := id C0
  unfold sX9_mode_0 at hp
  refine lv_aload_n hx hb dX9_mode_0 rfl (lv_at hl 0 rfl) ?_
  refine lv_iconst (v := (0 : Int32)) hx hb dX9_mode_1 (by decide) ?_
  refine g_put (v := (0 : Int32)) hx hb hts miX9_mode_X9 tyX9 tyX9_ok nmX9 hown hK hJ hP hS (kk_Mod) (ce_Mod) rfl 0 (by decide) mwX9_mode_0 rfl rfl rfl (Nat.le_of_ble_eq_true rfl) rfl dX9_mode_2 (fun H locs hP hS => ?_)
  refine lv_aload_n hx hb dX9_mode_5 rfl (lv_at hl 0 rfl) ?_
  refine g_get (v := .int ((st2 σ 0 0 ((0 : Int32))) 0 2)) hx hb hts miX9_mode_X9 hown hK hP (kk_Mod) (ce_Mod) rfl 2 (by decide) mwX9_mode_1 rfl dX9_mode_6 ?_
  obtain ⟨rfl, rfl⟩ := o_r hp
  exact W.iret (v := (st2 σ 0 0 ((0 : Int32))) 0 2) hx hb hr (fun t ht hW => ⟨⟨(st2 σ 0 0 ((0 : Int32))) 0 2, (), rfl, rfl, by subst ht; exact hP⟩, hS.F ht⟩) hS.2.2 dX9_mode_9
def sX9_mode (σ : TS) : Option (Int32 × TS) := sX9_mode_0 σ
theorem nVX9_mode : yX9_mode.cls = RX9 ∧ yX9_mode.cls ≠ "java/lang/invoke/MethodHandle" ∧ yX9_mode.cls ≠ "java/lang/invoke/VarHandle" ∧ (parseMethodDescriptor yX9_mode.desc).map (fun d => d.parameters.length) = some 0 := by decide +kernel
set_option maxHeartbeats 4000000 in
set_option maxRecDepth 100000 in
theorem mX9_mode (l : Launch) (hJ : gJ 39 q) {σ : TS} {r : Int32} {u : TS} (hp : sX9_mode σ = some (r, u)) : Met l yX9_mode wsX9_mode rmX9_mode (va_Pc [.ref (q (0))] (gPre D vwCl (tyL cy) (gS 39 q (MX cy q) σ))) (gQi D vwCl r (gS 39 q (MX cy q) u) (gA 39 q)) 0 0 (gA 39 q) := by
  refine Met.ofW (cc := cX9_mode) (maxL := 1) (ret := (some .int)) (by decide +kernel) rfl ?_
  intro p e s m args below meth c s₁ B hml hv
  obtain ⟨rfl, hP, hK⟩ := hv
  have hl := lv_entry ([.ref (q (0))]) (n := 1) (Nat.le_of_ble_eq_true rfl)
  rw [lg_entry_eq]
  generalize (lg_sl ([.ref (q (0))]) ++ List.replicate (1 - (lg_sl ([.ref (q (0))])).length) Slot.unset).toArray = ls at hl ⊢
  have hl : lv_has ls 1 [(0, .ref (q (0)))] := hl
  exact kX9_mode_0 ⟨B.exec, B.bytes, B.returns, hml, findClass_of_methodNamed B.named, atoms_spec (ws := wsX9_mode) B.pre, B.notSynchronized⟩ hK hJ  hP va_S.rf hl hp
theorem miX9_output_X9 : ∀ w ∈ u_ws RX9 TX9 44, w ∈ wsX9_output := by decide +kernel
theorem mwX9_output_0 : Cond.fieldLink RX9 75 "TriplaneModel" "outputs" "[I" ∈ wsX9_output := by decide +kernel
abbrev rmX9_output : Room := { frames := 2, cells := 0, slots := 0, locals := 42 }
def sX9_output_21 (sx0 : Int32) (σ : TS) : Option (Int32 × TS) := some (sx0, σ)
set_option maxHeartbeats 4000000 in
set_option maxRecDepth 100000 in
theorem kX9_output_21 {r : Int32} {u : TS} (C0 : gC RX9 cX9_output 2 ((some .int)) wsX9_output p s m args meth c) (hK : va_K D vwCl (tyL cy) s) (hJ : gJ 39 q) {H : Heap} {locs : List Loc} {σ : TS} {sx0 : Int32} (hP : va_P D vwCl (gS 39 q (MX cy q) σ) H) (hS : va_S (gA 39 q) s.heap H locs) {ls : Array Slot} (hl : lv_has ls 2 []) (hp : sX9_output_21 sx0 σ = some (r, u)) : W p l e rmX9_output s m args below meth c H locs 0 0 (MQ below (gQi D vwCl r (gS 39 q (MX cy q) u) (gA 39 q)) args s 0 0 (gA 39 q)) (F0 m 21 ls [.int sx0]) := by
  obtain ⟨hx, hb, hr, hml, hown, hts, hlocks⟩ := id C0
  unfold sX9_output_21 at hp
  obtain ⟨rfl, rfl⟩ := o_r hp
  exact W.iret (v := sx0) hx hb hr (fun t ht hW => ⟨⟨sx0, (), rfl, rfl, by subst ht; exact hP⟩, hS.F ht⟩) hS.2.2 dX9_output_21
def sX9_output_8 (x1 : Int32) (sx0 : Int32) (σ : TS) : Option (Int32 × TS) := (if sx0 = 0 then (if vin x1 4 = true then sX9_output_21 (σ 22 (x1.toNatClampNeg)) σ else none) else sX9_output_21 ((0 : Int32)) σ)
set_option maxHeartbeats 4000000 in
set_option maxRecDepth 100000 in
theorem kX9_output_8 {r : Int32} {u : TS} (C0 : gC RX9 cX9_output 2 ((some .int)) wsX9_output p s m args meth c) (hK : va_K D vwCl (tyL cy) s) (hJ : gJ 39 q) {H : Heap} {locs : List Loc} {σ : TS} {x1 : Int32} {sx0 : Int32} (hP : va_P D vwCl (gS 39 q (MX cy q) σ) H) (hS : va_S (gA 39 q) s.heap H locs) {ls : Array Slot} (hl : lv_has ls 2 [(0, .ref (q (0))), (1, .int x1)]) (hp : sX9_output_8 x1 sx0 σ = some (r, u)) : W p l e rmX9_output s m args below meth c H locs 0 0 (MQ below (gQi D vwCl r (gS 39 q (MX cy q) u) (gA 39 q)) args s 0 0 (gA 39 q)) (F0 m 8 ls [.int sx0]) := by
  obtain ⟨hx, hb, hr, hml, hown, hts, hlocks⟩ := id C0
  unfold sX9_output_8 at hp
  refine lv_if_eq (tgt := 15) hx hb dX9_output_8 (by decide) (fun hcd1 => ?_) (fun hcd1 => ?_)
  · have hp := o_t hp hcd1
    refine lv_aload_n hx hb dX9_output_15 rfl (lv_at hl 0 rfl) ?_
    refine g_get (v := .ref (q (22))) hx hb hts miX9_output_X9 hown hK hP (kk_Mod) (ce_Mod) rfl 24 (by decide) mwX9_output_0 rfl dX9_output_16 ?_
    refine lv_iload_n hx hb dX9_output_19 rfl (lv_at hl 1 rfl) ?_
    obtain ⟨hi2, hp⟩ := o_chk hp
    refine g_iald (j := x1.toNatClampNeg) hx hb hK hP (kk_M_outputs) (ce_M_outputs) 0 rfl (vin_of hi2) rfl dX9_output_20 ?_
    exact kX9_output_21 C0 hK hJ  hP hS (lv_sub hl [] rfl) hp
  · have hp := o_f hp hcd1
    refine lv_iconst (v := (0 : Int32)) hx hb dX9_output_11 (by decide) ?_
    refine lv_goto (tgt := 21) hx hb dX9_output_12 (by decide) ?_
    exact kX9_output_21 C0 hK hJ  hP hS (lv_sub hl [] rfl) hp
def sX9_output_5 (x1 : Int32) (sx1 : Int32) (σ : TS) : Option (Int32 × TS) := ((sX9_isOut sx1 σ).bind (fun z => sX9_output_8 x1 z.1 z.2))
set_option maxHeartbeats 4000000 in
set_option maxRecDepth 100000 in
theorem kX9_output_5 {r : Int32} {u : TS} (C0 : gC RX9 cX9_output 2 ((some .int)) wsX9_output p s m args meth c) (hK : va_K D vwCl (tyL cy) s) (hJ : gJ 39 q) {H : Heap} {locs : List Loc} {σ : TS} {x1 : Int32} {sx1 : Int32} (hP : va_P D vwCl (gS 39 q (MX cy q) σ) H) (hS : va_S (gA 39 q) s.heap H locs) {ls : Array Slot} (hl : lv_has ls 2 [(0, .ref (q (0))), (1, .int x1)]) (hp : sX9_output_5 x1 sx1 σ = some (r, u)) : W p l e rmX9_output s m args below meth c H locs 0 0 (MQ below (gQi D vwCl r (gS 39 q (MX cy q) u) (gA 39 q)) args s 0 0 (gA 39 q)) (F0 m 5 ls [.int sx1, .ref (q (0))]) := by
  obtain ⟨hx, hb, hr, hml, hown, hts, hlocks⟩ := id C0
  unfold sX9_output_5 at hp
  obtain ⟨⟨r3, u4⟩, hq5, hp⟩ := o_b hp
  refine g_cVi (As := [.int sx1]) (rest := []) hx hb hml hown hts hK hP hS (mX9_isOut l hJ hq5) (cwV 1 hts gX9_output_X9_isOut rfl rfl rfl nVX9_isOut ⟨Nat.le_of_ble_eq_true rfl, Nat.le_of_ble_eq_true rfl⟩) (g_recv hK hP (kk_Mod) (ce_Mod) rfl) rfl hl.1 rfl (Nat.le_of_ble_eq_true rfl) dX9_output_5 ⟨Nat.le_of_ble_eq_true rfl, Nat.le_of_ble_eq_true rfl⟩ (fun H locs hP hS => ?_)
  exact kX9_output_8 C0 hK hJ  hP hS hl hp
def sX9_output_0 (x1 : Int32) (σ : TS) : Option (Int32 × TS) := ((sX9_isFour x1 σ).bind (fun z => sX9_output_5 x1 z.1 z.2))
set_option maxHeartbeats 4000000 in
set_option maxRecDepth 100000 in
theorem kX9_output_0 {r : Int32} {u : TS} (C0 : gC RX9 cX9_output 2 ((some .int)) wsX9_output p s m args meth c) (hK : va_K D vwCl (tyL cy) s) (hJ : gJ 39 q) {H : Heap} {locs : List Loc} {σ : TS} {x1 : Int32} (hP : va_P D vwCl (gS 39 q (MX cy q) σ) H) (hS : va_S (gA 39 q) s.heap H locs) {ls : Array Slot} (hl : lv_has ls 2 [(0, .ref (q (0))), (1, .int x1)]) (hp : sX9_output_0 x1 σ = some (r, u)) : W p l e rmX9_output s m args below meth c H locs 0 0 (MQ below (gQi D vwCl r (gS 39 q (MX cy q) u) (gA 39 q)) args s 0 0 (gA 39 q)) (F0 m 0 ls []) := by
  obtain ⟨hx, hb, hr, hml, hown, hts, hlocks⟩ := id C0
  unfold sX9_output_0 at hp
  refine lv_aload_n hx hb dX9_output_0 rfl (lv_at hl 0 rfl) ?_
  refine lv_iload_n hx hb dX9_output_1 rfl (lv_at hl 1 rfl) ?_
  obtain ⟨⟨r6, u7⟩, hq8, hp⟩ := o_b hp
  refine g_cSi (As := [.int x1]) (rest := [.ref (q (0))]) hx hb hml hown hts hK hP hS (mX9_isFour l hJ hq8) (va_cwS 1 hts gX9_output_X9_isFour rfl rfl rfl nVX9_isFour ⟨Nat.le_of_ble_eq_true rfl, Nat.le_of_ble_eq_true rfl⟩) rfl hl.1 rfl (Nat.le_of_ble_eq_true rfl) dX9_output_2 ⟨Nat.le_of_ble_eq_true rfl, Nat.le_of_ble_eq_true rfl⟩ (fun H locs hP hS => ?_)
  exact kX9_output_5 C0 hK hJ  hP hS hl hp
def sX9_output (x1 : Int32) (σ : TS) : Option (Int32 × TS) := sX9_output_0 x1 σ
theorem nVX9_output : yX9_output.cls = RX9 ∧ yX9_output.cls ≠ "java/lang/invoke/MethodHandle" ∧ yX9_output.cls ≠ "java/lang/invoke/VarHandle" ∧ (parseMethodDescriptor yX9_output.desc).map (fun d => d.parameters.length) = some 1 := by decide +kernel
set_option maxHeartbeats 4000000 in
set_option maxRecDepth 100000 in
theorem mX9_output (l : Launch) (hJ : gJ 39 q) {x1 : Int32} {σ : TS} {r : Int32} {u : TS} (hp : sX9_output x1 σ = some (r, u)) : Met l yX9_output wsX9_output rmX9_output (va_Pc [.ref (q (0)), .int x1] (gPre D vwCl (tyL cy) (gS 39 q (MX cy q) σ))) (gQi D vwCl r (gS 39 q (MX cy q) u) (gA 39 q)) 0 0 (gA 39 q) := by
  refine Met.ofW (cc := cX9_output) (maxL := 2) (ret := (some .int)) (by decide +kernel) rfl ?_
  intro p e s m args below meth c s₁ B hml hv
  obtain ⟨rfl, hP, hK⟩ := hv
  have hl := lv_entry ([.ref (q (0)), .int x1]) (n := 2) (Nat.le_of_ble_eq_true rfl)
  rw [lg_entry_eq]
  generalize (lg_sl ([.ref (q (0)), .int x1]) ++ List.replicate (2 - (lg_sl ([.ref (q (0)), .int x1])).length) Slot.unset).toArray = ls at hl ⊢
  have hl : lv_has ls 2 [(0, .ref (q (0))), (1, .int x1)] := hl
  exact kX9_output_0 ⟨B.exec, B.bytes, B.returns, hml, findClass_of_methodNamed B.named, atoms_spec (ws := wsX9_output) B.pre, B.notSynchronized⟩ hK hJ  hP va_S.rf hl hp
end

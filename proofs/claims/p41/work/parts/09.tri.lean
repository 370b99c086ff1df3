section
variable {p : Program} {l : Launch} {e : Env} {s : State} {m : MethodId} {args : Array Value} {below : List Frame} {meth : Method} {c : Code} {D : va_G} {cy : Nat → ClassId} {q : Nat → Nat}
theorem miX8_countOn_X1 : ∀ w ∈ u_ws RX1 TX1 14, w ∈ wsX8_countOn := by decide +kernel
theorem miX8_countOn_X8 : ∀ w ∈ u_ws RX8 TX8 16, w ∈ wsX8_countOn := by decide +kernel
theorem mwX8_countOn_0 : Cond.fieldLink RX8 11 "Triplane" "computers" "[LTriplane$Computer;" ∈ wsX8_countOn := by decide +kernel
theorem mwX8_countOn_1 : Cond.fieldLink RX8 162 "Triplane$Computer" "isRunning" "Z" ∈ wsX8_countOn := by decide +kernel
abbrev rmX8_countOn : Room := { frames := 0, cells := 0, slots := 0, locals := 0 }
def sX8_countOn_24 (K4 : Int32 → Int32 → TS → Option (Int32 × TS)) (x1 : Int32) (x2 : Int32) (σ : TS) : Option (Int32 × TS) := K4 x1 (x2 + (1 : Int32)) σ
set_option maxHeartbeats 4000000 in
set_option maxRecDepth 100000 in
theorem kX8_countOn_24 {r : Int32} {u : TS} {K4 : Int32 → Int32 → TS → Option (Int32 × TS)} (C0 : gC RX8 cX8_countOn 3 ((some .int)) wsX8_countOn p s m args meth c) (hK : va_K D vwCl (tyL cy) s) (hJ : gJ 78 q) (kh4 : ∀ (H : Heap) (locs : List Loc) (σ : TS) (x1 : Int32) (x2 : Int32) (hP : va_P D vwCl (gS 78 q (TX cy q) σ) H) (hS : va_S (gA 78 q) s.heap H locs) (ls : Array Slot) (hl : lv_has ls 3 [(0, .ref (q (0))), (1, .int x1), (2, .int x2)]) (hp : K4 x1 x2 σ = some (r, u)), W p l e rmX8_countOn s m args below meth c H locs 0 0 (MQ below (gQi D vwCl r (gS 78 q (TX cy q) u) (gA 78 q)) args s 0 0 (gA 78 q)) (F0 m 4 ls [])) {H : Heap} {locs : List Loc} {σ : TS} {x1 : Int32} {x2 : Int32} (hP : va_P D vwCl (gS 78 q (TX cy q) σ) H) (hS : va_S (gA 78 q) s.heap H locs) {ls : Array Slot} (hl : lv_has ls 3 [(0, .ref (q (0))), (1, .int x1), (2, .int x2)]) (hp : sX8_countOn_24 K4 x1 x2 σ = some (r, u)) : W p l e rmX8_countOn s m args below meth c H locs 0 0 (MQ below (gQi D vwCl r (gS 78 q (TX cy q) u) (gA 78 q)) args s 0 0 (gA 78 q)) (F0 m 24 ls []) := by
  obtain ⟨hx, hb, hr, hml, hown, hts, hlocks⟩ := id C0
  unfold sX8_countOn_24 at hp
  refine lv_iinc (v := x2 + (1 : Int32)) (lv' := [(2, .int (x2 + (1 : Int32))), (0, .ref (q (0))), (1, .int x1)]) hx hb dX8_countOn_24 hl (k := 2) rfl rfl (by decide) rfl (fun ls hl => ?_)
  refine lv_goto (tgt := 4) hx hb dX8_countOn_27 (by decide) ?_
  exact kh4 _ _ _ _ _  hP hS _ (lv_sub hl [1, 2, 0] rfl) hp
def sX8_countOn_4 : Nat → Int32 → Int32 → TS → Option (Int32 × TS)
  | 0, _, _, _ => none
  | n + 1, x1, x2, σ => (if ((3 : Int32)) ≤ x2 then some (x1, σ) else (if vin x2 3 = true then (if (σ (15+6*(x2.toNatClampNeg)) 6) = 0 then sX8_countOn_24 (sX8_countOn_4 n) x1 x2 σ else sX8_countOn_24 (sX8_countOn_4 n) (x1 + (1 : Int32)) x2 σ) else none))
set_option maxHeartbeats 4000000 in
set_option maxRecDepth 100000 in
theorem kX8_countOn_4 {r : Int32} {u : TS} (C0 : gC RX8 cX8_countOn 3 ((some .int)) wsX8_countOn p s m args meth c) (hK : va_K D vwCl (tyL cy) s) (hJ : gJ 78 q) : ∀ (n : Nat) (H : Heap) (locs : List Loc) (σ : TS) (x1 : Int32) (x2 : Int32) (hP : va_P D vwCl (gS 78 q (TX cy q) σ) H) (hS : va_S (gA 78 q) s.heap H locs) (ls : Array Slot) (hl : lv_has ls 3 [(0, .ref (q (0))), (1, .int x1), (2, .int x2)]) (hp : sX8_countOn_4 n x1 x2 σ = some (r, u)), W p l e rmX8_countOn s m args below meth c H locs 0 0 (MQ below (gQi D vwCl r (gS 78 q (TX cy q) u) (gA 78 q)) args s 0 0 (gA 78 q)) (F0 m 4 ls []) := by
  obtain ⟨hx, hb, hr, hml, hown, hts, hlocks⟩ := id C0
  intro n
  induction n with
  | zero =>
    intro H locs σ x1 x2 hP hS ls hl hp
    cases hp
  | succ n ih =>
    intro H locs σ x1 x2 hP hS ls hl hp
    unfold sX8_countOn_4 at hp
    refine lv_iload_n hx hb dX8_countOn_4 rfl (lv_at hl 2 rfl) ?_
    refine lv_iconst (v := (3 : Int32)) hx hb dX8_countOn_5 (by decide) ?_
    refine lv_icmp_ge (tgt := 30) hx hb dX8_countOn_6 (by decide) (fun hcd1 => ?_) (fun hcd1 => ?_)
    · have hp := o_t hp hcd1
      refine lv_iload_n hx hb dX8_countOn_30 rfl (lv_at hl 1 rfl) ?_
      obtain ⟨rfl, rfl⟩ := o_r hp
      exact W.iret (v := x1) hx hb hr (fun t ht hW => ⟨⟨x1, (), rfl, rfl, by subst ht; exact hP⟩, hS.F ht⟩) hS.2.2 dX8_countOn_31
    · have hp := o_f hp hcd1
      refine lv_aload_n hx hb dX8_countOn_9 rfl (lv_at hl 0 rfl) ?_
      refine g_get (v := .ref (q (1))) hx hb hts miX8_countOn_X8 hown hK hP (kk_Tri) (ce_Tri) rfl 0 (by decide) mwX8_countOn_0 rfl dX8_countOn_10 ?_
      refine lv_iload_n hx hb dX8_countOn_13 rfl (lv_at hl 2 rfl) ?_
      obtain ⟨hi2, hp⟩ := o_chk hp
      have hn3 : x2.toNatClampNeg < 4 := Nat.lt_of_lt_of_le (vin_lt hi2) (by decide)
      refine g_aald (j := x2.toNatClampNeg) hx hb hK hP (kk_CompArr) (ce_CompArr) 3 rfl rfl (vin_of hi2) rfl dX8_countOn_14 ?_
      refine g_get (v := .int (σ (15+6*(x2.toNatClampNeg)) 6)) hx hb hts miX8_countOn_X1 hown hK hP (kk_Comp hn3) (ce_Comp hn3) rfl 6 (by decide) mwX8_countOn_1 rfl dX8_countOn_15 ?_
      refine lv_if_eq (tgt := 24) hx hb dX8_countOn_18 (by decide) (fun hcd4 => ?_) (fun hcd4 => ?_)
      · have hp := o_t hp hcd4
        exact kX8_countOn_24 C0 hK hJ ih  hP hS hl hp
      · have hp := o_f hp hcd4
        refine lv_iinc (v := x1 + (1 : Int32)) (lv' := [(1, .int (x1 + (1 : Int32))), (0, .ref (q (0))), (2, .int x2)]) hx hb dX8_countOn_21 hl (k := 1) rfl rfl (by decide) rfl (fun ls hl => ?_)
        exact kX8_countOn_24 C0 hK hJ ih  hP hS (lv_sub hl [1, 0, 2] rfl) hp
def sX8_countOn_0 (σ : TS) : Option (Int32 × TS) := sX8_countOn_4 4 ((0 : Int32)) ((0 : Int32)) σ
set_option maxHeartbeats 4000000 in
set_option maxRecDepth 100000 in
theorem kX8_countOn_0 {r : Int32} {u : TS} (C0 : gC RX8 cX8_countOn 3 ((some .int)) wsX8_countOn p s m args meth c) (hK : va_K D vwCl (tyL cy) s) (hJ : gJ 78 q) {H : Heap} {locs : List Loc} {σ : TS} (hP : va_P D vwCl (gS 78 q (TX cy q) σ) H) (hS : va_S (gA 78 q) s.heap H locs) {ls : Array Slot} (hl : lv_has ls 3 [(0, .ref (q (0)))]) (hp : sX8_countOn_0 σ = some (r, u)) : W p l e rmX8_countOn s m args below meth c H locs 0 0 (MQ below (gQi D vwCl r (gS 78 q (TX cy q) u) (gA 78 q)) args s 0 0 (gA 78 q)) (F0 m 0 ls []) := by
  obtain ⟨hx, hb, hr, hml, hown, hts, hlocks⟩ := id C0
  unfold sX8_countOn_0 at hp
  refine lv_iconst (v := (0 : Int32)) hx hb dX8_countOn_0 (by decide) ?_
  refine lv_istore_n (lv' := [(1, .int ((0 : Int32))), (0, .ref (q (0)))]) hx hb dX8_countOn_1 rfl hl (by decide) rfl (fun ls hl => ?_)
  refine lv_iconst (v := (0 : Int32)) hx hb dX8_countOn_2 (by decide) ?_
  refine lv_istore_n (lv' := [(2, .int ((0 : Int32))), (1, .int ((0 : Int32))), (0, .ref (q (0)))]) hx hb dX8_countOn_3 rfl hl (by decide) rfl (fun ls hl => ?_)
  exact kX8_countOn_4 C0 hK hJ _ _ _ _ _ _  hP hS _ (lv_sub hl [2, 1, 0] rfl) hp
def sX8_countOn (σ : TS) : Option (Int32 × TS) := sX8_countOn_0 σ
theorem nVX8_countOn : yX8_countOn.cls = RX8 ∧ yX8_countOn.cls ≠ "java/lang/invoke/MethodHandle" ∧ yX8_countOn.cls ≠ "java/lang/invoke/VarHandle" ∧ (parseMethodDescriptor yX8_countOn.desc).map (fun d => d.parameters.length) = some 0 := by decide +kernel
set_option maxHeartbeats 4000000 in
set_option maxRecDepth 100000 in
theorem mX8_countOn (l : Launch) (hJ : gJ 78 q) {σ : TS} {r : Int32} {u : TS} (hp : sX8_countOn σ = some (r, u)) : Met l yX8_countOn wsX8_countOn rmX8_countOn (va_Pc [.ref (q (0))] (gPre D vwCl (tyL cy) (gS 78 q (TX cy q) σ))) (gQi D vwCl r (gS 78 q (TX cy q) u) (gA 78 q)) 0 0 (gA 78 q) := by
  refine Met.ofW (cc := cX8_countOn) (maxL := 3) (ret := (some .int)) (by decide +kernel) rfl ?_
  intro p e s m args below meth c s₁ B hml hv
  obtain ⟨rfl, hP, hK⟩ := hv
  have hl := lv_entry ([.ref (q (0))]) (n := 3) (Nat.le_of_ble_eq_true rfl)
  rw [lg_entry_eq]
  generalize (lg_sl ([.ref (q (0))]) ++ List.replicate (3 - (lg_sl ([.ref (q (0))])).length) Slot.unset).toArray = ls at hl ⊢
  have hl : lv_has ls 3 [(0, .ref (q (0)))] := hl
  exact kX8_countOn_0 ⟨B.exec, B.bytes, B.returns, hml, findClass_of_methodNamed B.named, atoms_spec (ws := wsX8_countOn) B.pre, B.notSynchronized⟩ hK hJ  hP va_S.rf hl hp
theorem miX8_isOneOfThreeLeft_X1 : ∀ w ∈ u_ws RX1 TX1 14, w ∈ wsX8_isOneOfThreeLeft := by decide +kernel
theorem miX8_isOneOfThreeLeft_X8 : ∀ w ∈ u_ws RX8 TX8 16, w ∈ wsX8_isOneOfThreeLeft := by decide +kernel
theorem mwX8_isOneOfThreeLeft_0 : Cond.fieldLink RX8 11 "Triplane" "computers" "[LTriplane$Computer;" ∈ wsX8_isOneOfThreeLeft := by decide +kernel
theorem mwX8_isOneOfThreeLeft_1 : Cond.fieldLink RX8 162 "Triplane$Computer" "isRunning" "Z" ∈ wsX8_isOneOfThreeLeft := by decide +kernel
abbrev rmX8_isOneOfThreeLeft : Room := { frames := 1, cells := 0, slots := 0, locals := 21 }
def sX8_isOneOfThreeLeft_34 (K2 : Nat → Int32 → TS → Option (Int32 × TS)) (c1 : Nat) (x2 : Int32) (σ : TS) : Option (Int32 × TS) := K2 c1 (x2 + (1 : Int32)) σ
set_option maxHeartbeats 4000000 in
set_option maxRecDepth 100000 in
theorem kX8_isOneOfThreeLeft_34 {r : Int32} {u : TS} {K2 : Nat → Int32 → TS → Option (Int32 × TS)} (C0 : gC RX8 cX8_isOneOfThreeLeft 3 ((some .boolean)) wsX8_isOneOfThreeLeft p s m args meth c) (hK : va_K D vwCl (tyL cy) s) (hJ : gJ 78 q) (kh2 : ∀ (H : Heap) (locs : List Loc) (σ : TS) (c1 : Nat) (x2 : Int32) (hc1 : c1 < 3) (hP : va_P D vwCl (gS 78 q (TX cy q) σ) H) (hS : va_S (gA 78 q) s.heap H locs) (ls : Array Slot) (hl : lv_has ls 3 [(0, .ref (q (0))), (1, .ref (q (39+4*c1))), (2, .int x2)]) (hp : K2 c1 x2 σ = some (r, u)), W p l e rmX8_isOneOfThreeLeft s m args below meth c H locs 0 0 (MQ below (gQi D vwCl r (gS 78 q (TX cy q) u) (gA 78 q)) args s 0 0 (gA 78 q)) (F0 m 2 ls [])) {H : Heap} {locs : List Loc} {σ : TS} {c1 : Nat} {x2 : Int32} (hc1 : c1 < 3) (hP : va_P D vwCl (gS 78 q (TX cy q) σ) H) (hS : va_S (gA 78 q) s.heap H locs) {ls : Array Slot} (hl : lv_has ls 3 [(0, .ref (q (0))), (1, .ref (q (39+4*c1))), (2, .int x2)]) (hp : sX8_isOneOfThreeLeft_34 K2 c1 x2 σ = some (r, u)) : W p l e rmX8_isOneOfThreeLeft s m args below meth c H locs 0 0 (MQ below (gQi D vwCl r (gS 78 q (TX cy q) u) (gA 78 q)) args s 0 0 (gA 78 q)) (F0 m 34 ls []) := by
  obtain ⟨hx, hb, hr, hml, hown, hts, hlocks⟩ := id C0
  unfold sX8_isOneOfThreeLeft_34 at hp
  refine lv_iinc (v := x2 + (1 : Int32)) (lv' := [(2, .int (x2 + (1 : Int32))), (0, .ref (q (0))), (1, .ref (q (39+4*c1)))]) hx hb dX8_isOneOfThreeLeft_34 hl (k := 2) rfl rfl (by decide) rfl (fun ls hl => ?_)
  refine lv_goto (tgt := 2) hx hb dX8_isOneOfThreeLeft_37 (by decide) ?_
  exact kh2 _ _ _ _ _ hc1 hP hS _ (lv_sub hl [1, 2, 0] rfl) hp
def sX8_isOneOfThreeLeft_29 (K2 : Nat → Int32 → TS → Option (Int32 × TS)) (c1 : Nat) (x2 : Int32) (sx0 : Int32) (σ : TS) : Option (Int32 × TS) := (if sx0 = 0 then sX8_isOneOfThreeLeft_34 K2 c1 x2 σ else some ((1 : Int32), σ))
set_option maxHeartbeats 4000000 in
set_option maxRecDepth 100000 in
theorem kX8_isOneOfThreeLeft_29 {r : Int32} {u : TS} {K2 : Nat → Int32 → TS → Option (Int32 × TS)} (C0 : gC RX8 cX8_isOneOfThreeLeft 3 ((some .boolean)) wsX8_isOneOfThreeLeft p s m args meth c) (hK : va_K D vwCl (tyL cy) s) (hJ : gJ 78 q) (kh2 : ∀ (H : Heap) (locs : List Loc) (σ : TS) (c1 : Nat) (x2 : Int32) (hc1 : c1 < 3) (hP : va_P D vwCl (gS 78 q (TX cy q) σ) H) (hS : va_S (gA 78 q) s.heap H locs) (ls : Array Slot) (hl : lv_has ls 3 [(0, .ref (q (0))), (1, .ref (q (39+4*c1))), (2, .int x2)]) (hp : K2 c1 x2 σ = some (r, u)), W p l e rmX8_isOneOfThreeLeft s m args below meth c H locs 0 0 (MQ below (gQi D vwCl r (gS 78 q (TX cy q) u) (gA 78 q)) args s 0 0 (gA 78 q)) (F0 m 2 ls [])) {H : Heap} {locs : List Loc} {σ : TS} {c1 : Nat} {x2 : Int32} {sx0 : Int32} (hc1 : c1 < 3) (hP : va_P D vwCl (gS 78 q (TX cy q) σ) H) (hS : va_S (gA 78 q) s.heap H locs) {ls : Array Slot} (hl : lv_has ls 3 [(0, .ref (q (0))), (1, .ref (q (39+4*c1))), (2, .int x2)]) (hp : sX8_isOneOfThreeLeft_29 K2 c1 x2 sx0 σ = some (r, u)) : W p l e rmX8_isOneOfThreeLeft s m args below meth c H locs 0 0 (MQ below (gQi D vwCl r (gS 78 q (TX cy q) u) (gA 78 q)) args s 0 0 (gA 78 q)) (F0 m 29 ls [.int sx0]) := by
  obtain ⟨hx, hb, hr, hml, hown, hts, hlocks⟩ := id C0
  unfold sX8_isOneOfThreeLeft_29 at hp
  refine lv_if_eq (tgt := 34) hx hb dX8_isOneOfThreeLeft_29 (by decide) (fun hcd1 => ?_) (fun hcd1 => ?_)
  · have hp := o_t hp hcd1
    exact kX8_isOneOfThreeLeft_34 C0 hK hJ kh2 hc1 hP hS hl hp
  · have hp := o_f hp hcd1
    refine lv_iconst (v := (1 : Int32)) hx hb dX8_isOneOfThreeLeft_32 (by decide) ?_
    obtain ⟨rfl, rfl⟩ := o_r hp
    exact W.zret (v := (1 : Int32)) hx hb hr (zok_n (by decide)).1 (fun t ht hW => ⟨⟨(1 : Int32), (), rfl, rfl, by subst ht; exact hP⟩, hS.F ht⟩) hS.2.2 dX8_isOneOfThreeLeft_33
def sX8_isOneOfThreeLeft_2 : Nat → Nat → Int32 → TS → Option (Int32 × TS)
  | 0, _, _, _ => none
  | n + 1, c1, x2, σ => (if ((3 : Int32)) ≤ x2 then some ((0 : Int32), σ) else (if vin x2 3 = true then (if (σ (15+6*(x2.toNatClampNeg)) 6) = 0 then sX8_isOneOfThreeLeft_34 (sX8_isOneOfThreeLeft_2 n) c1 x2 σ else ((sX1_hasLeft (x2.toNatClampNeg) c1 σ).bind (fun z => sX8_isOneOfThreeLeft_29 (sX8_isOneOfThreeLeft_2 n) c1 x2 z.1 z.2))) else none))
set_option maxHeartbeats 4000000 in
set_option maxRecDepth 100000 in
theorem kX8_isOneOfThreeLeft_2 {r : Int32} {u : TS} (C0 : gC RX8 cX8_isOneOfThreeLeft 3 ((some .boolean)) wsX8_isOneOfThreeLeft p s m args meth c) (hK : va_K D vwCl (tyL cy) s) (hJ : gJ 78 q) : ∀ (n : Nat) (H : Heap) (locs : List Loc) (σ : TS) (c1 : Nat) (x2 : Int32) (hc1 : c1 < 3) (hP : va_P D vwCl (gS 78 q (TX cy q) σ) H) (hS : va_S (gA 78 q) s.heap H locs) (ls : Array Slot) (hl : lv_has ls 3 [(0, .ref (q (0))), (1, .ref (q (39+4*c1))), (2, .int x2)]) (hp : sX8_isOneOfThreeLeft_2 n c1 x2 σ = some (r, u)), W p l e rmX8_isOneOfThreeLeft s m args below meth c H locs 0 0 (MQ below (gQi D vwCl r (gS 78 q (TX cy q) u) (gA 78 q)) args s 0 0 (gA 78 q)) (F0 m 2 ls []) := by
  obtain ⟨hx, hb, hr, hml, hown, hts, hlocks⟩ := id C0
  intro n
  induction n with
  | zero =>
    intro H locs σ c1 x2 hc1 hP hS ls hl hp
    cases hp
  | succ n ih =>
    intro H locs σ c1 x2 hc1 hP hS ls hl hp
    unfold sX8_isOneOfThreeLeft_2 at hp
    refine lv_iload_n hx hb dX8_isOneOfThreeLeft_2 rfl (lv_at hl 2 rfl) ?_
    refine lv_iconst (v := (3 : Int32)) hx hb dX8_isOneOfThreeLeft_3 (by decide) ?_
    refine lv_icmp_ge (tgt := 40) hx hb dX8_isOneOfThreeLeft_4 (by decide) (fun hcd2 => ?_) (fun hcd2 => ?_)
    · have hp := o_t hp hcd2
      refine lv_iconst (v := (0 : Int32)) hx hb dX8_isOneOfThreeLeft_40 (by decide) ?_
      obtain ⟨rfl, rfl⟩ := o_r hp
      exact W.zret (v := (0 : Int32)) hx hb hr (zok_n (by decide)).1 (fun t ht hW => ⟨⟨(0 : Int32), (), rfl, rfl, by subst ht; exact hP⟩, hS.F ht⟩) hS.2.2 dX8_isOneOfThreeLeft_41
    · have hp := o_f hp hcd2
      refine lv_aload_n hx hb dX8_isOneOfThreeLeft_7 rfl (lv_at hl 0 rfl) ?_
      refine g_get (v := .ref (q (1))) hx hb hts miX8_isOneOfThreeLeft_X8 hown hK hP (kk_Tri) (ce_Tri) rfl 0 (by decide) mwX8_isOneOfThreeLeft_0 rfl dX8_isOneOfThreeLeft_8 ?_
      refine lv_iload_n hx hb dX8_isOneOfThreeLeft_11 rfl (lv_at hl 2 rfl) ?_
      obtain ⟨hi3, hp⟩ := o_chk hp
      have hn4 : x2.toNatClampNeg < 4 := Nat.lt_of_lt_of_le (vin_lt hi3) (by decide)
      refine g_aald (j := x2.toNatClampNeg) hx hb hK hP (kk_CompArr) (ce_CompArr) 3 rfl rfl (vin_of hi3) rfl dX8_isOneOfThreeLeft_12 ?_
      refine g_get (v := .int (σ (15+6*(x2.toNatClampNeg)) 6)) hx hb hts miX8_isOneOfThreeLeft_X1 hown hK hP (kk_Comp hn4) (ce_Comp hn4) rfl 6 (by decide) mwX8_isOneOfThreeLeft_1 rfl dX8_isOneOfThreeLeft_13 ?_
      refine lv_if_eq (tgt := 34) hx hb dX8_isOneOfThreeLeft_16 (by decide) (fun hcd5 => ?_) (fun hcd5 => ?_)
      · have hp := o_t hp hcd5
        exact kX8_isOneOfThreeLeft_34 C0 hK hJ ih hc1 hP hS hl hp
      · have hp := o_f hp hcd5
        refine lv_aload_n hx hb dX8_isOneOfThreeLeft_19 rfl (lv_at hl 0 rfl) ?_
        refine g_get (v := .ref (q (1))) hx hb hts miX8_isOneOfThreeLeft_X8 hown hK hP (kk_Tri) (ce_Tri) rfl 0 (by decide) mwX8_isOneOfThreeLeft_0 rfl dX8_isOneOfThreeLeft_20 ?_
        refine lv_iload_n hx hb dX8_isOneOfThreeLeft_23 rfl (lv_at hl 2 rfl) ?_
        have hn6 : x2.toNatClampNeg < 4 := Nat.lt_of_lt_of_le (vin_lt hi3) (by decide)
        refine g_aald (j := x2.toNatClampNeg) hx hb hK hP (kk_CompArr) (ce_CompArr) 3 rfl rfl (vin_of hi3) rfl dX8_isOneOfThreeLeft_24 ?_
        refine lv_aload_n hx hb dX8_isOneOfThreeLeft_25 rfl (lv_at hl 1 rfl) ?_
        obtain ⟨⟨r7, u8⟩, hq9, hp⟩ := o_b hp
        refine g_cVi (As := [.ref (q (39+4*c1))]) (rest := []) hx hb hml hown hts hK hP hS (mX1_hasLeft l hJ hn6 hc1 hq9) (cwV 1 hts gX8_isOneOfThreeLeft_X1_hasLeft rfl rfl rfl nVX1_hasLeft ⟨Nat.le_of_ble_eq_true rfl, Nat.le_of_ble_eq_true rfl⟩) (g_recv hK hP (kk_Comp hn6) (ce_Comp hn6) rfl) rfl hl.1 rfl (Nat.le_of_ble_eq_true rfl) dX8_isOneOfThreeLeft_26 ⟨Nat.le_of_ble_eq_true rfl, Nat.le_of_ble_eq_true rfl⟩ (fun H locs hP hS => ?_)
        exact kX8_isOneOfThreeLeft_29 C0 hK hJ ih hc1 hP hS hl hp
def sX8_isOneOfThreeLeft_0 (c1 : Nat) (σ : TS) : Option (Int32 × TS) := sX8_isOneOfThreeLeft_2 4 c1 ((0 : Int32)) σ
set_option maxHeartbeats 4000000 in
set_option maxRecDepth 100000 in
theorem kX8_isOneOfThreeLeft_0 {r : Int32} {u : TS} (C0 : gC RX8 cX8_isOneOfThreeLeft 3 ((some .boolean)) wsX8_isOneOfThreeLeft p s m args meth c) (hK : va_K D vwCl (tyL cy) s) (hJ : gJ 78 q) {H : Heap} {locs : List Loc} {σ : TS} {c1 : Nat} (hc1 : c1 < 3) (hP : va_P D vwCl (gS 78 q (TX cy q) σ) H) (hS : va_S (gA 78 q) s.heap H locs) {ls : Array Slot} (hl : lv_has ls 3 [(0, .ref (q (0))), (1, .ref (q (39+4*c1)))]) (hp : sX8_isOneOfThreeLeft_0 c1 σ = some (r, u)) : W p l e rmX8_isOneOfThreeLeft s m args below meth c H locs 0 0 (MQ below (gQi D vwCl r (gS 78 q (TX cy q) u) (gA 78 q)) args s 0 0 (gA 78 q)) (F0 m 0 ls []) := by
  obtain ⟨hx, hb, hr, hml, hown, hts, hlocks⟩ := id C0
  unfold sX8_isOneOfThreeLeft_0 at hp
  refine lv_iconst (v := (0 : Int32)) hx hb dX8_isOneOfThreeLeft_0 (by decide) ?_
  refine lv_istore_n (lv' := [(2, .int ((0 : Int32))), (0, .ref (q (0))), (1, .ref (q (39+4*c1)))]) hx hb dX8_isOneOfThreeLeft_1 rfl hl (by decide) rfl (fun ls hl => ?_)
  exact kX8_isOneOfThreeLeft_2 C0 hK hJ _ _ _ _ _ _ hc1 hP hS _ (lv_sub hl [1, 2, 0] rfl) hp
def sX8_isOneOfThreeLeft (c1 : Nat) (σ : TS) : Option (Int32 × TS) := sX8_isOneOfThreeLeft_0 c1 σ
theorem nVX8_isOneOfThreeLeft : yX8_isOneOfThreeLeft.cls = RX8 ∧ yX8_isOneOfThreeLeft.cls ≠ "java/lang/invoke/MethodHandle" ∧ yX8_isOneOfThreeLeft.cls ≠ "java/lang/invoke/VarHandle" ∧ (parseMethodDescriptor yX8_isOneOfThreeLeft.desc).map (fun d => d.parameters.length) = some 1 := by decide +kernel
set_option maxHeartbeats 4000000 in
set_option maxRecDepth 100000 in
theorem mX8_isOneOfThreeLeft (l : Launch) (hJ : gJ 78 q) {c1 : Nat} (hc1 : c1 < 3) {σ : TS} {r : Int32} {u : TS} (hp : sX8_isOneOfThreeLeft c1 σ = some (r, u)) : Met l yX8_isOneOfThreeLeft wsX8_isOneOfThreeLeft rmX8_isOneOfThreeLeft (va_Pc [.ref (q (0)), .ref (q (39+4*c1))] (gPre D vwCl (tyL cy) (gS 78 q (TX cy q) σ))) (gQi D vwCl r (gS 78 q (TX cy q) u) (gA 78 q)) 0 0 (gA 78 q) := by
  refine Met.ofW (cc := cX8_isOneOfThreeLeft) (maxL := 3) (ret := (some .boolean)) (by decide +kernel) rfl ?_
  intro p e s m args below meth c s₁ B hml hv
  obtain ⟨rfl, hP, hK⟩ := hv
  have hl := lv_entry ([.ref (q (0)), .ref (q (39+4*c1))]) (n := 3) (Nat.le_of_ble_eq_true rfl)
  rw [lg_entry_eq]
  generalize (lg_sl ([.ref (q (0)), .ref (q (39+4*c1))]) ++ List.replicate (3 - (lg_sl ([.ref (q (0)), .ref (q (39+4*c1))])).length) Slot.unset).toArray = ls at hl ⊢
  have hl : lv_has ls 3 [(0, .ref (q (0))), (1, .ref (q (39+4*c1)))] := hl
  exact kX8_isOneOfThreeLeft_0 ⟨B.exec, B.bytes, B.returns, hml, findClass_of_methodNamed B.named, atoms_spec (ws := wsX8_isOneOfThreeLeft) B.pre, B.notSynchronized⟩ hK hJ hc1 hP va_S.rf hl hp
theorem miX8_isAnyLeft_X8 : ∀ w ∈ u_ws RX8 TX8 16, w ∈ wsX8_isAnyLeft := by decide +kernel
theorem mwX8_isAnyLeft_0 : Cond.fieldLink RX8 16 "Triplane" "plainComputer" "LTriplane$Computer;" ∈ wsX8_isAnyLeft := by decide +kernel
abbrev rmX8_isAnyLeft : Room := { frames := 2, cells := 0, slots := 0, locals := 43 }
def sX8_isAnyLeft_24 (sx0 : Int32) (σ : TS) : Option (Int32 × TS) := (if zok sx0 = true then some (sx0, σ) else none)
set_option maxHeartbeats 4000000 in
set_option maxRecDepth 100000 in
theorem kX8_isAnyLeft_24 {r : Int32} {u : TS} (C0 : gC RX8 cX8_isAnyLeft 2 ((some .boolean)) wsX8_isAnyLeft p s m args meth c) (hK : va_K D vwCl (tyL cy) s) (hJ : gJ 78 q) {H : Heap} {locs : List Loc} {σ : TS} {sx0 : Int32} (hP : va_P D vwCl (gS 78 q (TX cy q) σ) H) (hS : va_S (gA 78 q) s.heap H locs) {ls : Array Slot} (hl : lv_has ls 2 []) (hp : sX8_isAnyLeft_24 sx0 σ = some (r, u)) : W p l e rmX8_isAnyLeft s m args below meth c H locs 0 0 (MQ below (gQi D vwCl r (gS 78 q (TX cy q) u) (gA 78 q)) args s 0 0 (gA 78 q)) (F0 m 24 ls [.int sx0]) := by
  obtain ⟨hx, hb, hr, hml, hown, hts, hlocks⟩ := id C0
  unfold sX8_isAnyLeft_24 at hp
  obtain ⟨hz1, hp⟩ := o_chk hp
  obtain ⟨rfl, rfl⟩ := o_r hp
  exact W.zret (v := sx0) hx hb hr (zok_n hz1).1 (fun t ht hW => ⟨⟨sx0, (), rfl, rfl, by subst ht; exact hP⟩, hS.F ht⟩) hS.2.2 dX8_isAnyLeft_24
def sX8_isAnyLeft_19 (σ : TS) : Option (Int32 × TS) := sX8_isAnyLeft_24 ((1 : Int32)) σ
set_option maxHeartbeats 4000000 in
set_option maxRecDepth 100000 in
theorem kX8_isAnyLeft_19 {r : Int32} {u : TS} (C0 : gC RX8 cX8_isAnyLeft 2 ((some .boolean)) wsX8_isAnyLeft p s m args meth c) (hK : va_K D vwCl (tyL cy) s) (hJ : gJ 78 q) {H : Heap} {locs : List Loc} {σ : TS} (hP : va_P D vwCl (gS 78 q (TX cy q) σ) H) (hS : va_S (gA 78 q) s.heap H locs) {ls : Array Slot} (hl : lv_has ls 2 []) (hp : sX8_isAnyLeft_19 σ = some (r, u)) : W p l e rmX8_isAnyLeft s m args below meth c H locs 0 0 (MQ below (gQi D vwCl r (gS 78 q (TX cy q) u) (gA 78 q)) args s 0 0 (gA 78 q)) (F0 m 19 ls []) := by
  obtain ⟨hx, hb, hr, hml, hown, hts, hlocks⟩ := id C0
  unfold sX8_isAnyLeft_19 at hp
  refine lv_iconst (v := (1 : Int32)) hx hb dX8_isAnyLeft_19 (by decide) ?_
  refine lv_goto (tgt := 24) hx hb dX8_isAnyLeft_20 (by decide) ?_
  exact kX8_isAnyLeft_24 C0 hK hJ  hP hS hl hp
def sX8_isAnyLeft_16 (sx0 : Int32) (σ : TS) : Option (Int32 × TS) := (if sx0 = 0 then sX8_isAnyLeft_24 ((0 : Int32)) σ else sX8_isAnyLeft_19 σ)
set_option maxHeartbeats 4000000 in
set_option maxRecDepth 100000 in
theorem kX8_isAnyLeft_16 {r : Int32} {u : TS} (C0 : gC RX8 cX8_isAnyLeft 2 ((some .boolean)) wsX8_isAnyLeft p s m args meth c) (hK : va_K D vwCl (tyL cy) s) (hJ : gJ 78 q) {H : Heap} {locs : List Loc} {σ : TS} {sx0 : Int32} (hP : va_P D vwCl (gS 78 q (TX cy q) σ) H) (hS : va_S (gA 78 q) s.heap H locs) {ls : Array Slot} (hl : lv_has ls 2 []) (hp : sX8_isAnyLeft_16 sx0 σ = some (r, u)) : W p l e rmX8_isAnyLeft s m args below meth c H locs 0 0 (MQ below (gQi D vwCl r (gS 78 q (TX cy q) u) (gA 78 q)) args s 0 0 (gA 78 q)) (F0 m 16 ls [.int sx0]) := by
  obtain ⟨hx, hb, hr, hml, hown, hts, hlocks⟩ := id C0
  unfold sX8_isAnyLeft_16 at hp
  refine lv_if_eq (tgt := 23) hx hb dX8_isAnyLeft_16 (by decide) (fun hcd2 => ?_) (fun hcd2 => ?_)
  · have hp := o_t hp hcd2
    refine lv_iconst (v := (0 : Int32)) hx hb dX8_isAnyLeft_23 (by decide) ?_
    exact kX8_isAnyLeft_24 C0 hK hJ  hP hS hl hp
  · have hp := o_f hp hcd2
    exact kX8_isAnyLeft_19 C0 hK hJ  hP hS hl hp
def sX8_isAnyLeft_8 (c1 : Nat) (sx0 : Int32) (σ : TS) : Option (Int32 × TS) := (if sx0 = 0 then ((sX8_isOneOfThreeLeft c1 σ).bind (fun z => sX8_isAnyLeft_16 z.1 z.2)) else sX8_isAnyLeft_19 σ)
set_option maxHeartbeats 4000000 in
set_option maxRecDepth 100000 in
theorem kX8_isAnyLeft_8 {r : Int32} {u : TS} (C0 : gC RX8 cX8_isAnyLeft 2 ((some .boolean)) wsX8_isAnyLeft p s m args meth c) (hK : va_K D vwCl (tyL cy) s) (hJ : gJ 78 q) {H : Heap} {locs : List Loc} {σ : TS} {c1 : Nat} {sx0 : Int32} (hc1 : c1 < 3) (hP : va_P D vwCl (gS 78 q (TX cy q) σ) H) (hS : va_S (gA 78 q) s.heap H locs) {ls : Array Slot} (hl : lv_has ls 2 [(0, .ref (q (0))), (1, .ref (q (39+4*c1)))]) (hp : sX8_isAnyLeft_8 c1 sx0 σ = some (r, u)) : W p l e rmX8_isAnyLeft s m args below meth c H locs 0 0 (MQ below (gQi D vwCl r (gS 78 q (TX cy q) u) (gA 78 q)) args s 0 0 (gA 78 q)) (F0 m 8 ls [.int sx0]) := by
  obtain ⟨hx, hb, hr, hml, hown, hts, hlocks⟩ := id C0
  unfold sX8_isAnyLeft_8 at hp
  refine lv_if_ne (tgt := 19) hx hb dX8_isAnyLeft_8 (by decide) (fun hcd3 => ?_) (fun hcd3 => ?_)
  · have hp := o_f hp hcd3
    exact kX8_isAnyLeft_19 C0 hK hJ  hP hS (lv_sub hl [] rfl) hp
  · have hp := o_t hp hcd3
    refine lv_aload_n hx hb dX8_isAnyLeft_11 rfl (lv_at hl 0 rfl) ?_
    refine lv_aload_n hx hb dX8_isAnyLeft_12 rfl (lv_at hl 1 rfl) ?_
    obtain ⟨⟨r4, u5⟩, hq6, hp⟩ := o_b hp
    refine g_cVi (As := [.ref (q (39+4*c1))]) (rest := []) hx hb hml hown hts hK hP hS (mX8_isOneOfThreeLeft l hJ hc1 hq6) (cwV 1 hts gX8_isAnyLeft_X8_isOneOfThreeLeft rfl rfl rfl nVX8_isOneOfThreeLeft ⟨Nat.le_of_ble_eq_true rfl, Nat.le_of_ble_eq_true rfl⟩) (g_recv hK hP (kk_Tri) (ce_Tri) rfl) rfl hl.1 rfl (Nat.le_of_ble_eq_true rfl) dX8_isAnyLeft_13 ⟨Nat.le_of_ble_eq_true rfl, Nat.le_of_ble_eq_true rfl⟩ (fun H locs hP hS => ?_)
    exact kX8_isAnyLeft_16 C0 hK hJ  hP hS (lv_sub hl [] rfl) hp
def sX8_isAnyLeft_0 (c1 : Nat) (σ : TS) : Option (Int32 × TS) := ((sX1_hasLeft 3 c1 σ).bind (fun z => sX8_isAnyLeft_8 c1 z.1 z.2))
set_option maxHeartbeats 4000000 in
set_option maxRecDepth 100000 in
theorem kX8_isAnyLeft_0 {r : Int32} {u : TS} (C0 : gC RX8 cX8_isAnyLeft 2 ((some .boolean)) wsX8_isAnyLeft p s m args meth c) (hK : va_K D vwCl (tyL cy) s) (hJ : gJ 78 q) {H : Heap} {locs : List Loc} {σ : TS} {c1 : Nat} (hc1 : c1 < 3) (hP : va_P D vwCl (gS 78 q (TX cy q) σ) H) (hS : va_S (gA 78 q) s.heap H locs) {ls : Array Slot} (hl : lv_has ls 2 [(0, .ref (q (0))), (1, .ref (q (39+4*c1)))]) (hp : sX8_isAnyLeft_0 c1 σ = some (r, u)) : W p l e rmX8_isAnyLeft s m args below meth c H locs 0 0 (MQ below (gQi D vwCl r (gS 78 q (TX cy q) u) (gA 78 q)) args s 0 0 (gA 78 q)) (F0 m 0 ls []) := by
  obtain ⟨hx, hb, hr, hml, hown, hts, hlocks⟩ := id C0
  unfold sX8_isAnyLeft_0 at hp
  refine lv_aload_n hx hb dX8_isAnyLeft_0 rfl (lv_at hl 0 rfl) ?_
  refine g_get (v := .ref (q (15+6*3))) hx hb hts miX8_isAnyLeft_X8 hown hK hP (kk_Tri) (ce_Tri) rfl 1 (by decide) mwX8_isAnyLeft_0 rfl dX8_isAnyLeft_1 ?_
  refine lv_aload_n hx hb dX8_isAnyLeft_4 rfl (lv_at hl 1 rfl) ?_
  obtain ⟨⟨r7, u8⟩, hq9, hp⟩ := o_b hp
  refine g_cVi (As := [.ref (q (39+4*c1))]) (rest := []) hx hb hml hown hts hK hP hS (mX1_hasLeft l hJ (by decide) hc1 hq9) (cwV 1 hts gX8_isAnyLeft_X1_hasLeft rfl rfl rfl nVX1_hasLeft ⟨Nat.le_of_ble_eq_true rfl, Nat.le_of_ble_eq_true rfl⟩) (g_recv hK hP (kk_Comp (by decide)) (ce_Comp (by decide)) rfl) rfl hl.1 rfl (Nat.le_of_ble_eq_true rfl) dX8_isAnyLeft_5 ⟨Nat.le_of_ble_eq_true rfl, Nat.le_of_ble_eq_true rfl⟩ (fun H locs hP hS => ?_)
  exact kX8_isAnyLeft_8 C0 hK hJ hc1 hP hS hl hp
def sX8_isAnyLeft (c1 : Nat) (σ : TS) : Option (Int32 × TS) := sX8_isAnyLeft_0 c1 σ
theorem nVX8_isAnyLeft : yX8_isAnyLeft.cls = RX8 ∧ yX8_isAnyLeft.cls ≠ "java/lang/invoke/MethodHandle" ∧ yX8_isAnyLeft.cls ≠ "java/lang/invoke/VarHandle" ∧ (parseMethodDescriptor yX8_isAnyLeft.desc).map (fun d => d.parameters.length) = some 1 := by decide +kernel
set_option maxHeartbeats 4000000 in
set_option maxRecDepth 100000 in
theorem mX8_isAnyLeft (l : Launch) (hJ : gJ 78 q) {c1 : Nat} (hc1 : c1 < 3) {σ : TS} {r : Int32} {u : TS} (hp : sX8_isAnyLeft c1 σ = some (r, u)) : Met l yX8_isAnyLeft wsX8_isAnyLeft rmX8_isAnyLeft (va_Pc [.ref (q (0)), .ref (q (39+4*c1))] (gPre D vwCl (tyL cy) (gS 78 q (TX cy q) σ))) (gQi D vwCl r (gS 78 q (TX cy q) u) (gA 78 q)) 0 0 (gA 78 q) := by
  refine Met.ofW (cc := cX8_isAnyLeft) (maxL := 2) (ret := (some .boolean)) (by decide +kernel) rfl ?_
  intro p e s m args below meth c s₁ B hml hv
  obtain ⟨rfl, hP, hK⟩ := hv
  have hl := lv_entry ([.ref (q (0)), .ref (q (39+4*c1))]) (n := 2) (Nat.le_of_ble_eq_true rfl)
  rw [lg_entry_eq]
  generalize (lg_sl ([.ref (q (0)), .ref (q (39+4*c1))]) ++ List.replicate (2 - (lg_sl ([.ref (q (0)), .ref (q (39+4*c1))])).length) Slot.unset).toArray = ls at hl ⊢
  have hl : lv_has ls 2 [(0, .ref (q (0))), (1, .ref (q (39+4*c1)))] := hl
  exact kX8_isAnyLeft_0 ⟨B.exec, B.bytes, B.returns, hml, findClass_of_methodNamed B.named, atoms_spec (ws := wsX8_isAnyLeft) B.pre, B.notSynchronized⟩ hK hJ hc1 hP va_S.rf hl hp
theorem miX8_shutOff_X1 : ∀ w ∈ u_ws RX1 TX1 14, w ∈ wsX8_shutOff := by decide +kernel
theorem miX8_shutOff_X8 : ∀ w ∈ u_ws RX8 TX8 16, w ∈ wsX8_shutOff := by decide +kernel
theorem mwX8_shutOff_0 : Cond.fieldLink RX8 11 "Triplane" "computers" "[LTriplane$Computer;" ∈ wsX8_shutOff := by decide +kernel
theorem mwX8_shutOff_1 : Cond.fieldLink RX8 162 "Triplane$Computer" "isRunning" "Z" ∈ wsX8_shutOff := by decide +kernel
theorem mwX8_shutOff_2 : Cond.fieldLink RX8 175 "Triplane$Computer" "isTested" "Z" ∈ wsX8_shutOff := by decide +kernel
theorem mwX8_shutOff_3 : Cond.fieldLink RX8 59 "Triplane" "log" "LTriplane$Log;" ∈ wsX8_shutOff := by decide +kernel
theorem mwX8_shutOff_4 : Cond.fieldLink RX8 63 "Triplane" "frames" "I" ∈ wsX8_shutOff := by decide +kernel
abbrev rmX8_shutOff : Room := { frames := 2, cells := 0, slots := 0, locals := 46 }
def sX8_shutOff_33 (σ : TS) : Option (Int32 × TS) := some (0, σ)
set_option maxHeartbeats 4000000 in
set_option maxRecDepth 100000 in
theorem kX8_shutOff_33 {r : Int32} {u : TS} (C0 : gC RX8 cX8_shutOff 3 none wsX8_shutOff p s m args meth c) (hK : va_K D vwCl (tyL cy) s) (hJ : gJ 78 q) {H : Heap} {locs : List Loc} {σ : TS} (hP : va_P D vwCl (gS 78 q (TX cy q) σ) H) (hS : va_S (gA 78 q) s.heap H locs) {ls : Array Slot} (hl : lv_has ls 3 []) (hp : sX8_shutOff_33 σ = some (r, u)) : W p l e rmX8_shutOff s m args below meth c H locs 0 0 (MQ below (gQv D vwCl (gS 78 q (TX cy q) u) (gA 78 q)) args s 0 0 (gA 78 q)) (F0 m 33 ls []) := by
  obtain ⟨hx, hb, hr, hml, hown, hts, hlocks⟩ := id C0
  unfold sX8_shutOff_33 at hp
  obtain ⟨rfl, rfl⟩ := o_r hp
  exact W.vret hx hb hr (fun t ht hW => ⟨⟨(), rfl, trivial, by subst ht; exact hP⟩, hS.F ht⟩) hS.2.2 dX8_shutOff_33
def sX8_shutOff_0 (x1 : Int32) (x2 : Int32) (σ : TS) : Option (Int32 × TS) := (if vin x1 3 = true then ((sX3_append ((st2 (st2 σ (15+6*(x1.toNatClampNeg)) 6 ((0 : Int32))) (15+6*(x1.toNatClampNeg)) 7 ((0 : Int32))) 0 10) x1 x2 (st2 (st2 σ (15+6*(x1.toNatClampNeg)) 6 ((0 : Int32))) (15+6*(x1.toNatClampNeg)) 7 ((0 : Int32)))).bind (fun z => sX8_shutOff_33 z.2)) else none)
set_option maxHeartbeats 4000000 in
set_option maxRecDepth 100000 in
theorem kX8_shutOff_0 {r : Int32} {u : TS} (C0 : gC RX8 cX8_shutOff 3 none wsX8_shutOff p s m args meth c) (hK : va_K D vwCl (tyL cy) s) (hJ : gJ 78 q) {H : Heap} {locs : List Loc} {σ : TS} {x1 : Int32} {x2 : Int32} (hP : va_P D vwCl (gS 78 q (TX cy q) σ) H) (hS : va_S (gA 78 q) s.heap H locs) {ls : Array Slot} (hl : lv_has ls 3 [(0, .ref (q (0))), (1, .int x1), (2, .int x2)]) (hp : sX8_shutOff_0 x1 x2 σ = some (r, u)) : W p l e rmX8_shutOff s m args below meth c H locs 0 0 (MQ below (gQv D vwCl (gS 78 q (TX cy q) u) (gA 78 q)) args s 0 0 (gA 78 q)) (F0 m 0 ls []) := by
  obtain ⟨hx, hb, hr, hml, hown, hts, hlocks⟩ := id C0
  unfold sX8_shutOff_0 at hp
  refine lv_aload_n hx hb dX8_shutOff_0 rfl (lv_at hl 0 rfl) ?_
  refine g_get (v := .ref (q (1))) hx hb hts miX8_shutOff_X8 hown hK hP (kk_Tri) (ce_Tri) rfl 0 (by decide) mwX8_shutOff_0 rfl dX8_shutOff_1 ?_
  refine lv_iload_n hx hb dX8_shutOff_4 rfl (lv_at hl 1 rfl) ?_
  obtain ⟨hi1, hp⟩ := o_chk hp
  have hn2 : x1.toNatClampNeg < 4 := Nat.lt_of_lt_of_le (vin_lt hi1) (by decide)
  refine g_aald (j := x1.toNatClampNeg) hx hb hK hP (kk_CompArr) (ce_CompArr) 3 rfl rfl (vin_of hi1) rfl dX8_shutOff_5 ?_
  refine lv_iconst (v := (0 : Int32)) hx hb dX8_shutOff_6 (by decide) ?_
  refine g_put (v := (0 : Int32)) hx hb hts miX8_shutOff_X1 tyX1 tyX1_ok nmX1 hown hK hJ hP hS (kk_Comp hn2) (ce_Comp hn2) rfl 6 (by decide) mwX8_shutOff_1 rfl (zok_n (by decide)).1 (zok_n (by decide)).2 (Nat.le_of_ble_eq_true rfl) rfl dX8_shutOff_7 (fun H locs hP hS => ?_)
  refine lv_aload_n hx hb dX8_shutOff_10 rfl (lv_at hl 0 rfl) ?_
  refine g_get (v := .ref (q (1))) hx hb hts miX8_shutOff_X8 hown hK hP (kk_Tri) (ce_Tri) rfl 0 (by decide) mwX8_shutOff_0 rfl dX8_shutOff_11 ?_
  refine lv_iload_n hx hb dX8_shutOff_14 rfl (lv_at hl 1 rfl) ?_
  have hn3 : x1.toNatClampNeg < 4 := Nat.lt_of_lt_of_le (vin_lt hi1) (by decide)
  refine g_aald (j := x1.toNatClampNeg) hx hb hK hP (kk_CompArr) (ce_CompArr) 3 rfl rfl (vin_of hi1) rfl dX8_shutOff_15 ?_
  refine lv_iconst (v := (0 : Int32)) hx hb dX8_shutOff_16 (by decide) ?_
  refine g_put (v := (0 : Int32)) hx hb hts miX8_shutOff_X1 tyX1 tyX1_ok nmX1 hown hK hJ hP hS (kk_Comp hn3) (ce_Comp hn3) rfl 7 (by decide) mwX8_shutOff_2 rfl (zok_n (by decide)).1 (zok_n (by decide)).2 (Nat.le_of_ble_eq_true rfl) rfl dX8_shutOff_17 (fun H locs hP hS => ?_)
  refine lv_aload_n hx hb dX8_shutOff_20 rfl (lv_at hl 0 rfl) ?_
  refine g_get (v := .ref (q (11))) hx hb hts miX8_shutOff_X8 hown hK hP (kk_Tri) (ce_Tri) rfl 9 (by decide) mwX8_shutOff_3 rfl dX8_shutOff_21 ?_
  refine lv_aload_n hx hb dX8_shutOff_24 rfl (lv_at hl 0 rfl) ?_
  refine g_get (v := .int ((st2 (st2 σ (15+6*(x1.toNatClampNeg)) 6 ((0 : Int32))) (15+6*(x1.toNatClampNeg)) 7 ((0 : Int32))) 0 10)) hx hb hts miX8_shutOff_X8 hown hK hP (kk_Tri) (ce_Tri) rfl 10 (by decide) mwX8_shutOff_4 rfl dX8_shutOff_25 ?_
  refine lv_iload_n hx hb dX8_shutOff_28 rfl (lv_at hl 1 rfl) ?_
  refine lv_iload_n hx hb dX8_shutOff_29 rfl (lv_at hl 2 rfl) ?_
  obtain ⟨⟨r4, u5⟩, hq6, hp⟩ := o_b hp
  refine g_cVv (As := [.int ((st2 (st2 σ (15+6*(x1.toNatClampNeg)) 6 ((0 : Int32))) (15+6*(x1.toNatClampNeg)) 7 ((0 : Int32))) 0 10), .int x1, .int x2]) (rest := []) hx hb hml hown hts hK hP hS (mX3_append l hJ hq6) (cwV 3 hts gX8_shutOff_X3_append rfl rfl rfl nVX3_append ⟨Nat.le_of_ble_eq_true rfl, Nat.le_of_ble_eq_true rfl⟩) (g_recv hK hP (kk_Log) (ce_Log) rfl) rfl hl.1 rfl (Nat.le_of_ble_eq_true rfl) dX8_shutOff_30 ⟨Nat.le_of_ble_eq_true rfl, Nat.le_of_ble_eq_true rfl⟩ (fun H locs hP hS => ?_)
  exact kX8_shutOff_33 C0 hK hJ  hP hS (lv_sub hl [] rfl) hp
def sX8_shutOff (x1 : Int32) (x2 : Int32) (σ : TS) : Option (Int32 × TS) := sX8_shutOff_0 x1 x2 σ
theorem nVX8_shutOff : yX8_shutOff.cls = RX8 ∧ yX8_shutOff.cls ≠ "java/lang/invoke/MethodHandle" ∧ yX8_shutOff.cls ≠ "java/lang/invoke/VarHandle" ∧ (parseMethodDescriptor yX8_shutOff.desc).map (fun d => d.parameters.length) = some 2 := by decide +kernel
set_option maxHeartbeats 4000000 in
set_option maxRecDepth 100000 in
theorem mX8_shutOff (l : Launch) (hJ : gJ 78 q) {x1 : Int32} {x2 : Int32} {σ : TS} {r : Int32} {u : TS} (hp : sX8_shutOff x1 x2 σ = some (r, u)) : Met l yX8_shutOff wsX8_shutOff rmX8_shutOff (va_Pc [.ref (q (0)), .int x1, .int x2] (gPre D vwCl (tyL cy) (gS 78 q (TX cy q) σ))) (gQv D vwCl (gS 78 q (TX cy q) u) (gA 78 q)) 0 0 (gA 78 q) := by
  refine Met.ofW (cc := cX8_shutOff) (maxL := 3) (ret := none) (by decide +kernel) rfl ?_
  intro p e s m args below meth c s₁ B hml hv
  obtain ⟨rfl, hP, hK⟩ := hv
  have hl := lv_entry ([.ref (q (0)), .int x1, .int x2]) (n := 3) (Nat.le_of_ble_eq_true rfl)
  rw [lg_entry_eq]
  generalize (lg_sl ([.ref (q (0)), .int x1, .int x2]) ++ List.replicate (3 - (lg_sl ([.ref (q (0)), .int x1, .int x2])).length) Slot.unset).toArray = ls at hl ⊢
  have hl : lv_has ls 3 [(0, .ref (q (0))), (1, .int x1), (2, .int x2)] := hl
  exact kX8_shutOff_0 ⟨B.exec, B.bytes, B.returns, hml, findClass_of_methodNamed B.named, atoms_spec (ws := wsX8_shutOff) B.pre, B.notSynchronized⟩ hK hJ  hP va_S.rf hl hp
theorem miX8_doInstructions_X1 : ∀ w ∈ u_ws RX1 TX1 14, w ∈ wsX8_doInstructions := by decide +kernel
theorem miX8_doInstructions_X8 : ∀ w ∈ u_ws RX8 TX8 16, w ∈ wsX8_doInstructions := by decide +kernel
theorem mwX8_doInstructions_0 : Cond.fieldLink RX8 16 "Triplane" "plainComputer" "LTriplane$Computer;" ∈ wsX8_doInstructions := by decide +kernel
theorem mwX8_doInstructions_1 : Cond.fieldLink RX8 53 "Triplane" "plainOutputs" "[I" ∈ wsX8_doInstructions := by decide +kernel
theorem mwX8_doInstructions_2 : Cond.fieldLink RX8 39 "Triplane" "sensors" "[LTriplane$Sensor;" ∈ wsX8_doInstructions := by decide +kernel
theorem mwX8_doInstructions_3 : Cond.fieldLink RX8 11 "Triplane" "computers" "[LTriplane$Computer;" ∈ wsX8_doInstructions := by decide +kernel
theorem mwX8_doInstructions_4 : Cond.fieldLink RX8 162 "Triplane$Computer" "isRunning" "Z" ∈ wsX8_doInstructions := by decide +kernel
abbrev rmX8_doInstructions : Room := { frames := 4, cells := 0, slots := 0, locals := 94 }
def sX8_doInstructions_47 (K2 : Nat → Int32 → Int32 → TS → Option (Int32 × TS)) (c1 : Nat) (x2 : Int32) (x3 : Int32) (σ : TS) : Option (Int32 × TS) := K2 c1 x2 (x3 + (1 : Int32)) σ
set_option maxHeartbeats 4000000 in
set_option maxRecDepth 100000 in
theorem kX8_doInstructions_47 {r : Int32} {u : TS} {K2 : Nat → Int32 → Int32 → TS → Option (Int32 × TS)} (C0 : gC RX8 cX8_doInstructions 4 none wsX8_doInstructions p s m args meth c) (hK : va_K D vwCl (tyL cy) s) (hJ : gJ 78 q) (kh2 : ∀ (H : Heap) (locs : List Loc) (σ : TS) (c1 : Nat) (x2 : Int32) (x3 : Int32) (hc1 : c1 < 3) (hP : va_P D vwCl (gS 78 q (TX cy q) σ) H) (hS : va_S (gA 78 q) s.heap H locs) (ls : Array Slot) (hl : lv_has ls 4 [(0, .ref (q (0))), (1, .ref (q (39+4*c1))), (2, .int x2), (3, .int x3)]) (hp : K2 c1 x2 x3 σ = some (r, u)), W p l e rmX8_doInstructions s m args below meth c H locs 0 0 (MQ below (gQv D vwCl (gS 78 q (TX cy q) u) (gA 78 q)) args s 0 0 (gA 78 q)) (F0 m 2 ls [])) {H : Heap} {locs : List Loc} {σ : TS} {c1 : Nat} {x2 : Int32} {x3 : Int32} (hc1 : c1 < 3) (hP : va_P D vwCl (gS 78 q (TX cy q) σ) H) (hS : va_S (gA 78 q) s.heap H locs) {ls : Array Slot} (hl : lv_has ls 4 [(0, .ref (q (0))), (1, .ref (q (39+4*c1))), (2, .int x2), (3, .int x3)]) (hp : sX8_doInstructions_47 K2 c1 x2 x3 σ = some (r, u)) : W p l e rmX8_doInstructions s m args below meth c H locs 0 0 (MQ below (gQv D vwCl (gS 78 q (TX cy q) u) (gA 78 q)) args s 0 0 (gA 78 q)) (F0 m 47 ls []) := by
  obtain ⟨hx, hb, hr, hml, hown, hts, hlocks⟩ := id C0
  unfold sX8_doInstructions_47 at hp
  refine lv_iinc (v := x3 + (1 : Int32)) (lv' := [(3, .int (x3 + (1 : Int32))), (0, .ref (q (0))), (1, .ref (q (39+4*c1))), (2, .int x2)]) hx hb dX8_doInstructions_47 hl (k := 3) rfl rfl (by decide) rfl (fun ls hl => ?_)
  refine lv_goto (tgt := 2) hx hb dX8_doInstructions_50 (by decide) ?_
  exact kh2 _ _ _ _ _ _ hc1 hP hS _ (lv_sub hl [1, 2, 3, 0] rfl) hp
def sX8_doInstructions_37 (K2 : Nat → Int32 → Int32 → TS → Option (Int32 × TS)) (c1 : Nat) (x2 : Int32) (x3 : Int32) (sx0 : Int32) (σ : TS) : Option (Int32 × TS) := (if sx0 = 0 then ((sX8_shutOff x3 ((109 : Int32)) σ).bind (fun z => sX8_doInstructions_47 K2 c1 x2 x3 z.2)) else sX8_doInstructions_47 K2 c1 x2 x3 σ)
set_option maxHeartbeats 4000000 in
set_option maxRecDepth 100000 in
theorem kX8_doInstructions_37 {r : Int32} {u : TS} {K2 : Nat → Int32 → Int32 → TS → Option (Int32 × TS)} (C0 : gC RX8 cX8_doInstructions 4 none wsX8_doInstructions p s m args meth c) (hK : va_K D vwCl (tyL cy) s) (hJ : gJ 78 q) (kh2 : ∀ (H : Heap) (locs : List Loc) (σ : TS) (c1 : Nat) (x2 : Int32) (x3 : Int32) (hc1 : c1 < 3) (hP : va_P D vwCl (gS 78 q (TX cy q) σ) H) (hS : va_S (gA 78 q) s.heap H locs) (ls : Array Slot) (hl : lv_has ls 4 [(0, .ref (q (0))), (1, .ref (q (39+4*c1))), (2, .int x2), (3, .int x3)]) (hp : K2 c1 x2 x3 σ = some (r, u)), W p l e rmX8_doInstructions s m args below meth c H locs 0 0 (MQ below (gQv D vwCl (gS 78 q (TX cy q) u) (gA 78 q)) args s 0 0 (gA 78 q)) (F0 m 2 ls [])) {H : Heap} {locs : List Loc} {σ : TS} {c1 : Nat} {x2 : Int32} {x3 : Int32} {sx0 : Int32} (hc1 : c1 < 3) (hP : va_P D vwCl (gS 78 q (TX cy q) σ) H) (hS : va_S (gA 78 q) s.heap H locs) {ls : Array Slot} (hl : lv_has ls 4 [(0, .ref (q (0))), (1, .ref (q (39+4*c1))), (2, .int x2), (3, .int x3)]) (hp : sX8_doInstructions_37 K2 c1 x2 x3 sx0 σ = some (r, u)) : W p l e rmX8_doInstructions s m args below meth c H locs 0 0 (MQ below (gQv D vwCl (gS 78 q (TX cy q) u) (gA 78 q)) args s 0 0 (gA 78 q)) (F0 m 37 ls [.int sx0]) := by
  obtain ⟨hx, hb, hr, hml, hown, hts, hlocks⟩ := id C0
  unfold sX8_doInstructions_37 at hp
  refine lv_if_ne (tgt := 47) hx hb dX8_doInstructions_37 (by decide) (fun hcd1 => ?_) (fun hcd1 => ?_)
  · have hp := o_f hp hcd1
    exact kX8_doInstructions_47 C0 hK hJ kh2 hc1 hP hS hl hp
  · have hp := o_t hp hcd1
    refine lv_aload_n hx hb dX8_doInstructions_40 rfl (lv_at hl 0 rfl) ?_
    refine lv_iload_n hx hb dX8_doInstructions_41 rfl (lv_at hl 3 rfl) ?_
    refine lv_bipush (v := (109 : Int32)) hx hb dX8_doInstructions_42 (by decide) ?_
    obtain ⟨⟨r2, u3⟩, hq4, hp⟩ := o_b hp
    refine g_cVv (As := [.int x3, .int ((109 : Int32))]) (rest := []) hx hb hml hown hts hK hP hS (mX8_shutOff l hJ hq4) (cwV 2 hts gX8_doInstructions_X8_shutOff rfl rfl rfl nVX8_shutOff ⟨Nat.le_of_ble_eq_true rfl, Nat.le_of_ble_eq_true rfl⟩) (g_recv hK hP (kk_Tri) (ce_Tri) rfl) rfl hl.1 rfl (Nat.le_of_ble_eq_true rfl) dX8_doInstructions_44 ⟨Nat.le_of_ble_eq_true rfl, Nat.le_of_ble_eq_true rfl⟩ (fun H locs hP hS => ?_)
    exact kX8_doInstructions_47 C0 hK hJ kh2 hc1 hP hS hl hp
def sX8_doInstructions_81 (σ : TS) : Option (Int32 × TS) := some (0, σ)
set_option maxHeartbeats 4000000 in
set_option maxRecDepth 100000 in
theorem kX8_doInstructions_81 {r : Int32} {u : TS} (C0 : gC RX8 cX8_doInstructions 4 none wsX8_doInstructions p s m args meth c) (hK : va_K D vwCl (tyL cy) s) (hJ : gJ 78 q) {H : Heap} {locs : List Loc} {σ : TS} (hP : va_P D vwCl (gS 78 q (TX cy q) σ) H) (hS : va_S (gA 78 q) s.heap H locs) {ls : Array Slot} (hl : lv_has ls 4 []) (hp : sX8_doInstructions_81 σ = some (r, u)) : W p l e rmX8_doInstructions s m args below meth c H locs 0 0 (MQ below (gQv D vwCl (gS 78 q (TX cy q) u) (gA 78 q)) args s 0 0 (gA 78 q)) (F0 m 81 ls []) := by
  obtain ⟨hx, hb, hr, hml, hown, hts, hlocks⟩ := id C0
  unfold sX8_doInstructions_81 at hp
  obtain ⟨rfl, rfl⟩ := o_r hp
  exact W.vret hx hb hr (fun t ht hW => ⟨⟨(), rfl, trivial, by subst ht; exact hP⟩, hS.F ht⟩) hS.2.2 dX8_doInstructions_81
def sX8_doInstructions_69 (sx0 : Int32) (σ : TS) : Option (Int32 × TS) := ((sX1_handTo 3 1 σ).bind (fun z => sX8_doInstructions_81 z.2))
set_option maxHeartbeats 4000000 in
set_option maxRecDepth 100000 in
theorem kX8_doInstructions_69 {r : Int32} {u : TS} (C0 : gC RX8 cX8_doInstructions 4 none wsX8_doInstructions p s m args meth c) (hK : va_K D vwCl (tyL cy) s) (hJ : gJ 78 q) {H : Heap} {locs : List Loc} {σ : TS} {sx0 : Int32} (hP : va_P D vwCl (gS 78 q (TX cy q) σ) H) (hS : va_S (gA 78 q) s.heap H locs) {ls : Array Slot} (hl : lv_has ls 4 [(0, .ref (q (0)))]) (hp : sX8_doInstructions_69 sx0 σ = some (r, u)) : W p l e rmX8_doInstructions s m args below meth c H locs 0 0 (MQ below (gQv D vwCl (gS 78 q (TX cy q) u) (gA 78 q)) args s 0 0 (gA 78 q)) (F0 m 69 ls [.int sx0]) := by
  obtain ⟨hx, hb, hr, hml, hown, hts, hlocks⟩ := id C0
  unfold sX8_doInstructions_69 at hp
  refine lv_pop hx hb dX8_doInstructions_69 rfl ?_
  refine lv_aload_n hx hb dX8_doInstructions_70 rfl (lv_at hl 0 rfl) ?_
  refine g_get (v := .ref (q (15+6*3))) hx hb hts miX8_doInstructions_X8 hown hK hP (kk_Tri) (ce_Tri) rfl 1 (by decide) mwX8_doInstructions_0 rfl dX8_doInstructions_71 ?_
  refine lv_aload_n hx hb dX8_doInstructions_74 rfl (lv_at hl 0 rfl) ?_
  refine g_get (v := .ref (q (9+1))) hx hb hts miX8_doInstructions_X8 hown hK hP (kk_Tri) (ce_Tri) rfl 8 (by decide) mwX8_doInstructions_1 rfl dX8_doInstructions_75 ?_
  obtain ⟨⟨r5, u6⟩, hq7, hp⟩ := o_b hp
  refine g_cVv (As := [.ref (q (9+1))]) (rest := []) hx hb hml hown hts hK hP hS (mX1_handTo l hJ (by decide) (by decide) hq7) (cwV 1 hts gX8_doInstructions_X1_handTo rfl rfl rfl nVX1_handTo ⟨Nat.le_of_ble_eq_true rfl, Nat.le_of_ble_eq_true rfl⟩) (g_recv hK hP (kk_Comp (by decide)) (ce_Comp (by decide)) rfl) rfl hl.1 rfl (Nat.le_of_ble_eq_true rfl) dX8_doInstructions_78 ⟨Nat.le_of_ble_eq_true rfl, Nat.le_of_ble_eq_true rfl⟩ (fun H locs hP hS => ?_)
  exact kX8_doInstructions_81 C0 hK hJ  hP hS (lv_sub hl [] rfl) hp
def sX8_doInstructions_2 : Nat → Nat → Int32 → Int32 → TS → Option (Int32 × TS)
  | 0, _, _, _, _ => none
  | n + 1, c1, x2, x3, σ => (if ((3 : Int32)) ≤ x3 then ((sX1_doNext 3 c1 (((6 : Int32)) * x2) σ).bind (fun z => sX8_doInstructions_69 z.1 z.2)) else (if vin x3 3 = true then (if (σ (15+6*(x3.toNatClampNeg)) 6) = 0 then sX8_doInstructions_47 (sX8_doInstructions_2 n) c1 x2 x3 σ else ((sX1_doNext (x3.toNatClampNeg) c1 (((6 : Int32)) * x2) σ).bind (fun z => sX8_doInstructions_37 (sX8_doInstructions_2 n) c1 x2 x3 z.1 z.2))) else none))
set_option maxHeartbeats 4000000 in
set_option maxRecDepth 100000 in
theorem kX8_doInstructions_2 {r : Int32} {u : TS} (C0 : gC RX8 cX8_doInstructions 4 none wsX8_doInstructions p s m args meth c) (hK : va_K D vwCl (tyL cy) s) (hJ : gJ 78 q) : ∀ (n : Nat) (H : Heap) (locs : List Loc) (σ : TS) (c1 : Nat) (x2 : Int32) (x3 : Int32) (hc1 : c1 < 3) (hP : va_P D vwCl (gS 78 q (TX cy q) σ) H) (hS : va_S (gA 78 q) s.heap H locs) (ls : Array Slot) (hl : lv_has ls 4 [(0, .ref (q (0))), (1, .ref (q (39+4*c1))), (2, .int x2), (3, .int x3)]) (hp : sX8_doInstructions_2 n c1 x2 x3 σ = some (r, u)), W p l e rmX8_doInstructions s m args below meth c H locs 0 0 (MQ below (gQv D vwCl (gS 78 q (TX cy q) u) (gA 78 q)) args s 0 0 (gA 78 q)) (F0 m 2 ls []) := by
  obtain ⟨hx, hb, hr, hml, hown, hts, hlocks⟩ := id C0
  intro n
  induction n with
  | zero =>
    intro H locs σ c1 x2 x3 hc1 hP hS ls hl hp
    cases hp
  | succ n ih =>
    intro H locs σ c1 x2 x3 hc1 hP hS ls hl hp
    unfold sX8_doInstructions_2 at hp
    refine lv_iload_n hx hb dX8_doInstructions_2 rfl (lv_at hl 3 rfl) ?_
    refine lv_iconst (v := (3 : Int32)) hx hb dX8_doInstructions_3 (by decide) ?_
    refine lv_icmp_ge (tgt := 53) hx hb dX8_doInstructions_4 (by decide) (fun hcd8 => ?_) (fun hcd8 => ?_)
    · have hp := o_t hp hcd8
      refine lv_aload_n hx hb dX8_doInstructions_53 rfl (lv_at hl 0 rfl) ?_
      refine g_get (v := .ref (q (15+6*3))) hx hb hts miX8_doInstructions_X8 hown hK hP (kk_Tri) (ce_Tri) rfl 1 (by decide) mwX8_doInstructions_0 rfl dX8_doInstructions_54 ?_
      refine lv_aload_n hx hb dX8_doInstructions_57 rfl (lv_at hl 1 rfl) ?_
      refine lv_bipush (v := (6 : Int32)) hx hb dX8_doInstructions_58 (by decide) ?_
      refine lv_iload_n hx hb dX8_doInstructions_60 rfl (lv_at hl 2 rfl) ?_
      refine lv_imul hx hb dX8_doInstructions_61 ?_
      refine lv_aload_n hx hb dX8_doInstructions_62 rfl (lv_at hl 0 rfl) ?_
      refine g_get (v := .ref (q (7))) hx hb hts miX8_doInstructions_X8 hown hK hP (kk_Tri) (ce_Tri) rfl 5 (by decide) mwX8_doInstructions_2 rfl dX8_doInstructions_63 ?_
      obtain ⟨⟨r9, u10⟩, hq11, hp⟩ := o_b hp
      refine g_cVi (As := [.ref (q (39+4*c1)), .int (((6 : Int32)) * x2), .ref (q (7))]) (rest := []) hx hb hml hown hts hK hP hS (mX1_doNext l hJ (by decide) hc1 hq11) (cwV 3 hts gX8_doInstructions_X1_doNext rfl rfl rfl nVX1_doNext ⟨Nat.le_of_ble_eq_true rfl, Nat.le_of_ble_eq_true rfl⟩) (g_recv hK hP (kk_Comp (by decide)) (ce_Comp (by decide)) rfl) rfl hl.1 rfl (Nat.le_of_ble_eq_true rfl) dX8_doInstructions_66 ⟨Nat.le_of_ble_eq_true rfl, Nat.le_of_ble_eq_true rfl⟩ (fun H locs hP hS => ?_)
      exact kX8_doInstructions_69 C0 hK hJ  hP hS (lv_sub hl [0] rfl) hp
    · have hp := o_f hp hcd8
      refine lv_aload_n hx hb dX8_doInstructions_7 rfl (lv_at hl 0 rfl) ?_
      refine g_get (v := .ref (q (1))) hx hb hts miX8_doInstructions_X8 hown hK hP (kk_Tri) (ce_Tri) rfl 0 (by decide) mwX8_doInstructions_3 rfl dX8_doInstructions_8 ?_
      refine lv_iload_n hx hb dX8_doInstructions_11 rfl (lv_at hl 3 rfl) ?_
      obtain ⟨hi12, hp⟩ := o_chk hp
      have hn13 : x3.toNatClampNeg < 4 := Nat.lt_of_lt_of_le (vin_lt hi12) (by decide)
      refine g_aald (j := x3.toNatClampNeg) hx hb hK hP (kk_CompArr) (ce_CompArr) 3 rfl rfl (vin_of hi12) rfl dX8_doInstructions_12 ?_
      refine g_get (v := .int (σ (15+6*(x3.toNatClampNeg)) 6)) hx hb hts miX8_doInstructions_X1 hown hK hP (kk_Comp hn13) (ce_Comp hn13) rfl 6 (by decide) mwX8_doInstructions_4 rfl dX8_doInstructions_13 ?_
      refine lv_if_eq (tgt := 47) hx hb dX8_doInstructions_16 (by decide) (fun hcd14 => ?_) (fun hcd14 => ?_)
      · have hp := o_t hp hcd14
        exact kX8_doInstructions_47 C0 hK hJ ih hc1 hP hS hl hp
      · have hp := o_f hp hcd14
        refine lv_aload_n hx hb dX8_doInstructions_19 rfl (lv_at hl 0 rfl) ?_
        refine g_get (v := .ref (q (1))) hx hb hts miX8_doInstructions_X8 hown hK hP (kk_Tri) (ce_Tri) rfl 0 (by decide) mwX8_doInstructions_3 rfl dX8_doInstructions_20 ?_
        refine lv_iload_n hx hb dX8_doInstructions_23 rfl (lv_at hl 3 rfl) ?_
        have hn15 : x3.toNatClampNeg < 4 := Nat.lt_of_lt_of_le (vin_lt hi12) (by decide)
        refine g_aald (j := x3.toNatClampNeg) hx hb hK hP (kk_CompArr) (ce_CompArr) 3 rfl rfl (vin_of hi12) rfl dX8_doInstructions_24 ?_
        refine lv_aload_n hx hb dX8_doInstructions_25 rfl (lv_at hl 1 rfl) ?_
        refine lv_bipush (v := (6 : Int32)) hx hb dX8_doInstructions_26 (by decide) ?_
        refine lv_iload_n hx hb dX8_doInstructions_28 rfl (lv_at hl 2 rfl) ?_
        refine lv_imul hx hb dX8_doInstructions_29 ?_
        refine lv_aload_n hx hb dX8_doInstructions_30 rfl (lv_at hl 0 rfl) ?_
        refine g_get (v := .ref (q (7))) hx hb hts miX8_doInstructions_X8 hown hK hP (kk_Tri) (ce_Tri) rfl 5 (by decide) mwX8_doInstructions_2 rfl dX8_doInstructions_31 ?_
        obtain ⟨⟨r16, u17⟩, hq18, hp⟩ := o_b hp
        refine g_cVi (As := [.ref (q (39+4*c1)), .int (((6 : Int32)) * x2), .ref (q (7))]) (rest := []) hx hb hml hown hts hK hP hS (mX1_doNext l hJ hn15 hc1 hq18) (cwV 3 hts gX8_doInstructions_X1_doNext rfl rfl rfl nVX1_doNext ⟨Nat.le_of_ble_eq_true rfl, Nat.le_of_ble_eq_true rfl⟩) (g_recv hK hP (kk_Comp hn15) (ce_Comp hn15) rfl) rfl hl.1 rfl (Nat.le_of_ble_eq_true rfl) dX8_doInstructions_34 ⟨Nat.le_of_ble_eq_true rfl, Nat.le_of_ble_eq_true rfl⟩ (fun H locs hP hS => ?_)
        exact kX8_doInstructions_37 C0 hK hJ ih hc1 hP hS hl hp
def sX8_doInstructions_0 (c1 : Nat) (x2 : Int32) (σ : TS) : Option (Int32 × TS) := sX8_doInstructions_2 4 c1 x2 ((0 : Int32)) σ
set_option maxHeartbeats 4000000 in
set_option maxRecDepth 100000 in
theorem kX8_doInstructions_0 {r : Int32} {u : TS} (C0 : gC RX8 cX8_doInstructions 4 none wsX8_doInstructions p s m args meth c) (hK : va_K D vwCl (tyL cy) s) (hJ : gJ 78 q) {H : Heap} {locs : List Loc} {σ : TS} {c1 : Nat} {x2 : Int32} (hc1 : c1 < 3) (hP : va_P D vwCl (gS 78 q (TX cy q) σ) H) (hS : va_S (gA 78 q) s.heap H locs) {ls : Array Slot} (hl : lv_has ls 4 [(0, .ref (q (0))), (1, .ref (q (39+4*c1))), (2, .int x2)]) (hp : sX8_doInstructions_0 c1 x2 σ = some (r, u)) : W p l e rmX8_doInstructions s m args below meth c H locs 0 0 (MQ below (gQv D vwCl (gS 78 q (TX cy q) u) (gA 78 q)) args s 0 0 (gA 78 q)) (F0 m 0 ls []) := by
  obtain ⟨hx, hb, hr, hml, hown, hts, hlocks⟩ := id C0
  unfold sX8_doInstructions_0 at hp
  refine lv_iconst (v := (0 : Int32)) hx hb dX8_doInstructions_0 (by decide) ?_
  refine lv_istore_n (lv' := [(3, .int ((0 : Int32))), (0, .ref (q (0))), (1, .ref (q (39+4*c1))), (2, .int x2)]) hx hb dX8_doInstructions_1 rfl hl (by decide) rfl (fun ls hl => ?_)
  exact kX8_doInstructions_2 C0 hK hJ _ _ _ _ _ _ _ hc1 hP hS _ (lv_sub hl [1, 2, 3, 0] rfl) hp
def sX8_doInstructions (c1 : Nat) (x2 : Int32) (σ : TS) : Option (Int32 × TS) := sX8_doInstructions_0 c1 x2 σ
theorem nVX8_doInstructions : yX8_doInstructions.cls = RX8 ∧ yX8_doInstructions.cls ≠ "java/lang/invoke/MethodHandle" ∧ yX8_doInstructions.cls ≠ "java/lang/invoke/VarHandle" ∧ (parseMethodDescriptor yX8_doInstructions.desc).map (fun d => d.parameters.length) = some 2 := by decide +kernel
set_option maxHeartbeats 4000000 in
set_option maxRecDepth 100000 in
theorem mX8_doInstructions (l : Launch) (hJ : gJ 78 q) {c1 : Nat} {x2 : Int32} (hc1 : c1 < 3) {σ : TS} {r : Int32} {u : TS} (hp : sX8_doInstructions c1 x2 σ = some (r, u)) : Met l yX8_doInstructions wsX8_doInstructions rmX8_doInstructions (va_Pc [.ref (q (0)), .ref (q (39+4*c1)), .int x2] (gPre D vwCl (tyL cy) (gS 78 q (TX cy q) σ))) (gQv D vwCl (gS 78 q (TX cy q) u) (gA 78 q)) 0 0 (gA 78 q) := by
  refine Met.ofW (cc := cX8_doInstructions) (maxL := 4) (ret := none) (by decide +kernel) rfl ?_
  intro p e s m args below meth c s₁ B hml hv
  obtain ⟨rfl, hP, hK⟩ := hv
  have hl := lv_entry ([.ref (q (0)), .ref (q (39+4*c1)), .int x2]) (n := 4) (Nat.le_of_ble_eq_true rfl)
  rw [lg_entry_eq]
  generalize (lg_sl ([.ref (q (0)), .ref (q (39+4*c1)), .int x2]) ++ List.replicate (4 - (lg_sl ([.ref (q (0)), .ref (q (39+4*c1)), .int x2])).length) Slot.unset).toArray = ls at hl ⊢
  have hl : lv_has ls 4 [(0, .ref (q (0))), (1, .ref (q (39+4*c1))), (2, .int x2)] := hl
  exact kX8_doInstructions_0 ⟨B.exec, B.bytes, B.returns, hml, findClass_of_methodNamed B.named, atoms_spec (ws := wsX8_doInstructions) B.pre, B.notSynchronized⟩ hK hJ hc1 hP va_S.rf hl hp
theorem miX8_countAlike_X1 : ∀ w ∈ u_ws RX1 TX1 14, w ∈ wsX8_countAlike := by decide +kernel
theorem miX8_countAlike_X8 : ∀ w ∈ u_ws RX8 TX8 16, w ∈ wsX8_countAlike := by decide +kernel
theorem mwX8_countAlike_0 : Cond.fieldLink RX8 11 "Triplane" "computers" "[LTriplane$Computer;" ∈ wsX8_countAlike := by decide +kernel
theorem mwX8_countAlike_1 : Cond.fieldLink RX8 162 "Triplane$Computer" "isRunning" "Z" ∈ wsX8_countAlike := by decide +kernel
abbrev rmX8_countAlike : Room := { frames := 1, cells := 0, slots := 0, locals := 21 }
def sX8_countAlike_37 (K4 : Nat → Int32 → Int32 → TS → Option (Int32 × TS)) (c1 : Nat) (x2 : Int32) (x3 : Int32) (σ : TS) : Option (Int32 × TS) := K4 c1 x2 (x3 + (1 : Int32)) σ
set_option maxHeartbeats 4000000 in
set_option maxRecDepth 100000 in
theorem kX8_countAlike_37 {r : Int32} {u : TS} {K4 : Nat → Int32 → Int32 → TS → Option (Int32 × TS)} (C0 : gC RX8 cX8_countAlike 4 ((some .int)) wsX8_countAlike p s m args meth c) (hK : va_K D vwCl (tyL cy) s) (hJ : gJ 78 q) (kh4 : ∀ (H : Heap) (locs : List Loc) (σ : TS) (c1 : Nat) (x2 : Int32) (x3 : Int32) (hc1 : c1 < 4) (hP : va_P D vwCl (gS 78 q (TX cy q) σ) H) (hS : va_S (gA 78 q) s.heap H locs) (ls : Array Slot) (hl : lv_has ls 4 [(0, .ref (q (0))), (1, .ref (q (15+6*c1))), (2, .int x2), (3, .int x3)]) (hp : K4 c1 x2 x3 σ = some (r, u)), W p l e rmX8_countAlike s m args below meth c H locs 0 0 (MQ below (gQi D vwCl r (gS 78 q (TX cy q) u) (gA 78 q)) args s 0 0 (gA 78 q)) (F0 m 4 ls [])) {H : Heap} {locs : List Loc} {σ : TS} {c1 : Nat} {x2 : Int32} {x3 : Int32} (hc1 : c1 < 4) (hP : va_P D vwCl (gS 78 q (TX cy q) σ) H) (hS : va_S (gA 78 q) s.heap H locs) {ls : Array Slot} (hl : lv_has ls 4 [(0, .ref (q (0))), (1, .ref (q (15+6*c1))), (2, .int x2), (3, .int x3)]) (hp : sX8_countAlike_37 K4 c1 x2 x3 σ = some (r, u)) : W p l e rmX8_countAlike s m args below meth c H locs 0 0 (MQ below (gQi D vwCl r (gS 78 q (TX cy q) u) (gA 78 q)) args s 0 0 (gA 78 q)) (F0 m 37 ls []) := by
  obtain ⟨hx, hb, hr, hml, hown, hts, hlocks⟩ := id C0
  unfold sX8_countAlike_37 at hp
  refine lv_iinc (v := x3 + (1 : Int32)) (lv' := [(3, .int (x3 + (1 : Int32))), (0, .ref (q (0))), (1, .ref (q (15+6*c1))), (2, .int x2)]) hx hb dX8_countAlike_37 hl (k := 3) rfl rfl (by decide) rfl (fun ls hl => ?_)
  refine lv_goto (tgt := 4) hx hb dX8_countAlike_40 (by decide) ?_
  exact kh4 _ _ _ _ _ _ hc1 hP hS _ (lv_sub hl [1, 2, 3, 0] rfl) hp
def sX8_countAlike_31 (K4 : Nat → Int32 → Int32 → TS → Option (Int32 × TS)) (c1 : Nat) (x2 : Int32) (x3 : Int32) (sx0 : Int32) (σ : TS) : Option (Int32 × TS) := (if sx0 = 0 then sX8_countAlike_37 K4 c1 x2 x3 σ else sX8_countAlike_37 K4 c1 (x2 + (1 : Int32)) x3 σ)
set_option maxHeartbeats 4000000 in
set_option maxRecDepth 100000 in
theorem kX8_countAlike_31 {r : Int32} {u : TS} {K4 : Nat → Int32 → Int32 → TS → Option (Int32 × TS)} (C0 : gC RX8 cX8_countAlike 4 ((some .int)) wsX8_countAlike p s m args meth c) (hK : va_K D vwCl (tyL cy) s) (hJ : gJ 78 q) (kh4 : ∀ (H : Heap) (locs : List Loc) (σ : TS) (c1 : Nat) (x2 : Int32) (x3 : Int32) (hc1 : c1 < 4) (hP : va_P D vwCl (gS 78 q (TX cy q) σ) H) (hS : va_S (gA 78 q) s.heap H locs) (ls : Array Slot) (hl : lv_has ls 4 [(0, .ref (q (0))), (1, .ref (q (15+6*c1))), (2, .int x2), (3, .int x3)]) (hp : K4 c1 x2 x3 σ = some (r, u)), W p l e rmX8_countAlike s m args below meth c H locs 0 0 (MQ below (gQi D vwCl r (gS 78 q (TX cy q) u) (gA 78 q)) args s 0 0 (gA 78 q)) (F0 m 4 ls [])) {H : Heap} {locs : List Loc} {σ : TS} {c1 : Nat} {x2 : Int32} {x3 : Int32} {sx0 : Int32} (hc1 : c1 < 4) (hP : va_P D vwCl (gS 78 q (TX cy q) σ) H) (hS : va_S (gA 78 q) s.heap H locs) {ls : Array Slot} (hl : lv_has ls 4 [(0, .ref (q (0))), (1, .ref (q (15+6*c1))), (2, .int x2), (3, .int x3)]) (hp : sX8_countAlike_31 K4 c1 x2 x3 sx0 σ = some (r, u)) : W p l e rmX8_countAlike s m args below meth c H locs 0 0 (MQ below (gQi D vwCl r (gS 78 q (TX cy q) u) (gA 78 q)) args s 0 0 (gA 78 q)) (F0 m 31 ls [.int sx0]) := by
  obtain ⟨hx, hb, hr, hml, hown, hts, hlocks⟩ := id C0
  unfold sX8_countAlike_31 at hp
  refine lv_if_eq (tgt := 37) hx hb dX8_countAlike_31 (by decide) (fun hcd1 => ?_) (fun hcd1 => ?_)
  · have hp := o_t hp hcd1
    exact kX8_countAlike_37 C0 hK hJ kh4 hc1 hP hS hl hp
  · have hp := o_f hp hcd1
    refine lv_iinc (v := x2 + (1 : Int32)) (lv' := [(2, .int (x2 + (1 : Int32))), (0, .ref (q (0))), (1, .ref (q (15+6*c1))), (3, .int x3)]) hx hb dX8_countAlike_34 hl (k := 2) rfl rfl (by decide) rfl (fun ls hl => ?_)
    exact kX8_countAlike_37 C0 hK hJ kh4 hc1 hP hS (lv_sub hl [1, 2, 0, 3] rfl) hp
def sX8_countAlike_4 : Nat → Nat → Int32 → Int32 → TS → Option (Int32 × TS)
  | 0, _, _, _, _ => none
  | n + 1, c1, x2, x3, σ => (if ((3 : Int32)) ≤ x3 then some (x2, σ) else (if vin x3 3 = true then (if (σ (15+6*(x3.toNatClampNeg)) 6) = 0 then sX8_countAlike_37 (sX8_countAlike_4 n) c1 x2 x3 σ else ((sX1_givesLike (x3.toNatClampNeg) c1 σ).bind (fun z => sX8_countAlike_31 (sX8_countAlike_4 n) c1 x2 x3 z.1 z.2))) else none))
set_option maxHeartbeats 4000000 in
set_option maxRecDepth 100000 in
theorem kX8_countAlike_4 {r : Int32} {u : TS} (C0 : gC RX8 cX8_countAlike 4 ((some .int)) wsX8_countAlike p s m args meth c) (hK : va_K D vwCl (tyL cy) s) (hJ : gJ 78 q) : ∀ (n : Nat) (H : Heap) (locs : List Loc) (σ : TS) (c1 : Nat) (x2 : Int32) (x3 : Int32) (hc1 : c1 < 4) (hP : va_P D vwCl (gS 78 q (TX cy q) σ) H) (hS : va_S (gA 78 q) s.heap H locs) (ls : Array Slot) (hl : lv_has ls 4 [(0, .ref (q (0))), (1, .ref (q (15+6*c1))), (2, .int x2), (3, .int x3)]) (hp : sX8_countAlike_4 n c1 x2 x3 σ = some (r, u)), W p l e rmX8_countAlike s m args below meth c H locs 0 0 (MQ below (gQi D vwCl r (gS 78 q (TX cy q) u) (gA 78 q)) args s 0 0 (gA 78 q)) (F0 m 4 ls []) := by
  obtain ⟨hx, hb, hr, hml, hown, hts, hlocks⟩ := id C0
  intro n
  induction n with
  | zero =>
    intro H locs σ c1 x2 x3 hc1 hP hS ls hl hp
    cases hp
  | succ n ih =>
    intro H locs σ c1 x2 x3 hc1 hP hS ls hl hp
    unfold sX8_countAlike_4 at hp
    refine lv_iload_n hx hb dX8_countAlike_4 rfl (lv_at hl 3 rfl) ?_
    refine lv_iconst (v := (3 : Int32)) hx hb dX8_countAlike_5 (by decide) ?_
    refine lv_icmp_ge (tgt := 43) hx hb dX8_countAlike_6 (by decide) (fun hcd2 => ?_) (fun hcd2 => ?_)
    · have hp := o_t hp hcd2
      refine lv_iload_n hx hb dX8_countAlike_43 rfl (lv_at hl 2 rfl) ?_
      obtain ⟨rfl, rfl⟩ := o_r hp
      exact W.iret (v := x2) hx hb hr (fun t ht hW => ⟨⟨x2, (), rfl, rfl, by subst ht; exact hP⟩, hS.F ht⟩) hS.2.2 dX8_countAlike_44
    · have hp := o_f hp hcd2
      refine lv_aload_n hx hb dX8_countAlike_9 rfl (lv_at hl 0 rfl) ?_
      refine g_get (v := .ref (q (1))) hx hb hts miX8_countAlike_X8 hown hK hP (kk_Tri) (ce_Tri) rfl 0 (by decide) mwX8_countAlike_0 rfl dX8_countAlike_10 ?_
      refine lv_iload_n hx hb dX8_countAlike_13 rfl (lv_at hl 3 rfl) ?_
      obtain ⟨hi3, hp⟩ := o_chk hp
      have hn4 : x3.toNatClampNeg < 4 := Nat.lt_of_lt_of_le (vin_lt hi3) (by decide)
      refine g_aald (j := x3.toNatClampNeg) hx hb hK hP (kk_CompArr) (ce_CompArr) 3 rfl rfl (vin_of hi3) rfl dX8_countAlike_14 ?_
      refine g_get (v := .int (σ (15+6*(x3.toNatClampNeg)) 6)) hx hb hts miX8_countAlike_X1 hown hK hP (kk_Comp hn4) (ce_Comp hn4) rfl 6 (by decide) mwX8_countAlike_1 rfl dX8_countAlike_15 ?_
      refine lv_if_eq (tgt := 37) hx hb dX8_countAlike_18 (by decide) (fun hcd5 => ?_) (fun hcd5 => ?_)
      · have hp := o_t hp hcd5
        exact kX8_countAlike_37 C0 hK hJ ih hc1 hP hS hl hp
      · have hp := o_f hp hcd5
        refine lv_aload_n hx hb dX8_countAlike_21 rfl (lv_at hl 0 rfl) ?_
        refine g_get (v := .ref (q (1))) hx hb hts miX8_countAlike_X8 hown hK hP (kk_Tri) (ce_Tri) rfl 0 (by decide) mwX8_countAlike_0 rfl dX8_countAlike_22 ?_
        refine lv_iload_n hx hb dX8_countAlike_25 rfl (lv_at hl 3 rfl) ?_
        have hn6 : x3.toNatClampNeg < 4 := Nat.lt_of_lt_of_le (vin_lt hi3) (by decide)
        refine g_aald (j := x3.toNatClampNeg) hx hb hK hP (kk_CompArr) (ce_CompArr) 3 rfl rfl (vin_of hi3) rfl dX8_countAlike_26 ?_
        refine lv_aload_n hx hb dX8_countAlike_27 rfl (lv_at hl 1 rfl) ?_
        obtain ⟨⟨r7, u8⟩, hq9, hp⟩ := o_b hp
        refine g_cVi (As := [.ref (q (15+6*c1))]) (rest := []) hx hb hml hown hts hK hP hS (mX1_givesLike l hJ hn6 hc1 hq9) (cwV 1 hts gX8_countAlike_X1_givesLike rfl rfl rfl nVX1_givesLike ⟨Nat.le_of_ble_eq_true rfl, Nat.le_of_ble_eq_true rfl⟩) (g_recv hK hP (kk_Comp hn6) (ce_Comp hn6) rfl) rfl hl.1 rfl (Nat.le_of_ble_eq_true rfl) dX8_countAlike_28 ⟨Nat.le_of_ble_eq_true rfl, Nat.le_of_ble_eq_true rfl⟩ (fun H locs hP hS => ?_)
        exact kX8_countAlike_31 C0 hK hJ ih hc1 hP hS hl hp
def sX8_countAlike_0 (c1 : Nat) (σ : TS) : Option (Int32 × TS) := sX8_countAlike_4 4 c1 ((0 : Int32)) ((0 : Int32)) σ
set_option maxHeartbeats 4000000 in
set_option maxRecDepth 100000 in
theorem kX8_countAlike_0 {r : Int32} {u : TS} (C0 : gC RX8 cX8_countAlike 4 ((some .int)) wsX8_countAlike p s m args meth c) (hK : va_K D vwCl (tyL cy) s) (hJ : gJ 78 q) {H : Heap} {locs : List Loc} {σ : TS} {c1 : Nat} (hc1 : c1 < 4) (hP : va_P D vwCl (gS 78 q (TX cy q) σ) H) (hS : va_S (gA 78 q) s.heap H locs) {ls : Array Slot} (hl : lv_has ls 4 [(0, .ref (q (0))), (1, .ref (q (15+6*c1)))]) (hp : sX8_countAlike_0 c1 σ = some (r, u)) : W p l e rmX8_countAlike s m args below meth c H locs 0 0 (MQ below (gQi D vwCl r (gS 78 q (TX cy q) u) (gA 78 q)) args s 0 0 (gA 78 q)) (F0 m 0 ls []) := by
  obtain ⟨hx, hb, hr, hml, hown, hts, hlocks⟩ := id C0
  unfold sX8_countAlike_0 at hp
  refine lv_iconst (v := (0 : Int32)) hx hb dX8_countAlike_0 (by decide) ?_
  refine lv_istore_n (lv' := [(2, .int ((0 : Int32))), (0, .ref (q (0))), (1, .ref (q (15+6*c1)))]) hx hb dX8_countAlike_1 rfl hl (by decide) rfl (fun ls hl => ?_)
  refine lv_iconst (v := (0 : Int32)) hx hb dX8_countAlike_2 (by decide) ?_
  refine lv_istore_n (lv' := [(3, .int ((0 : Int32))), (2, .int ((0 : Int32))), (0, .ref (q (0))), (1, .ref (q (15+6*c1)))]) hx hb dX8_countAlike_3 rfl hl (by decide) rfl (fun ls hl => ?_)
  exact kX8_countAlike_4 C0 hK hJ _ _ _ _ _ _ _ hc1 hP hS _ (lv_sub hl [2, 3, 1, 0] rfl) hp
def sX8_countAlike (c1 : Nat) (σ : TS) : Option (Int32 × TS) := sX8_countAlike_0 c1 σ
theorem nVX8_countAlike : yX8_countAlike.cls = RX8 ∧ yX8_countAlike.cls ≠ "java/lang/invoke/MethodHandle" ∧ yX8_countAlike.cls ≠ "java/lang/invoke/VarHandle" ∧ (parseMethodDescriptor yX8_countAlike.desc).map (fun d => d.parameters.length) = some 1 := by decide +kernel
set_option maxHeartbeats 4000000 in
set_option maxRecDepth 100000 in
theorem mX8_countAlike (l : Launch) (hJ : gJ 78 q) {c1 : Nat} (hc1 : c1 < 4) {σ : TS} {r : Int32} {u : TS} (hp : sX8_countAlike c1 σ = some (r, u)) : Met l yX8_countAlike wsX8_countAlike rmX8_countAlike (va_Pc [.ref (q (0)), .ref (q (15+6*c1))] (gPre D vwCl (tyL cy) (gS 78 q (TX cy q) σ))) (gQi D vwCl r (gS 78 q (TX cy q) u) (gA 78 q)) 0 0 (gA 78 q) := by
  refine Met.ofW (cc := cX8_countAlike) (maxL := 4) (ret := (some .int)) (by decide +kernel) rfl ?_
  intro p e s m args below meth c s₁ B hml hv
  obtain ⟨rfl, hP, hK⟩ := hv
  have hl := lv_entry ([.ref (q (0)), .ref (q (15+6*c1))]) (n := 4) (Nat.le_of_ble_eq_true rfl)
  rw [lg_entry_eq]
  generalize (lg_sl ([.ref (q (0)), .ref (q (15+6*c1))]) ++ List.replicate (4 - (lg_sl ([.ref (q (0)), .ref (q (15+6*c1))])).length) Slot.unset).toArray = ls at hl ⊢
  have hl : lv_has ls 4 [(0, .ref (q (0))), (1, .ref (q (15+6*c1)))] := hl
  exact kX8_countAlike_0 ⟨B.exec, B.bytes, B.returns, hml, findClass_of_methodNamed B.named, atoms_spec (ws := wsX8_countAlike) B.pre, B.notSynchronized⟩ hK hJ hc1 hP va_S.rf hl hp
theorem miX8_vote_X1 : ∀ w ∈ u_ws RX1 TX1 14, w ∈ wsX8_vote := by decide +kernel
theorem miX8_vote_X8 : ∀ w ∈ u_ws RX8 TX8 16, w ∈ wsX8_vote := by decide +kernel
theorem mwX8_vote_0 : Cond.fieldLink RX8 11 "Triplane" "computers" "[LTriplane$Computer;" ∈ wsX8_vote := by decide +kernel
theorem mwX8_vote_1 : Cond.fieldLink RX8 165 "Triplane$Computer" "strikeCount" "I" ∈ wsX8_vote := by decide +kernel
theorem mwX8_vote_2 : Cond.fieldLink RX8 49 "Triplane" "outputs" "[I" ∈ wsX8_vote := by decide +kernel
theorem mwX8_vote_3 : Cond.fieldLink RX8 162 "Triplane$Computer" "isRunning" "Z" ∈ wsX8_vote := by decide +kernel
abbrev rmX8_vote : Room := { frames := 2, cells := 0, slots := 0, locals := 44 }
def sX8_vote_71 (K7 : Int32 → Int32 → TS → Option (Int32 × TS)) (x1 : Int32) (x2 : Int32) (σ : TS) : Option (Int32 × TS) := K7 x1 (x2 + (1 : Int32)) σ
set_option maxHeartbeats 4000000 in
set_option maxRecDepth 100000 in
theorem kX8_vote_71 {r : Int32} {u : TS} {K7 : Int32 → Int32 → TS → Option (Int32 × TS)} (C0 : gC RX8 cX8_vote 3 none wsX8_vote p s m args meth c) (hK : va_K D vwCl (tyL cy) s) (hJ : gJ 78 q) (kh7 : ∀ (H : Heap) (locs : List Loc) (σ : TS) (x1 : Int32) (x2 : Int32) (hP : va_P D vwCl (gS 78 q (TX cy q) σ) H) (hS : va_S (gA 78 q) s.heap H locs) (ls : Array Slot) (hl : lv_has ls 3 [(0, .ref (q (0))), (1, .int x1), (2, .int x2)]) (hp : K7 x1 x2 σ = some (r, u)), W p l e rmX8_vote s m args below meth c H locs 0 0 (MQ below (gQv D vwCl (gS 78 q (TX cy q) u) (gA 78 q)) args s 0 0 (gA 78 q)) (F0 m 7 ls [])) {H : Heap} {locs : List Loc} {σ : TS} {x1 : Int32} {x2 : Int32} (hP : va_P D vwCl (gS 78 q (TX cy q) σ) H) (hS : va_S (gA 78 q) s.heap H locs) {ls : Array Slot} (hl : lv_has ls 3 [(0, .ref (q (0))), (1, .int x1), (2, .int x2)]) (hp : sX8_vote_71 K7 x1 x2 σ = some (r, u)) : W p l e rmX8_vote s m args below meth c H locs 0 0 (MQ below (gQv D vwCl (gS 78 q (TX cy q) u) (gA 78 q)) args s 0 0 (gA 78 q)) (F0 m 71 ls []) := by
  obtain ⟨hx, hb, hr, hml, hown, hts, hlocks⟩ := id C0
  unfold sX8_vote_71 at hp
  refine lv_iinc (v := x2 + (1 : Int32)) (lv' := [(2, .int (x2 + (1 : Int32))), (0, .ref (q (0))), (1, .int x1)]) hx hb dX8_vote_71 hl (k := 2) rfl rfl (by decide) rfl (fun ls hl => ?_)
  refine lv_goto (tgt := 7) hx hb dX8_vote_74 (by decide) ?_
  exact kh7 _ _ _ _ _  hP hS _ (lv_sub hl [1, 2, 0] rfl) hp
def sX8_vote_53 (K7 : Int32 → Int32 → TS → Option (Int32 × TS)) (x1 : Int32) (x2 : Int32) (σ : TS) : Option (Int32 × TS) := sX8_vote_71 K7 x1 x2 σ
set_option maxHeartbeats 4000000 in
set_option maxRecDepth 100000 in
theorem kX8_vote_53 {r : Int32} {u : TS} {K7 : Int32 → Int32 → TS → Option (Int32 × TS)} (C0 : gC RX8 cX8_vote 3 none wsX8_vote p s m args meth c) (hK : va_K D vwCl (tyL cy) s) (hJ : gJ 78 q) (kh7 : ∀ (H : Heap) (locs : List Loc) (σ : TS) (x1 : Int32) (x2 : Int32) (hP : va_P D vwCl (gS 78 q (TX cy q) σ) H) (hS : va_S (gA 78 q) s.heap H locs) (ls : Array Slot) (hl : lv_has ls 3 [(0, .ref (q (0))), (1, .int x1), (2, .int x2)]) (hp : K7 x1 x2 σ = some (r, u)), W p l e rmX8_vote s m args below meth c H locs 0 0 (MQ below (gQv D vwCl (gS 78 q (TX cy q) u) (gA 78 q)) args s 0 0 (gA 78 q)) (F0 m 7 ls [])) {H : Heap} {locs : List Loc} {σ : TS} {x1 : Int32} {x2 : Int32} (hP : va_P D vwCl (gS 78 q (TX cy q) σ) H) (hS : va_S (gA 78 q) s.heap H locs) {ls : Array Slot} (hl : lv_has ls 3 [(0, .ref (q (0))), (1, .int x1), (2, .int x2)]) (hp : sX8_vote_53 K7 x1 x2 σ = some (r, u)) : W p l e rmX8_vote s m args below meth c H locs 0 0 (MQ below (gQv D vwCl (gS 78 q (TX cy q) u) (gA 78 q)) args s 0 0 (gA 78 q)) (F0 m 53 ls []) := by
  obtain ⟨hx, hb, hr, hml, hown, hts, hlocks⟩ := id C0
  unfold sX8_vote_53 at hp
  refine lv_goto (tgt := 71) hx hb dX8_vote_53 (by decide) ?_
  exact kX8_vote_71 C0 hK hJ kh7  hP hS hl hp
def sX8_vote_35 (K7 : Int32 → Int32 → TS → Option (Int32 × TS)) (x1 : Int32) (x2 : Int32) (sx0 : Int32) (sx1 : Int32) (σ : TS) : Option (Int32 × TS) := (if (sx0 * sx1) ≤ x1 then (if vin x2 3 = true then sX8_vote_71 K7 x1 x2 (st2 σ (15+6*(x2.toNatClampNeg)) 4 ((σ (15+6*(x2.toNatClampNeg)) 4) + ((1 : Int32)))) else none) else (if vin x2 3 = true then ((sX1_handTo (x2.toNatClampNeg) 0 σ).bind (fun z => sX8_vote_53 K7 x1 x2 z.2)) else none))
set_option maxHeartbeats 4000000 in
set_option maxRecDepth 100000 in
theorem kX8_vote_35 {r : Int32} {u : TS} {K7 : Int32 → Int32 → TS → Option (Int32 × TS)} (C0 : gC RX8 cX8_vote 3 none wsX8_vote p s m args meth c) (hK : va_K D vwCl (tyL cy) s) (hJ : gJ 78 q) (kh7 : ∀ (H : Heap) (locs : List Loc) (σ : TS) (x1 : Int32) (x2 : Int32) (hP : va_P D vwCl (gS 78 q (TX cy q) σ) H) (hS : va_S (gA 78 q) s.heap H locs) (ls : Array Slot) (hl : lv_has ls 3 [(0, .ref (q (0))), (1, .int x1), (2, .int x2)]) (hp : K7 x1 x2 σ = some (r, u)), W p l e rmX8_vote s m args below meth c H locs 0 0 (MQ below (gQv D vwCl (gS 78 q (TX cy q) u) (gA 78 q)) args s 0 0 (gA 78 q)) (F0 m 7 ls [])) {H : Heap} {locs : List Loc} {σ : TS} {x1 : Int32} {x2 : Int32} {sx0 : Int32} {sx1 : Int32} (hP : va_P D vwCl (gS 78 q (TX cy q) σ) H) (hS : va_S (gA 78 q) s.heap H locs) {ls : Array Slot} (hl : lv_has ls 3 [(0, .ref (q (0))), (1, .int x1), (2, .int x2)]) (hp : sX8_vote_35 K7 x1 x2 sx0 sx1 σ = some (r, u)) : W p l e rmX8_vote s m args below meth c H locs 0 0 (MQ below (gQv D vwCl (gS 78 q (TX cy q) u) (gA 78 q)) args s 0 0 (gA 78 q)) (F0 m 35 ls [.int sx1, .int sx0]) := by
  obtain ⟨hx, hb, hr, hml, hown, hts, hlocks⟩ := id C0
  unfold sX8_vote_35 at hp
  refine lv_imul hx hb dX8_vote_35 ?_
  refine lv_iload_n hx hb dX8_vote_36 rfl (lv_at hl 1 rfl) ?_
  refine lv_icmp_le (tgt := 56) hx hb dX8_vote_37 (by decide) (fun hcd1 => ?_) (fun hcd1 => ?_)
  · have hp := o_t hp hcd1
    refine lv_aload_n hx hb dX8_vote_56 rfl (lv_at hl 0 rfl) ?_
    refine g_get (v := .ref (q (1))) hx hb hts miX8_vote_X8 hown hK hP (kk_Tri) (ce_Tri) rfl 0 (by decide) mwX8_vote_0 rfl dX8_vote_57 ?_
    refine lv_iload_n hx hb dX8_vote_60 rfl (lv_at hl 2 rfl) ?_
    obtain ⟨hi2, hp⟩ := o_chk hp
    have hn3 : x2.toNatClampNeg < 4 := Nat.lt_of_lt_of_le (vin_lt hi2) (by decide)
    refine g_aald (j := x2.toNatClampNeg) hx hb hK hP (kk_CompArr) (ce_CompArr) 3 rfl rfl (vin_of hi2) rfl dX8_vote_61 ?_
    refine lv_dup hx hb dX8_vote_62 rfl ?_
    refine g_get (v := .int (σ (15+6*(x2.toNatClampNeg)) 4)) hx hb hts miX8_vote_X1 hown hK hP (kk_Comp hn3) (ce_Comp hn3) rfl 4 (by decide) mwX8_vote_1 rfl dX8_vote_63 ?_
    refine lv_iconst (v := (1 : Int32)) hx hb dX8_vote_66 (by decide) ?_
    refine lv_iadd hx hb dX8_vote_67 ?_
    refine g_put (v := (σ (15+6*(x2.toNatClampNeg)) 4) + ((1 : Int32))) hx hb hts miX8_vote_X1 tyX1 tyX1_ok nmX1 hown hK hJ hP hS (kk_Comp hn3) (ce_Comp hn3) rfl 4 (by decide) mwX8_vote_1 rfl rfl rfl (Nat.le_of_ble_eq_true rfl) rfl dX8_vote_68 (fun H locs hP hS => ?_)
    exact kX8_vote_71 C0 hK hJ kh7  hP hS hl hp
  · have hp := o_f hp hcd1
    refine lv_aload_n hx hb dX8_vote_40 rfl (lv_at hl 0 rfl) ?_
    refine g_get (v := .ref (q (1))) hx hb hts miX8_vote_X8 hown hK hP (kk_Tri) (ce_Tri) rfl 0 (by decide) mwX8_vote_0 rfl dX8_vote_41 ?_
    refine lv_iload_n hx hb dX8_vote_44 rfl (lv_at hl 2 rfl) ?_
    obtain ⟨hi4, hp⟩ := o_chk hp
    have hn5 : x2.toNatClampNeg < 4 := Nat.lt_of_lt_of_le (vin_lt hi4) (by decide)
    refine g_aald (j := x2.toNatClampNeg) hx hb hK hP (kk_CompArr) (ce_CompArr) 3 rfl rfl (vin_of hi4) rfl dX8_vote_45 ?_
    refine lv_aload_n hx hb dX8_vote_46 rfl (lv_at hl 0 rfl) ?_
    refine g_get (v := .ref (q (9+0))) hx hb hts miX8_vote_X8 hown hK hP (kk_Tri) (ce_Tri) rfl 7 (by decide) mwX8_vote_2 rfl dX8_vote_47 ?_
    obtain ⟨⟨r6, u7⟩, hq8, hp⟩ := o_b hp
    refine g_cVv (As := [.ref (q (9+0))]) (rest := []) hx hb hml hown hts hK hP hS (mX1_handTo l hJ hn5 (by decide) hq8) (cwV 1 hts gX8_vote_X1_handTo rfl rfl rfl nVX1_handTo ⟨Nat.le_of_ble_eq_true rfl, Nat.le_of_ble_eq_true rfl⟩) (g_recv hK hP (kk_Comp hn5) (ce_Comp hn5) rfl) rfl hl.1 rfl (Nat.le_of_ble_eq_true rfl) dX8_vote_50 ⟨Nat.le_of_ble_eq_true rfl, Nat.le_of_ble_eq_true rfl⟩ (fun H locs hP hS => ?_)
    exact kX8_vote_53 C0 hK hJ kh7  hP hS hl hp
def sX8_vote_7 : Nat → Int32 → Int32 → TS → Option (Int32 × TS)
  | 0, _, _, _ => none
  | n + 1, x1, x2, σ => (if ((3 : Int32)) ≤ x2 then some (0, σ) else (if vin x2 3 = true then (if (σ (15+6*(x2.toNatClampNeg)) 6) = 0 then sX8_vote_71 (sX8_vote_7 n) x1 x2 σ else ((sX8_countAlike (x2.toNatClampNeg) σ).bind (fun z => sX8_vote_35 (sX8_vote_7 n) x1 x2 ((2 : Int32)) z.1 z.2))) else none))
set_option maxHeartbeats 4000000 in
set_option maxRecDepth 100000 in
theorem kX8_vote_7 {r : Int32} {u : TS} (C0 : gC RX8 cX8_vote 3 none wsX8_vote p s m args meth c) (hK : va_K D vwCl (tyL cy) s) (hJ : gJ 78 q) : ∀ (n : Nat) (H : Heap) (locs : List Loc) (σ : TS) (x1 : Int32) (x2 : Int32) (hP : va_P D vwCl (gS 78 q (TX cy q) σ) H) (hS : va_S (gA 78 q) s.heap H locs) (ls : Array Slot) (hl : lv_has ls 3 [(0, .ref (q (0))), (1, .int x1), (2, .int x2)]) (hp : sX8_vote_7 n x1 x2 σ = some (r, u)), W p l e rmX8_vote s m args below meth c H locs 0 0 (MQ below (gQv D vwCl (gS 78 q (TX cy q) u) (gA 78 q)) args s 0 0 (gA 78 q)) (F0 m 7 ls []) := by
  obtain ⟨hx, hb, hr, hml, hown, hts, hlocks⟩ := id C0
  intro n
  induction n with
  | zero =>
    intro H locs σ x1 x2 hP hS ls hl hp
    cases hp
  | succ n ih =>
    intro H locs σ x1 x2 hP hS ls hl hp
    unfold sX8_vote_7 at hp
    refine lv_iload_n hx hb dX8_vote_7 rfl (lv_at hl 2 rfl) ?_
    refine lv_iconst (v := (3 : Int32)) hx hb dX8_vote_8 (by decide) ?_
    refine lv_icmp_ge (tgt := 77) hx hb dX8_vote_9 (by decide) (fun hcd9 => ?_) (fun hcd9 => ?_)
    · have hp := o_t hp hcd9
      obtain ⟨rfl, rfl⟩ := o_r hp
      exact W.vret hx hb hr (fun t ht hW => ⟨⟨(), rfl, trivial, by subst ht; exact hP⟩, hS.F ht⟩) hS.2.2 dX8_vote_77
    · have hp := o_f hp hcd9
      refine lv_aload_n hx hb dX8_vote_12 rfl (lv_at hl 0 rfl) ?_
      refine g_get (v := .ref (q (1))) hx hb hts miX8_vote_X8 hown hK hP (kk_Tri) (ce_Tri) rfl 0 (by decide) mwX8_vote_0 rfl dX8_vote_13 ?_
      refine lv_iload_n hx hb dX8_vote_16 rfl (lv_at hl 2 rfl) ?_
      obtain ⟨hi10, hp⟩ := o_chk hp
      have hn11 : x2.toNatClampNeg < 4 := Nat.lt_of_lt_of_le (vin_lt hi10) (by decide)
      refine g_aald (j := x2.toNatClampNeg) hx hb hK hP (kk_CompArr) (ce_CompArr) 3 rfl rfl (vin_of hi10) rfl dX8_vote_17 ?_
      refine g_get (v := .int (σ (15+6*(x2.toNatClampNeg)) 6)) hx hb hts miX8_vote_X1 hown hK hP (kk_Comp hn11) (ce_Comp hn11) rfl 6 (by decide) mwX8_vote_3 rfl dX8_vote_18 ?_
      refine lv_if_eq (tgt := 71) hx hb dX8_vote_21 (by decide) (fun hcd12 => ?_) (fun hcd12 => ?_)
      · have hp := o_t hp hcd12
        exact kX8_vote_71 C0 hK hJ ih  hP hS hl hp
      · have hp := o_f hp hcd12
        refine lv_iconst (v := (2 : Int32)) hx hb dX8_vote_24 (by decide) ?_
        refine lv_aload_n hx hb dX8_vote_25 rfl (lv_at hl 0 rfl) ?_
        refine lv_aload_n hx hb dX8_vote_26 rfl (lv_at hl 0 rfl) ?_
        refine g_get (v := .ref (q (1))) hx hb hts miX8_vote_X8 hown hK hP (kk_Tri) (ce_Tri) rfl 0 (by decide) mwX8_vote_0 rfl dX8_vote_27 ?_
        refine lv_iload_n hx hb dX8_vote_30 rfl (lv_at hl 2 rfl) ?_
        have hn13 : x2.toNatClampNeg < 4 := Nat.lt_of_lt_of_le (vin_lt hi10) (by decide)
        refine g_aald (j := x2.toNatClampNeg) hx hb hK hP (kk_CompArr) (ce_CompArr) 3 rfl rfl (vin_of hi10) rfl dX8_vote_31 ?_
        obtain ⟨⟨r14, u15⟩, hq16, hp⟩ := o_b hp
        refine g_cVi (As := [.ref (q (15+6*x2.toNatClampNeg))]) (rest := [.int ((2 : Int32))]) hx hb hml hown hts hK hP hS (mX8_countAlike l hJ hn13 hq16) (cwV 1 hts gX8_vote_X8_countAlike rfl rfl rfl nVX8_countAlike ⟨Nat.le_of_ble_eq_true rfl, Nat.le_of_ble_eq_true rfl⟩) (g_recv hK hP (kk_Tri) (ce_Tri) rfl) rfl hl.1 rfl (Nat.le_of_ble_eq_true rfl) dX8_vote_32 ⟨Nat.le_of_ble_eq_true rfl, Nat.le_of_ble_eq_true rfl⟩ (fun H locs hP hS => ?_)
        exact kX8_vote_35 C0 hK hJ ih  hP hS hl hp
def sX8_vote_4 (sx0 : Int32) (σ : TS) : Option (Int32 × TS) := sX8_vote_7 4 sx0 ((0 : Int32)) σ
set_option maxHeartbeats 4000000 in
set_option maxRecDepth 100000 in
theorem kX8_vote_4 {r : Int32} {u : TS} (C0 : gC RX8 cX8_vote 3 none wsX8_vote p s m args meth c) (hK : va_K D vwCl (tyL cy) s) (hJ : gJ 78 q) {H : Heap} {locs : List Loc} {σ : TS} {sx0 : Int32} (hP : va_P D vwCl (gS 78 q (TX cy q) σ) H) (hS : va_S (gA 78 q) s.heap H locs) {ls : Array Slot} (hl : lv_has ls 3 [(0, .ref (q (0)))]) (hp : sX8_vote_4 sx0 σ = some (r, u)) : W p l e rmX8_vote s m args below meth c H locs 0 0 (MQ below (gQv D vwCl (gS 78 q (TX cy q) u) (gA 78 q)) args s 0 0 (gA 78 q)) (F0 m 4 ls [.int sx0]) := by
  obtain ⟨hx, hb, hr, hml, hown, hts, hlocks⟩ := id C0
  unfold sX8_vote_4 at hp
  refine lv_istore_n (lv' := [(1, .int sx0), (0, .ref (q (0)))]) hx hb dX8_vote_4 rfl hl (by decide) rfl (fun ls hl => ?_)
  refine lv_iconst (v := (0 : Int32)) hx hb dX8_vote_5 (by decide) ?_
  refine lv_istore_n (lv' := [(2, .int ((0 : Int32))), (1, .int sx0), (0, .ref (q (0)))]) hx hb dX8_vote_6 rfl hl (by decide) rfl (fun ls hl => ?_)
  exact kX8_vote_7 C0 hK hJ _ _ _ _ _ _  hP hS _ (lv_sub hl [2, 1, 0] rfl) hp
def sX8_vote_0 (σ : TS) : Option (Int32 × TS) := ((sX8_countOn σ).bind (fun z => sX8_vote_4 z.1 z.2))
set_option maxHeartbeats 4000000 in
set_option maxRecDepth 100000 in
theorem kX8_vote_0 {r : Int32} {u : TS} (C0 : gC RX8 cX8_vote 3 none wsX8_vote p s m args meth c) (hK : va_K D vwCl (tyL cy) s) (hJ : gJ 78 q) {H : Heap} {locs : List Loc} {σ : TS} (hP : va_P D vwCl (gS 78 q (TX cy q) σ) H) (hS : va_S (gA 78 q) s.heap H locs) {ls : Array Slot} (hl : lv_has ls 3 [(0, .ref (q (0)))]) (hp : sX8_vote_0 σ = some (r, u)) : W p l e rmX8_vote s m args below meth c H locs 0 0 (MQ below (gQv D vwCl (gS 78 q (TX cy q) u) (gA 78 q)) args s 0 0 (gA 78 q)) (F0 m 0 ls []) := by
  obtain ⟨hx, hb, hr, hml, hown, hts, hlocks⟩ := id C0
  unfold sX8_vote_0 at hp
  refine lv_aload_n hx hb dX8_vote_0 rfl (lv_at hl 0 rfl) ?_
  obtain ⟨⟨r17, u18⟩, hq19, hp⟩ := o_b hp
  refine g_cVi (As := []) (rest := []) hx hb hml hown hts hK hP hS (mX8_countOn l hJ hq19) (cwV 0 hts gX8_vote_X8_countOn rfl rfl rfl nVX8_countOn ⟨Nat.le_of_ble_eq_true rfl, Nat.le_of_ble_eq_true rfl⟩) (g_recv hK hP (kk_Tri) (ce_Tri) rfl) rfl hl.1 rfl (Nat.le_of_ble_eq_true rfl) dX8_vote_1 ⟨Nat.le_of_ble_eq_true rfl, Nat.le_of_ble_eq_true rfl⟩ (fun H locs hP hS => ?_)
  exact kX8_vote_4 C0 hK hJ  hP hS hl hp
def sX8_vote (σ : TS) : Option (Int32 × TS) := sX8_vote_0 σ
theorem nVX8_vote : yX8_vote.cls = RX8 ∧ yX8_vote.cls ≠ "java/lang/invoke/MethodHandle" ∧ yX8_vote.cls ≠ "java/lang/invoke/VarHandle" ∧ (parseMethodDescriptor yX8_vote.desc).map (fun d => d.parameters.length) = some 0 := by decide +kernel
set_option maxHeartbeats 4000000 in
set_option maxRecDepth 100000 in
theorem mX8_vote (l : Launch) (hJ : gJ 78 q) {σ : TS} {r : Int32} {u : TS} (hp : sX8_vote σ = some (r, u)) : Met l yX8_vote wsX8_vote rmX8_vote (va_Pc [.ref (q (0))] (gPre D vwCl (tyL cy) (gS 78 q (TX cy q) σ))) (gQv D vwCl (gS 78 q (TX cy q) u) (gA 78 q)) 0 0 (gA 78 q) := by
  refine Met.ofW (cc := cX8_vote) (maxL := 3) (ret := none) (by decide +kernel) rfl ?_
  intro p e s m args below meth c s₁ B hml hv
  obtain ⟨rfl, hP, hK⟩ := hv
  have hl := lv_entry ([.ref (q (0))]) (n := 3) (Nat.le_of_ble_eq_true rfl)
  rw [lg_entry_eq]
  generalize (lg_sl ([.ref (q (0))]) ++ List.replicate (3 - (lg_sl ([.ref (q (0))])).length) Slot.unset).toArray = ls at hl ⊢
  have hl : lv_has ls 3 [(0, .ref (q (0)))] := hl
  exact kX8_vote_0 ⟨B.exec, B.bytes, B.returns, hml, findClass_of_methodNamed B.named, atoms_spec (ws := wsX8_vote) B.pre, B.notSynchronized⟩ hK hJ  hP va_S.rf hl hp
theorem miX8_shutOffStruckOnes_X1 : ∀ w ∈ u_ws RX1 TX1 14, w ∈ wsX8_shutOffStruckOnes := by decide +kernel
theorem miX8_shutOffStruckOnes_X8 : ∀ w ∈ u_ws RX8 TX8 16, w ∈ wsX8_shutOffStruckOnes := by decide +kernel
theorem mwX8_shutOffStruckOnes_0 : Cond.fieldLink RX8 11 "Triplane" "computers" "[LTriplane$Computer;" ∈ wsX8_shutOffStruckOnes := by decide +kernel
theorem mwX8_shutOffStruckOnes_1 : Cond.fieldLink RX8 162 "Triplane$Computer" "isRunning" "Z" ∈ wsX8_shutOffStruckOnes := by decide +kernel
theorem mwX8_shutOffStruckOnes_2 : Cond.fieldLink RX8 165 "Triplane$Computer" "strikeCount" "I" ∈ wsX8_shutOffStruckOnes := by decide +kernel
abbrev rmX8_shutOffStruckOnes : Room := { frames := 3, cells := 0, slots := 0, locals := 68 }
def sX8_shutOffStruckOnes_39 (K2 : Int32 → TS → Option (Int32 × TS)) (x1 : Int32) (σ : TS) : Option (Int32 × TS) := K2 (x1 + (1 : Int32)) σ
set_option maxHeartbeats 4000000 in
set_option maxRecDepth 100000 in
theorem kX8_shutOffStruckOnes_39 {r : Int32} {u : TS} {K2 : Int32 → TS → Option (Int32 × TS)} (C0 : gC RX8 cX8_shutOffStruckOnes 2 none wsX8_shutOffStruckOnes p s m args meth c) (hK : va_K D vwCl (tyL cy) s) (hJ : gJ 78 q) (kh2 : ∀ (H : Heap) (locs : List Loc) (σ : TS) (x1 : Int32) (hP : va_P D vwCl (gS 78 q (TX cy q) σ) H) (hS : va_S (gA 78 q) s.heap H locs) (ls : Array Slot) (hl : lv_has ls 2 [(0, .ref (q (0))), (1, .int x1)]) (hp : K2 x1 σ = some (r, u)), W p l e rmX8_shutOffStruckOnes s m args below meth c H locs 0 0 (MQ below (gQv D vwCl (gS 78 q (TX cy q) u) (gA 78 q)) args s 0 0 (gA 78 q)) (F0 m 2 ls [])) {H : Heap} {locs : List Loc} {σ : TS} {x1 : Int32} (hP : va_P D vwCl (gS 78 q (TX cy q) σ) H) (hS : va_S (gA 78 q) s.heap H locs) {ls : Array Slot} (hl : lv_has ls 2 [(0, .ref (q (0))), (1, .int x1)]) (hp : sX8_shutOffStruckOnes_39 K2 x1 σ = some (r, u)) : W p l e rmX8_shutOffStruckOnes s m args below meth c H locs 0 0 (MQ below (gQv D vwCl (gS 78 q (TX cy q) u) (gA 78 q)) args s 0 0 (gA 78 q)) (F0 m 39 ls []) := by
  obtain ⟨hx, hb, hr, hml, hown, hts, hlocks⟩ := id C0
  unfold sX8_shutOffStruckOnes_39 at hp
  refine lv_iinc (v := x1 + (1 : Int32)) (lv' := [(1, .int (x1 + (1 : Int32))), (0, .ref (q (0)))]) hx hb dX8_shutOffStruckOnes_39 hl (k := 1) rfl rfl (by decide) rfl (fun ls hl => ?_)
  refine lv_goto (tgt := 2) hx hb dX8_shutOffStruckOnes_42 (by decide) ?_
  exact kh2 _ _ _ _  hP hS _ (lv_sub hl [1, 0] rfl) hp
def sX8_shutOffStruckOnes_2 : Nat → Int32 → TS → Option (Int32 × TS)
  | 0, _, _ => none
  | n + 1, x1, σ => (if ((3 : Int32)) ≤ x1 then some (0, σ) else (if vin x1 3 = true then (if (σ (15+6*(x1.toNatClampNeg)) 6) = 0 then sX8_shutOffStruckOnes_39 (sX8_shutOffStruckOnes_2 n) x1 σ else (if (σ (15+6*(x1.toNatClampNeg)) 4) < ((3 : Int32)) then sX8_shutOffStruckOnes_39 (sX8_shutOffStruckOnes_2 n) x1 σ else ((sX8_shutOff x1 ((118 : Int32)) σ).bind (fun z => sX8_shutOffStruckOnes_39 (sX8_shutOffStruckOnes_2 n) x1 z.2)))) else none))
set_option maxHeartbeats 4000000 in
set_option maxRecDepth 100000 in
theorem kX8_shutOffStruckOnes_2 {r : Int32} {u : TS} (C0 : gC RX8 cX8_shutOffStruckOnes 2 none wsX8_shutOffStruckOnes p s m args meth c) (hK : va_K D vwCl (tyL cy) s) (hJ : gJ 78 q) : ∀ (n : Nat) (H : Heap) (locs : List Loc) (σ : TS) (x1 : Int32) (hP : va_P D vwCl (gS 78 q (TX cy q) σ) H) (hS : va_S (gA 78 q) s.heap H locs) (ls : Array Slot) (hl : lv_has ls 2 [(0, .ref (q (0))), (1, .int x1)]) (hp : sX8_shutOffStruckOnes_2 n x1 σ = some (r, u)), W p l e rmX8_shutOffStruckOnes s m args below meth c H locs 0 0 (MQ below (gQv D vwCl (gS 78 q (TX cy q) u) (gA 78 q)) args s 0 0 (gA 78 q)) (F0 m 2 ls []) := by
  obtain ⟨hx, hb, hr, hml, hown, hts, hlocks⟩ := id C0
  intro n
  induction n with
  | zero =>
    intro H locs σ x1 hP hS ls hl hp
    cases hp
  | succ n ih =>
    intro H locs σ x1 hP hS ls hl hp
    unfold sX8_shutOffStruckOnes_2 at hp
    refine lv_iload_n hx hb dX8_shutOffStruckOnes_2 rfl (lv_at hl 1 rfl) ?_
    refine lv_iconst (v := (3 : Int32)) hx hb dX8_shutOffStruckOnes_3 (by decide) ?_
    refine lv_icmp_ge (tgt := 45) hx hb dX8_shutOffStruckOnes_4 (by decide) (fun hcd1 => ?_) (fun hcd1 => ?_)
    · have hp := o_t hp hcd1
      obtain ⟨rfl, rfl⟩ := o_r hp
      exact W.vret hx hb hr (fun t ht hW => ⟨⟨(), rfl, trivial, by subst ht; exact hP⟩, hS.F ht⟩) hS.2.2 dX8_shutOffStruckOnes_45
    · have hp := o_f hp hcd1
      refine lv_aload_n hx hb dX8_shutOffStruckOnes_7 rfl (lv_at hl 0 rfl) ?_
      refine g_get (v := .ref (q (1))) hx hb hts miX8_shutOffStruckOnes_X8 hown hK hP (kk_Tri) (ce_Tri) rfl 0 (by decide) mwX8_shutOffStruckOnes_0 rfl dX8_shutOffStruckOnes_8 ?_
      refine lv_iload_n hx hb dX8_shutOffStruckOnes_11 rfl (lv_at hl 1 rfl) ?_
      obtain ⟨hi2, hp⟩ := o_chk hp
      have hn3 : x1.toNatClampNeg < 4 := Nat.lt_of_lt_of_le (vin_lt hi2) (by decide)
      refine g_aald (j := x1.toNatClampNeg) hx hb hK hP (kk_CompArr) (ce_CompArr) 3 rfl rfl (vin_of hi2) rfl dX8_shutOffStruckOnes_12 ?_
      refine g_get (v := .int (σ (15+6*(x1.toNatClampNeg)) 6)) hx hb hts miX8_shutOffStruckOnes_X1 hown hK hP (kk_Comp hn3) (ce_Comp hn3) rfl 6 (by decide) mwX8_shutOffStruckOnes_1 rfl dX8_shutOffStruckOnes_13 ?_
      refine lv_if_eq (tgt := 39) hx hb dX8_shutOffStruckOnes_16 (by decide) (fun hcd4 => ?_) (fun hcd4 => ?_)
      · have hp := o_t hp hcd4
        exact kX8_shutOffStruckOnes_39 C0 hK hJ ih  hP hS hl hp
      · have hp := o_f hp hcd4
        refine lv_aload_n hx hb dX8_shutOffStruckOnes_19 rfl (lv_at hl 0 rfl) ?_
        refine g_get (v := .ref (q (1))) hx hb hts miX8_shutOffStruckOnes_X8 hown hK hP (kk_Tri) (ce_Tri) rfl 0 (by decide) mwX8_shutOffStruckOnes_0 rfl dX8_shutOffStruckOnes_20 ?_
        refine lv_iload_n hx hb dX8_shutOffStruckOnes_23 rfl (lv_at hl 1 rfl) ?_
        have hn5 : x1.toNatClampNeg < 4 := Nat.lt_of_lt_of_le (vin_lt hi2) (by decide)
        refine g_aald (j := x1.toNatClampNeg) hx hb hK hP (kk_CompArr) (ce_CompArr) 3 rfl rfl (vin_of hi2) rfl dX8_shutOffStruckOnes_24 ?_
        refine g_get (v := .int (σ (15+6*(x1.toNatClampNeg)) 4)) hx hb hts miX8_shutOffStruckOnes_X1 hown hK hP (kk_Comp hn5) (ce_Comp hn5) rfl 4 (by decide) mwX8_shutOffStruckOnes_2 rfl dX8_shutOffStruckOnes_25 ?_
        refine lv_iconst (v := (3 : Int32)) hx hb dX8_shutOffStruckOnes_28 (by decide) ?_
        refine lv_icmp_lt (tgt := 39) hx hb dX8_shutOffStruckOnes_29 (by decide) (fun hcd6 => ?_) (fun hcd6 => ?_)
        · have hp := o_t hp hcd6
          exact kX8_shutOffStruckOnes_39 C0 hK hJ ih  hP hS hl hp
        · have hp := o_f hp hcd6
          refine lv_aload_n hx hb dX8_shutOffStruckOnes_32 rfl (lv_at hl 0 rfl) ?_
          refine lv_iload_n hx hb dX8_shutOffStruckOnes_33 rfl (lv_at hl 1 rfl) ?_
          refine lv_bipush (v := (118 : Int32)) hx hb dX8_shutOffStruckOnes_34 (by decide) ?_
          obtain ⟨⟨r7, u8⟩, hq9, hp⟩ := o_b hp
          refine g_cVv (As := [.int x1, .int ((118 : Int32))]) (rest := []) hx hb hml hown hts hK hP hS (mX8_shutOff l hJ hq9) (cwV 2 hts gX8_shutOffStruckOnes_X8_shutOff rfl rfl rfl nVX8_shutOff ⟨Nat.le_of_ble_eq_true rfl, Nat.le_of_ble_eq_true rfl⟩) (g_recv hK hP (kk_Tri) (ce_Tri) rfl) rfl hl.1 rfl (Nat.le_of_ble_eq_true rfl) dX8_shutOffStruckOnes_36 ⟨Nat.le_of_ble_eq_true rfl, Nat.le_of_ble_eq_true rfl⟩ (fun H locs hP hS => ?_)
          exact kX8_shutOffStruckOnes_39 C0 hK hJ ih  hP hS hl hp
def sX8_shutOffStruckOnes_0 (σ : TS) : Option (Int32 × TS) := sX8_shutOffStruckOnes_2 4 ((0 : Int32)) σ
set_option maxHeartbeats 4000000 in
set_option maxRecDepth 100000 in
theorem kX8_shutOffStruckOnes_0 {r : Int32} {u : TS} (C0 : gC RX8 cX8_shutOffStruckOnes 2 none wsX8_shutOffStruckOnes p s m args meth c) (hK : va_K D vwCl (tyL cy) s) (hJ : gJ 78 q) {H : Heap} {locs : List Loc} {σ : TS} (hP : va_P D vwCl (gS 78 q (TX cy q) σ) H) (hS : va_S (gA 78 q) s.heap H locs) {ls : Array Slot} (hl : lv_has ls 2 [(0, .ref (q (0)))]) (hp : sX8_shutOffStruckOnes_0 σ = some (r, u)) : W p l e rmX8_shutOffStruckOnes s m args below meth c H locs 0 0 (MQ below (gQv D vwCl (gS 78 q (TX cy q) u) (gA 78 q)) args s 0 0 (gA 78 q)) (F0 m 0 ls []) := by
  obtain ⟨hx, hb, hr, hml, hown, hts, hlocks⟩ := id C0
  unfold sX8_shutOffStruckOnes_0 at hp
  refine lv_iconst (v := (0 : Int32)) hx hb dX8_shutOffStruckOnes_0 (by decide) ?_
  refine lv_istore_n (lv' := [(1, .int ((0 : Int32))), (0, .ref (q (0)))]) hx hb dX8_shutOffStruckOnes_1 rfl hl (by decide) rfl (fun ls hl => ?_)
  exact kX8_shutOffStruckOnes_2 C0 hK hJ _ _ _ _ _  hP hS _ (lv_sub hl [1, 0] rfl) hp
def sX8_shutOffStruckOnes (σ : TS) : Option (Int32 × TS) := sX8_shutOffStruckOnes_0 σ
theorem nVX8_shutOffStruckOnes : yX8_shutOffStruckOnes.cls = RX8 ∧ yX8_shutOffStruckOnes.cls ≠ "java/lang/invoke/MethodHandle" ∧ yX8_shutOffStruckOnes.cls ≠ "java/lang/invoke/VarHandle" ∧ (parseMethodDescriptor yX8_shutOffStruckOnes.desc).map (fun d => d.parameters.length) = some 0 := by decide +kernel
set_option maxHeartbeats 4000000 in
set_option maxRecDepth 100000 in
theorem mX8_shutOffStruckOnes (l : Launch) (hJ : gJ 78 q) {σ : TS} {r : Int32} {u : TS} (hp : sX8_shutOffStruckOnes σ = some (r, u)) : Met l yX8_shutOffStruckOnes wsX8_shutOffStruckOnes rmX8_shutOffStruckOnes (va_Pc [.ref (q (0))] (gPre D vwCl (tyL cy) (gS 78 q (TX cy q) σ))) (gQv D vwCl (gS 78 q (TX cy q) u) (gA 78 q)) 0 0 (gA 78 q) := by
  refine Met.ofW (cc := cX8_shutOffStruckOnes) (maxL := 2) (ret := none) (by decide +kernel) rfl ?_
  intro p e s m args below meth c s₁ B hml hv
  obtain ⟨rfl, hP, hK⟩ := hv
  have hl := lv_entry ([.ref (q (0))]) (n := 2) (Nat.le_of_ble_eq_true rfl)
  rw [lg_entry_eq]
  generalize (lg_sl ([.ref (q (0))]) ++ List.replicate (2 - (lg_sl ([.ref (q (0))])).length) Slot.unset).toArray = ls at hl ⊢
  have hl : lv_has ls 2 [(0, .ref (q (0)))] := hl
  exact kX8_shutOffStruckOnes_0 ⟨B.exec, B.bytes, B.returns, hml, findClass_of_methodNamed B.named, atoms_spec (ws := wsX8_shutOffStruckOnes) B.pre, B.notSynchronized⟩ hK hJ  hP va_S.rf hl hp
theorem miX8_runSlot_X6 : ∀ w ∈ u_ws RX6 TX6 5, w ∈ wsX8_runSlot := by decide +kernel
theorem miX8_runSlot_X8 : ∀ w ∈ u_ws RX8 TX8 16, w ∈ wsX8_runSlot := by decide +kernel
theorem mwX8_runSlot_0 : Cond.fieldLink RX8 191 "Triplane$Program" "overrunCount" "I" ∈ wsX8_runSlot := by decide +kernel
theorem mwX8_runSlot_1 : Cond.fieldLink RX8 16 "Triplane" "plainComputer" "LTriplane$Computer;" ∈ wsX8_runSlot := by decide +kernel
theorem mwX8_runSlot_2 : Cond.fieldLink RX8 11 "Triplane" "computers" "[LTriplane$Computer;" ∈ wsX8_runSlot := by decide +kernel
theorem mwX8_runSlot_3 : Cond.fieldLink RX8 22 "Triplane" "programs" "[LTriplane$Program;" ∈ wsX8_runSlot := by decide +kernel
abbrev rmX8_runSlot : Room := { frames := 5, cells := 0, slots := 0, locals := 117 }
def sX8_runSlot_23 (K9 : Nat → Int32 → Int32 → TS → Option (Int32 × TS)) (c2 : Nat) (x1 : Int32) (x3 : Int32) (σ : TS) : Option (Int32 × TS) := K9 c2 x1 (x3 + (1 : Int32)) σ
set_option maxHeartbeats 4000000 in
set_option maxRecDepth 100000 in
theorem kX8_runSlot_23 {r : Int32} {u : TS} {K9 : Nat → Int32 → Int32 → TS → Option (Int32 × TS)} (C0 : gC RX8 cX8_runSlot 4 none wsX8_runSlot p s m args meth c) (hK : va_K D vwCl (tyL cy) s) (hJ : gJ 78 q) (kh9 : ∀ (H : Heap) (locs : List Loc) (σ : TS) (c2 : Nat) (x1 : Int32) (x3 : Int32) (hc2 : c2 < 3) (hP : va_P D vwCl (gS 78 q (TX cy q) σ) H) (hS : va_S (gA 78 q) s.heap H locs) (ls : Array Slot) (hl : lv_has ls 4 [(0, .ref (q (0))), (1, .int x1), (2, .ref (q (39+4*c2))), (3, .int x3)]) (hp : K9 c2 x1 x3 σ = some (r, u)), W p l e rmX8_runSlot s m args below meth c H locs 0 0 (MQ below (gQv D vwCl (gS 78 q (TX cy q) u) (gA 78 q)) args s 0 0 (gA 78 q)) (F0 m 9 ls [])) {H : Heap} {locs : List Loc} {σ : TS} {c2 : Nat} {x1 : Int32} {x3 : Int32} (hc2 : c2 < 3) (hP : va_P D vwCl (gS 78 q (TX cy q) σ) H) (hS : va_S (gA 78 q) s.heap H locs) {ls : Array Slot} (hl : lv_has ls 4 [(0, .ref (q (0))), (1, .int x1), (2, .ref (q (39+4*c2))), (3, .int x3)]) (hp : sX8_runSlot_23 K9 c2 x1 x3 σ = some (r, u)) : W p l e rmX8_runSlot s m args below meth c H locs 0 0 (MQ below (gQv D vwCl (gS 78 q (TX cy q) u) (gA 78 q)) args s 0 0 (gA 78 q)) (F0 m 23 ls []) := by
  obtain ⟨hx, hb, hr, hml, hown, hts, hlocks⟩ := id C0
  unfold sX8_runSlot_23 at hp
  refine lv_iinc (v := x3 + (1 : Int32)) (lv' := [(3, .int (x3 + (1 : Int32))), (0, .ref (q (0))), (1, .int x1), (2, .ref (q (39+4*c2)))]) hx hb dX8_runSlot_23 hl (k := 3) rfl rfl (by decide) rfl (fun ls hl => ?_)
  refine lv_goto (tgt := 9) hx hb dX8_runSlot_26 (by decide) ?_
  exact kh9 _ _ _ _ _ _ hc2 hP hS _ (lv_sub hl [1, 2, 3, 0] rfl) hp
def sX8_runSlot_66 (K38 : Nat → Int32 → Int32 → TS → Option (Int32 × TS)) (c2 : Nat) (x1 : Int32) (x3 : Int32) (σ : TS) : Option (Int32 × TS) := K38 c2 x1 (x3 + (1 : Int32)) σ
set_option maxHeartbeats 4000000 in
set_option maxRecDepth 100000 in
theorem kX8_runSlot_66 {r : Int32} {u : TS} {K38 : Nat → Int32 → Int32 → TS → Option (Int32 × TS)} (C0 : gC RX8 cX8_runSlot 4 none wsX8_runSlot p s m args meth c) (hK : va_K D vwCl (tyL cy) s) (hJ : gJ 78 q) (kh38 : ∀ (H : Heap) (locs : List Loc) (σ : TS) (c2 : Nat) (x1 : Int32) (x3 : Int32) (hc2 : c2 < 3) (hP : va_P D vwCl (gS 78 q (TX cy q) σ) H) (hS : va_S (gA 78 q) s.heap H locs) (ls : Array Slot) (hl : lv_has ls 4 [(0, .ref (q (0))), (1, .int x1), (2, .ref (q (39+4*c2))), (3, .int x3)]) (hp : K38 c2 x1 x3 σ = some (r, u)), W p l e rmX8_runSlot s m args below meth c H locs 0 0 (MQ below (gQv D vwCl (gS 78 q (TX cy q) u) (gA 78 q)) args s 0 0 (gA 78 q)) (F0 m 38 ls [])) {H : Heap} {locs : List Loc} {σ : TS} {c2 : Nat} {x1 : Int32} {x3 : Int32} (hc2 : c2 < 3) (hP : va_P D vwCl (gS 78 q (TX cy q) σ) H) (hS : va_S (gA 78 q) s.heap H locs) {ls : Array Slot} (hl : lv_has ls 4 [(0, .ref (q (0))), (1, .int x1), (2, .ref (q (39+4*c2))), (3, .int x3)]) (hp : sX8_runSlot_66 K38 c2 x1 x3 σ = some (r, u)) : W p l e rmX8_runSlot s m args below meth c H locs 0 0 (MQ below (gQv D vwCl (gS 78 q (TX cy q) u) (gA 78 q)) args s 0 0 (gA 78 q)) (F0 m 66 ls []) := by
  obtain ⟨hx, hb, hr, hml, hown, hts, hlocks⟩ := id C0
  unfold sX8_runSlot_66 at hp
  refine lv_iinc (v := x3 + (1 : Int32)) (lv' := [(3, .int (x3 + (1 : Int32))), (0, .ref (q (0))), (1, .int x1), (2, .ref (q (39+4*c2)))]) hx hb dX8_runSlot_66 hl (k := 3) rfl rfl (by decide) rfl (fun ls hl => ?_)
  refine lv_goto (tgt := 38) hx hb dX8_runSlot_69 (by decide) ?_
  exact kh38 _ _ _ _ _ _ hc2 hP hS _ (lv_sub hl [1, 2, 3, 0] rfl) hp
def sX8_runSlot_62 (K38 : Nat → Int32 → Int32 → TS → Option (Int32 × TS)) (c2 : Nat) (x1 : Int32) (x3 : Int32) (σ : TS) : Option (Int32 × TS) := ((sX8_shutOffStruckOnes σ).bind (fun z => sX8_runSlot_66 K38 c2 x1 x3 z.2))
set_option maxHeartbeats 4000000 in
set_option maxRecDepth 100000 in
theorem kX8_runSlot_62 {r : Int32} {u : TS} {K38 : Nat → Int32 → Int32 → TS → Option (Int32 × TS)} (C0 : gC RX8 cX8_runSlot 4 none wsX8_runSlot p s m args meth c) (hK : va_K D vwCl (tyL cy) s) (hJ : gJ 78 q) (kh38 : ∀ (H : Heap) (locs : List Loc) (σ : TS) (c2 : Nat) (x1 : Int32) (x3 : Int32) (hc2 : c2 < 3) (hP : va_P D vwCl (gS 78 q (TX cy q) σ) H) (hS : va_S (gA 78 q) s.heap H locs) (ls : Array Slot) (hl : lv_has ls 4 [(0, .ref (q (0))), (1, .int x1), (2, .ref (q (39+4*c2))), (3, .int x3)]) (hp : K38 c2 x1 x3 σ = some (r, u)), W p l e rmX8_runSlot s m args below meth c H locs 0 0 (MQ below (gQv D vwCl (gS 78 q (TX cy q) u) (gA 78 q)) args s 0 0 (gA 78 q)) (F0 m 38 ls [])) {H : Heap} {locs : List Loc} {σ : TS} {c2 : Nat} {x1 : Int32} {x3 : Int32} (hc2 : c2 < 3) (hP : va_P D vwCl (gS 78 q (TX cy q) σ) H) (hS : va_S (gA 78 q) s.heap H locs) {ls : Array Slot} (hl : lv_has ls 4 [(0, .ref (q (0))), (1, .int x1), (2, .ref (q (39+4*c2))), (3, .int x3)]) (hp : sX8_runSlot_62 K38 c2 x1 x3 σ = some (r, u)) : W p l e rmX8_runSlot s m args below meth c H locs 0 0 (MQ below (gQv D vwCl (gS 78 q (TX cy q) u) (gA 78 q)) args s 0 0 (gA 78 q)) (F0 m 62 ls []) := by
  obtain ⟨hx, hb, hr, hml, hown, hts, hlocks⟩ := id C0
  unfold sX8_runSlot_62 at hp
  refine lv_aload_n hx hb dX8_runSlot_62 rfl (lv_at hl 0 rfl) ?_
  obtain ⟨⟨r1, u2⟩, hq3, hp⟩ := o_b hp
  refine g_cVv (As := []) (rest := []) hx hb hml hown hts hK hP hS (mX8_shutOffStruckOnes l hJ hq3) (cwV 0 hts gX8_runSlot_X8_shutOffStruckOnes rfl rfl rfl nVX8_shutOffStruckOnes ⟨Nat.le_of_ble_eq_true rfl, Nat.le_of_ble_eq_true rfl⟩) (g_recv hK hP (kk_Tri) (ce_Tri) rfl) rfl hl.1 rfl (Nat.le_of_ble_eq_true rfl) dX8_runSlot_63 ⟨Nat.le_of_ble_eq_true rfl, Nat.le_of_ble_eq_true rfl⟩ (fun H locs hP hS => ?_)
  exact kX8_runSlot_66 C0 hK hJ kh38 hc2 hP hS hl hp
def sX8_runSlot_58 (K38 : Nat → Int32 → Int32 → TS → Option (Int32 × TS)) (c2 : Nat) (x1 : Int32) (x3 : Int32) (σ : TS) : Option (Int32 × TS) := ((sX8_vote σ).bind (fun z => sX8_runSlot_62 K38 c2 x1 x3 z.2))
set_option maxHeartbeats 4000000 in
set_option maxRecDepth 100000 in
theorem kX8_runSlot_58 {r : Int32} {u : TS} {K38 : Nat → Int32 → Int32 → TS → Option (Int32 × TS)} (C0 : gC RX8 cX8_runSlot 4 none wsX8_runSlot p s m args meth c) (hK : va_K D vwCl (tyL cy) s) (hJ : gJ 78 q) (kh38 : ∀ (H : Heap) (locs : List Loc) (σ : TS) (c2 : Nat) (x1 : Int32) (x3 : Int32) (hc2 : c2 < 3) (hP : va_P D vwCl (gS 78 q (TX cy q) σ) H) (hS : va_S (gA 78 q) s.heap H locs) (ls : Array Slot) (hl : lv_has ls 4 [(0, .ref (q (0))), (1, .int x1), (2, .ref (q (39+4*c2))), (3, .int x3)]) (hp : K38 c2 x1 x3 σ = some (r, u)), W p l e rmX8_runSlot s m args below meth c H locs 0 0 (MQ below (gQv D vwCl (gS 78 q (TX cy q) u) (gA 78 q)) args s 0 0 (gA 78 q)) (F0 m 38 ls [])) {H : Heap} {locs : List Loc} {σ : TS} {c2 : Nat} {x1 : Int32} {x3 : Int32} (hc2 : c2 < 3) (hP : va_P D vwCl (gS 78 q (TX cy q) σ) H) (hS : va_S (gA 78 q) s.heap H locs) {ls : Array Slot} (hl : lv_has ls 4 [(0, .ref (q (0))), (1, .int x1), (2, .ref (q (39+4*c2))), (3, .int x3)]) (hp : sX8_runSlot_58 K38 c2 x1 x3 σ = some (r, u)) : W p l e rmX8_runSlot s m args below meth c H locs 0 0 (MQ below (gQv D vwCl (gS 78 q (TX cy q) u) (gA 78 q)) args s 0 0 (gA 78 q)) (F0 m 58 ls []) := by
  obtain ⟨hx, hb, hr, hml, hown, hts, hlocks⟩ := id C0
  unfold sX8_runSlot_58 at hp
  refine lv_aload_n hx hb dX8_runSlot_58 rfl (lv_at hl 0 rfl) ?_
  obtain ⟨⟨r4, u5⟩, hq6, hp⟩ := o_b hp
  refine g_cVv (As := []) (rest := []) hx hb hml hown hts hK hP hS (mX8_vote l hJ hq6) (cwV 0 hts gX8_runSlot_X8_vote rfl rfl rfl nVX8_vote ⟨Nat.le_of_ble_eq_true rfl, Nat.le_of_ble_eq_true rfl⟩) (g_recv hK hP (kk_Tri) (ce_Tri) rfl) rfl hl.1 rfl (Nat.le_of_ble_eq_true rfl) dX8_runSlot_59 ⟨Nat.le_of_ble_eq_true rfl, Nat.le_of_ble_eq_true rfl⟩ (fun H locs hP hS => ?_)
  exact kX8_runSlot_62 C0 hK hJ kh38 hc2 hP hS hl hp
def sX8_runSlot_90 (σ : TS) : Option (Int32 × TS) := some (0, σ)
set_option maxHeartbeats 4000000 in
set_option maxRecDepth 100000 in
theorem kX8_runSlot_90 {r : Int32} {u : TS} (C0 : gC RX8 cX8_runSlot 4 none wsX8_runSlot p s m args meth c) (hK : va_K D vwCl (tyL cy) s) (hJ : gJ 78 q) {H : Heap} {locs : List Loc} {σ : TS} (hP : va_P D vwCl (gS 78 q (TX cy q) σ) H) (hS : va_S (gA 78 q) s.heap H locs) {ls : Array Slot} (hl : lv_has ls 4 []) (hp : sX8_runSlot_90 σ = some (r, u)) : W p l e rmX8_runSlot s m args below meth c H locs 0 0 (MQ below (gQv D vwCl (gS 78 q (TX cy q) u) (gA 78 q)) args s 0 0 (gA 78 q)) (F0 m 90 ls []) := by
  obtain ⟨hx, hb, hr, hml, hown, hts, hlocks⟩ := id C0
  unfold sX8_runSlot_90 at hp
  obtain ⟨rfl, rfl⟩ := o_r hp
  exact W.vret hx hb hr (fun t ht hW => ⟨⟨(), rfl, trivial, by subst ht; exact hP⟩, hS.F ht⟩) hS.2.2 dX8_runSlot_90
def sX8_runSlot_77 (c2 : Nat) (sx0 : Int32) (σ : TS) : Option (Int32 × TS) := (if sx0 = 0 then sX8_runSlot_90 σ else sX8_runSlot_90 (st2 σ (39+4*c2) 4 ((σ (39+4*c2) 4) + ((1 : Int32)))))
set_option maxHeartbeats 4000000 in
set_option maxRecDepth 100000 in
theorem kX8_runSlot_77 {r : Int32} {u : TS} (C0 : gC RX8 cX8_runSlot 4 none wsX8_runSlot p s m args meth c) (hK : va_K D vwCl (tyL cy) s) (hJ : gJ 78 q) {H : Heap} {locs : List Loc} {σ : TS} {c2 : Nat} {sx0 : Int32} (hc2 : c2 < 3) (hP : va_P D vwCl (gS 78 q (TX cy q) σ) H) (hS : va_S (gA 78 q) s.heap H locs) {ls : Array Slot} (hl : lv_has ls 4 [(2, .ref (q (39+4*c2)))]) (hp : sX8_runSlot_77 c2 sx0 σ = some (r, u)) : W p l e rmX8_runSlot s m args below meth c H locs 0 0 (MQ below (gQv D vwCl (gS 78 q (TX cy q) u) (gA 78 q)) args s 0 0 (gA 78 q)) (F0 m 77 ls [.int sx0]) := by
  obtain ⟨hx, hb, hr, hml, hown, hts, hlocks⟩ := id C0
  unfold sX8_runSlot_77 at hp
  refine lv_if_eq (tgt := 90) hx hb dX8_runSlot_77 (by decide) (fun hcd7 => ?_) (fun hcd7 => ?_)
  · have hp := o_t hp hcd7
    exact kX8_runSlot_90 C0 hK hJ  hP hS (lv_sub hl [] rfl) hp
  · have hp := o_f hp hcd7
    refine lv_aload_n hx hb dX8_runSlot_80 rfl (lv_at hl 0 rfl) ?_
    refine lv_dup hx hb dX8_runSlot_81 rfl ?_
    refine g_get (v := .int (σ (39+4*c2) 4)) hx hb hts miX8_runSlot_X6 hown hK hP (kk_Prog hc2) (ce_Prog hc2) rfl 4 (by decide) mwX8_runSlot_0 rfl dX8_runSlot_82 ?_
    refine lv_iconst (v := (1 : Int32)) hx hb dX8_runSlot_85 (by decide) ?_
    refine lv_iadd hx hb dX8_runSlot_86 ?_
    refine g_put (v := (σ (39+4*c2) 4) + ((1 : Int32))) hx hb hts miX8_runSlot_X6 tyX6 tyX6_ok nmX6 hown hK hJ hP hS (kk_Prog hc2) (ce_Prog hc2) rfl 4 (by decide) mwX8_runSlot_0 rfl rfl rfl (Nat.le_of_ble_eq_true rfl) rfl dX8_runSlot_87 (fun H locs hP hS => ?_)
    exact kX8_runSlot_90 C0 hK hJ  hP hS (lv_sub hl [] rfl) hp
def sX8_runSlot_72 (c2 : Nat) (σ : TS) : Option (Int32 × TS) := ((sX8_isOneOfThreeLeft c2 σ).bind (fun z => sX8_runSlot_77 c2 z.1 z.2))
set_option maxHeartbeats 4000000 in
set_option maxRecDepth 100000 in
theorem kX8_runSlot_72 {r : Int32} {u : TS} (C0 : gC RX8 cX8_runSlot 4 none wsX8_runSlot p s m args meth c) (hK : va_K D vwCl (tyL cy) s) (hJ : gJ 78 q) {H : Heap} {locs : List Loc} {σ : TS} {c2 : Nat} (hc2 : c2 < 3) (hP : va_P D vwCl (gS 78 q (TX cy q) σ) H) (hS : va_S (gA 78 q) s.heap H locs) {ls : Array Slot} (hl : lv_has ls 4 [(0, .ref (q (0))), (2, .ref (q (39+4*c2)))]) (hp : sX8_runSlot_72 c2 σ = some (r, u)) : W p l e rmX8_runSlot s m args below meth c H locs 0 0 (MQ below (gQv D vwCl (gS 78 q (TX cy q) u) (gA 78 q)) args s 0 0 (gA 78 q)) (F0 m 72 ls []) := by
  obtain ⟨hx, hb, hr, hml, hown, hts, hlocks⟩ := id C0
  unfold sX8_runSlot_72 at hp
  refine lv_aload_n hx hb dX8_runSlot_72 rfl (lv_at hl 0 rfl) ?_
  refine lv_aload_n hx hb dX8_runSlot_73 rfl (lv_at hl 1 rfl) ?_
  obtain ⟨⟨r8, u9⟩, hq10, hp⟩ := o_b hp
  refine g_cVi (As := [.ref (q (39+4*c2))]) (rest := []) hx hb hml hown hts hK hP hS (mX8_isOneOfThreeLeft l hJ hc2 hq10) (cwV 1 hts gX8_runSlot_X8_isOneOfThreeLeft rfl rfl rfl nVX8_isOneOfThreeLeft ⟨Nat.le_of_ble_eq_true rfl, Nat.le_of_ble_eq_true rfl⟩) (g_recv hK hP (kk_Tri) (ce_Tri) rfl) rfl hl.1 rfl (Nat.le_of_ble_eq_true rfl) dX8_runSlot_74 ⟨Nat.le_of_ble_eq_true rfl, Nat.le_of_ble_eq_true rfl⟩ (fun H locs hP hS => ?_)
  exact kX8_runSlot_77 C0 hK hJ hc2 hP hS (lv_sub hl [1] rfl) hp
def sX8_runSlot_49 (K38 : Nat → Int32 → Int32 → TS → Option (Int32 × TS)) (c2 : Nat) (x1 : Int32) (x3 : Int32) (sx0 : Int32) (σ : TS) : Option (Int32 × TS) := (if sx0 = 0 then sX8_runSlot_72 c2 σ else ((sX8_doInstructions c2 x1 σ).bind (fun z => sX8_runSlot_58 K38 c2 x1 x3 z.2)))
set_option maxHeartbeats 4000000 in
set_option maxRecDepth 100000 in
theorem kX8_runSlot_49 {r : Int32} {u : TS} {K38 : Nat → Int32 → Int32 → TS → Option (Int32 × TS)} (C0 : gC RX8 cX8_runSlot 4 none wsX8_runSlot p s m args meth c) (hK : va_K D vwCl (tyL cy) s) (hJ : gJ 78 q) (kh38 : ∀ (H : Heap) (locs : List Loc) (σ : TS) (c2 : Nat) (x1 : Int32) (x3 : Int32) (hc2 : c2 < 3) (hP : va_P D vwCl (gS 78 q (TX cy q) σ) H) (hS : va_S (gA 78 q) s.heap H locs) (ls : Array Slot) (hl : lv_has ls 4 [(0, .ref (q (0))), (1, .int x1), (2, .ref (q (39+4*c2))), (3, .int x3)]) (hp : K38 c2 x1 x3 σ = some (r, u)), W p l e rmX8_runSlot s m args below meth c H locs 0 0 (MQ below (gQv D vwCl (gS 78 q (TX cy q) u) (gA 78 q)) args s 0 0 (gA 78 q)) (F0 m 38 ls [])) {H : Heap} {locs : List Loc} {σ : TS} {c2 : Nat} {x1 : Int32} {x3 : Int32} {sx0 : Int32} (hc2 : c2 < 3) (hP : va_P D vwCl (gS 78 q (TX cy q) σ) H) (hS : va_S (gA 78 q) s.heap H locs) {ls : Array Slot} (hl : lv_has ls 4 [(0, .ref (q (0))), (1, .int x1), (2, .ref (q (39+4*c2))), (3, .int x3)]) (hp : sX8_runSlot_49 K38 c2 x1 x3 sx0 σ = some (r, u)) : W p l e rmX8_runSlot s m args below meth c H locs 0 0 (MQ below (gQv D vwCl (gS 78 q (TX cy q) u) (gA 78 q)) args s 0 0 (gA 78 q)) (F0 m 49 ls [.int sx0]) := by
  obtain ⟨hx, hb, hr, hml, hown, hts, hlocks⟩ := id C0
  unfold sX8_runSlot_49 at hp
  refine lv_if_eq (tgt := 72) hx hb dX8_runSlot_49 (by decide) (fun hcd11 => ?_) (fun hcd11 => ?_)
  · have hp := o_t hp hcd11
    exact kX8_runSlot_72 C0 hK hJ hc2 hP hS (lv_sub hl [0, 2] rfl) hp
  · have hp := o_f hp hcd11
    refine lv_aload_n hx hb dX8_runSlot_52 rfl (lv_at hl 0 rfl) ?_
    refine lv_aload_n hx hb dX8_runSlot_53 rfl (lv_at hl 2 rfl) ?_
    refine lv_iload_n hx hb dX8_runSlot_54 rfl (lv_at hl 1 rfl) ?_
    obtain ⟨⟨r12, u13⟩, hq14, hp⟩ := o_b hp
    refine g_cVv (As := [.ref (q (39+4*c2)), .int x1]) (rest := []) hx hb hml hown hts hK hP hS (mX8_doInstructions l hJ hc2 hq14) (cwV 2 hts gX8_runSlot_X8_doInstructions rfl rfl rfl nVX8_doInstructions ⟨Nat.le_of_ble_eq_true rfl, Nat.le_of_ble_eq_true rfl⟩) (g_recv hK hP (kk_Tri) (ce_Tri) rfl) rfl hl.1 rfl (Nat.le_of_ble_eq_true rfl) dX8_runSlot_55 ⟨Nat.le_of_ble_eq_true rfl, Nat.le_of_ble_eq_true rfl⟩ (fun H locs hP hS => ?_)
    exact kX8_runSlot_58 C0 hK hJ kh38 hc2 hP hS hl hp
def sX8_runSlot_38 : Nat → Nat → Int32 → Int32 → TS → Option (Int32 × TS)
  | 0, _, _, _, _ => none
  | n + 1, c2, x1, x3, σ => (if ((30 : Int32)) ≤ x3 then sX8_runSlot_72 c2 σ else ((sX8_isAnyLeft c2 σ).bind (fun z => sX8_runSlot_49 (sX8_runSlot_38 n) c2 x1 x3 z.1 z.2)))
set_option maxHeartbeats 4000000 in
set_option maxRecDepth 100000 in
theorem kX8_runSlot_38 {r : Int32} {u : TS} (C0 : gC RX8 cX8_runSlot 4 none wsX8_runSlot p s m args meth c) (hK : va_K D vwCl (tyL cy) s) (hJ : gJ 78 q) : ∀ (n : Nat) (H : Heap) (locs : List Loc) (σ : TS) (c2 : Nat) (x1 : Int32) (x3 : Int32) (hc2 : c2 < 3) (hP : va_P D vwCl (gS 78 q (TX cy q) σ) H) (hS : va_S (gA 78 q) s.heap H locs) (ls : Array Slot) (hl : lv_has ls 4 [(0, .ref (q (0))), (1, .int x1), (2, .ref (q (39+4*c2))), (3, .int x3)]) (hp : sX8_runSlot_38 n c2 x1 x3 σ = some (r, u)), W p l e rmX8_runSlot s m args below meth c H locs 0 0 (MQ below (gQv D vwCl (gS 78 q (TX cy q) u) (gA 78 q)) args s 0 0 (gA 78 q)) (F0 m 38 ls []) := by
  obtain ⟨hx, hb, hr, hml, hown, hts, hlocks⟩ := id C0
  intro n
  induction n with
  | zero =>
    intro H locs σ c2 x1 x3 hc2 hP hS ls hl hp
    cases hp
  | succ n ih =>
    intro H locs σ c2 x1 x3 hc2 hP hS ls hl hp
    unfold sX8_runSlot_38 at hp
    refine lv_iload_n hx hb dX8_runSlot_38 rfl (lv_at hl 3 rfl) ?_
    refine lv_bipush (v := (30 : Int32)) hx hb dX8_runSlot_39 (by decide) ?_
    refine lv_icmp_ge (tgt := 72) hx hb dX8_runSlot_41 (by decide) (fun hcd15 => ?_) (fun hcd15 => ?_)
    · have hp := o_t hp hcd15
      exact kX8_runSlot_72 C0 hK hJ hc2 hP hS (lv_sub hl [0, 2] rfl) hp
    · have hp := o_f hp hcd15
      refine lv_aload_n hx hb dX8_runSlot_44 rfl (lv_at hl 0 rfl) ?_
      refine lv_aload_n hx hb dX8_runSlot_45 rfl (lv_at hl 2 rfl) ?_
      obtain ⟨⟨r16, u17⟩, hq18, hp⟩ := o_b hp
      refine g_cVi (As := [.ref (q (39+4*c2))]) (rest := []) hx hb hml hown hts hK hP hS (mX8_isAnyLeft l hJ hc2 hq18) (cwV 1 hts gX8_runSlot_X8_isAnyLeft rfl rfl rfl nVX8_isAnyLeft ⟨Nat.le_of_ble_eq_true rfl, Nat.le_of_ble_eq_true rfl⟩) (g_recv hK hP (kk_Tri) (ce_Tri) rfl) rfl hl.1 rfl (Nat.le_of_ble_eq_true rfl) dX8_runSlot_46 ⟨Nat.le_of_ble_eq_true rfl, Nat.le_of_ble_eq_true rfl⟩ (fun H locs hP hS => ?_)
      exact kX8_runSlot_49 C0 hK hJ ih hc2 hP hS hl hp
def sX8_runSlot_36 (c2 : Nat) (x1 : Int32) (σ : TS) : Option (Int32 × TS) := sX8_runSlot_38 31 c2 x1 ((0 : Int32)) σ
set_option maxHeartbeats 4000000 in
set_option maxRecDepth 100000 in
theorem kX8_runSlot_36 {r : Int32} {u : TS} (C0 : gC RX8 cX8_runSlot 4 none wsX8_runSlot p s m args meth c) (hK : va_K D vwCl (tyL cy) s) (hJ : gJ 78 q) {H : Heap} {locs : List Loc} {σ : TS} {c2 : Nat} {x1 : Int32} (hc2 : c2 < 3) (hP : va_P D vwCl (gS 78 q (TX cy q) σ) H) (hS : va_S (gA 78 q) s.heap H locs) {ls : Array Slot} (hl : lv_has ls 4 [(0, .ref (q (0))), (1, .int x1), (2, .ref (q (39+4*c2)))]) (hp : sX8_runSlot_36 c2 x1 σ = some (r, u)) : W p l e rmX8_runSlot s m args below meth c H locs 0 0 (MQ below (gQv D vwCl (gS 78 q (TX cy q) u) (gA 78 q)) args s 0 0 (gA 78 q)) (F0 m 36 ls []) := by
  obtain ⟨hx, hb, hr, hml, hown, hts, hlocks⟩ := id C0
  unfold sX8_runSlot_36 at hp
  refine lv_iconst (v := (0 : Int32)) hx hb dX8_runSlot_36 (by decide) ?_
  refine lv_istore_n (lv' := [(3, .int ((0 : Int32))), (0, .ref (q (0))), (1, .int x1), (2, .ref (q (39+4*c2)))]) hx hb dX8_runSlot_37 rfl hl (by decide) rfl (fun ls hl => ?_)
  exact kX8_runSlot_38 C0 hK hJ _ _ _ _ _ _ _ hc2 hP hS _ (lv_sub hl [1, 2, 3, 0] rfl) hp
def sX8_runSlot_9 : Nat → Nat → Int32 → Int32 → TS → Option (Int32 × TS)
  | 0, _, _, _, _ => none
  | n + 1, c2, x1, x3, σ => (if ((3 : Int32)) ≤ x3 then ((sX1_begin 3 σ).bind (fun z => sX8_runSlot_36 c2 x1 z.2)) else (if vin x3 3 = true then ((sX1_begin (x3.toNatClampNeg) σ).bind (fun z => sX8_runSlot_23 (sX8_runSlot_9 n) c2 x1 x3 z.2)) else none))
set_option maxHeartbeats 4000000 in
set_option maxRecDepth 100000 in
theorem kX8_runSlot_9 {r : Int32} {u : TS} (C0 : gC RX8 cX8_runSlot 4 none wsX8_runSlot p s m args meth c) (hK : va_K D vwCl (tyL cy) s) (hJ : gJ 78 q) : ∀ (n : Nat) (H : Heap) (locs : List Loc) (σ : TS) (c2 : Nat) (x1 : Int32) (x3 : Int32) (hc2 : c2 < 3) (hP : va_P D vwCl (gS 78 q (TX cy q) σ) H) (hS : va_S (gA 78 q) s.heap H locs) (ls : Array Slot) (hl : lv_has ls 4 [(0, .ref (q (0))), (1, .int x1), (2, .ref (q (39+4*c2))), (3, .int x3)]) (hp : sX8_runSlot_9 n c2 x1 x3 σ = some (r, u)), W p l e rmX8_runSlot s m args below meth c H locs 0 0 (MQ below (gQv D vwCl (gS 78 q (TX cy q) u) (gA 78 q)) args s 0 0 (gA 78 q)) (F0 m 9 ls []) := by
  obtain ⟨hx, hb, hr, hml, hown, hts, hlocks⟩ := id C0
  intro n
  induction n with
  | zero =>
    intro H locs σ c2 x1 x3 hc2 hP hS ls hl hp
    cases hp
  | succ n ih =>
    intro H locs σ c2 x1 x3 hc2 hP hS ls hl hp
    unfold sX8_runSlot_9 at hp
    refine lv_iload_n hx hb dX8_runSlot_9 rfl (lv_at hl 3 rfl) ?_
    refine lv_iconst (v := (3 : Int32)) hx hb dX8_runSlot_10 (by decide) ?_
    refine lv_icmp_ge (tgt := 29) hx hb dX8_runSlot_11 (by decide) (fun hcd19 => ?_) (fun hcd19 => ?_)
    · have hp := o_t hp hcd19
      refine lv_aload_n hx hb dX8_runSlot_29 rfl (lv_at hl 0 rfl) ?_
      refine g_get (v := .ref (q (15+6*3))) hx hb hts miX8_runSlot_X8 hown hK hP (kk_Tri) (ce_Tri) rfl 1 (by decide) mwX8_runSlot_1 rfl dX8_runSlot_30 ?_
      obtain ⟨⟨r20, u21⟩, hq22, hp⟩ := o_b hp
      refine g_cVv (As := []) (rest := []) hx hb hml hown hts hK hP hS (mX1_begin l hJ (by decide) hq22) (cwV 0 hts gX8_runSlot_X1_begin rfl rfl rfl nVX1_begin ⟨Nat.le_of_ble_eq_true rfl, Nat.le_of_ble_eq_true rfl⟩) (g_recv hK hP (kk_Comp (by decide)) (ce_Comp (by decide)) rfl) rfl hl.1 rfl (Nat.le_of_ble_eq_true rfl) dX8_runSlot_33 ⟨Nat.le_of_ble_eq_true rfl, Nat.le_of_ble_eq_true rfl⟩ (fun H locs hP hS => ?_)
      exact kX8_runSlot_36 C0 hK hJ hc2 hP hS (lv_sub hl [0, 1, 2] rfl) hp
    · have hp := o_f hp hcd19
      refine lv_aload_n hx hb dX8_runSlot_14 rfl (lv_at hl 0 rfl) ?_
      refine g_get (v := .ref (q (1))) hx hb hts miX8_runSlot_X8 hown hK hP (kk_Tri) (ce_Tri) rfl 0 (by decide) mwX8_runSlot_2 rfl dX8_runSlot_15 ?_
      refine lv_iload_n hx hb dX8_runSlot_18 rfl (lv_at hl 3 rfl) ?_
      obtain ⟨hi23, hp⟩ := o_chk hp
      have hn24 : x3.toNatClampNeg < 4 := Nat.lt_of_lt_of_le (vin_lt hi23) (by decide)
      refine g_aald (j := x3.toNatClampNeg) hx hb hK hP (kk_CompArr) (ce_CompArr) 3 rfl rfl (vin_of hi23) rfl dX8_runSlot_19 ?_
      obtain ⟨⟨r25, u26⟩, hq27, hp⟩ := o_b hp
      refine g_cVv (As := []) (rest := []) hx hb hml hown hts hK hP hS (mX1_begin l hJ hn24 hq27) (cwV 0 hts gX8_runSlot_X1_begin rfl rfl rfl nVX1_begin ⟨Nat.le_of_ble_eq_true rfl, Nat.le_of_ble_eq_true rfl⟩) (g_recv hK hP (kk_Comp hn24) (ce_Comp hn24) rfl) rfl hl.1 rfl (Nat.le_of_ble_eq_true rfl) dX8_runSlot_20 ⟨Nat.le_of_ble_eq_true rfl, Nat.le_of_ble_eq_true rfl⟩ (fun H locs hP hS => ?_)
      exact kX8_runSlot_23 C0 hK hJ ih hc2 hP hS hl hp
def sX8_runSlot_0 (x1 : Int32) (σ : TS) : Option (Int32 × TS) := (if vin x1 3 = true then sX8_runSlot_9 4 (x1.toNatClampNeg) x1 ((0 : Int32)) σ else none)
set_option maxHeartbeats 4000000 in
set_option maxRecDepth 100000 in
theorem kX8_runSlot_0 {r : Int32} {u : TS} (C0 : gC RX8 cX8_runSlot 4 none wsX8_runSlot p s m args meth c) (hK : va_K D vwCl (tyL cy) s) (hJ : gJ 78 q) {H : Heap} {locs : List Loc} {σ : TS} {x1 : Int32} (hP : va_P D vwCl (gS 78 q (TX cy q) σ) H) (hS : va_S (gA 78 q) s.heap H locs) {ls : Array Slot} (hl : lv_has ls 4 [(0, .ref (q (0))), (1, .int x1)]) (hp : sX8_runSlot_0 x1 σ = some (r, u)) : W p l e rmX8_runSlot s m args below meth c H locs 0 0 (MQ below (gQv D vwCl (gS 78 q (TX cy q) u) (gA 78 q)) args s 0 0 (gA 78 q)) (F0 m 0 ls []) := by
  obtain ⟨hx, hb, hr, hml, hown, hts, hlocks⟩ := id C0
  unfold sX8_runSlot_0 at hp
  refine lv_aload_n hx hb dX8_runSlot_0 rfl (lv_at hl 0 rfl) ?_
  refine g_get (v := .ref (q (5))) hx hb hts miX8_runSlot_X8 hown hK hP (kk_Tri) (ce_Tri) rfl 2 (by decide) mwX8_runSlot_3 rfl dX8_runSlot_1 ?_
  refine lv_iload_n hx hb dX8_runSlot_4 rfl (lv_at hl 1 rfl) ?_
  obtain ⟨hi28, hp⟩ := o_chk hp
  have hn29 : x1.toNatClampNeg < 3 := Nat.lt_of_lt_of_le (vin_lt hi28) (by decide)
  refine g_aald (j := x1.toNatClampNeg) hx hb hK hP (kk_ProgArr) (ce_ProgArr) 4 rfl rfl (vin_of hi28) rfl dX8_runSlot_5 ?_
  refine lv_astore_n (lv' := [(2, .ref (q (39+4*x1.toNatClampNeg))), (0, .ref (q (0))), (1, .int x1)]) hx hb dX8_runSlot_6 rfl hl (by decide) rfl (fun ls hl => ?_)
  refine lv_iconst (v := (0 : Int32)) hx hb dX8_runSlot_7 (by decide) ?_
  refine lv_istore_n (lv' := [(3, .int ((0 : Int32))), (2, .ref (q (39+4*x1.toNatClampNeg))), (0, .ref (q (0))), (1, .int x1)]) hx hb dX8_runSlot_8 rfl hl (by decide) rfl (fun ls hl => ?_)
  exact kX8_runSlot_9 C0 hK hJ _ _ _ _ _ _ _ hn29 hP hS _ (lv_sub hl [2, 3, 1, 0] rfl) hp
def sX8_runSlot (x1 : Int32) (σ : TS) : Option (Int32 × TS) := sX8_runSlot_0 x1 σ
theorem nVX8_runSlot : yX8_runSlot.cls = RX8 ∧ yX8_runSlot.cls ≠ "java/lang/invoke/MethodHandle" ∧ yX8_runSlot.cls ≠ "java/lang/invoke/VarHandle" ∧ (parseMethodDescriptor yX8_runSlot.desc).map (fun d => d.parameters.length) = some 1 := by decide +kernel
set_option maxHeartbeats 4000000 in
set_option maxRecDepth 100000 in
theorem mX8_runSlot (l : Launch) (hJ : gJ 78 q) {x1 : Int32} {σ : TS} {r : Int32} {u : TS} (hp : sX8_runSlot x1 σ = some (r, u)) : Met l yX8_runSlot wsX8_runSlot rmX8_runSlot (va_Pc [.ref (q (0)), .int x1] (gPre D vwCl (tyL cy) (gS 78 q (TX cy q) σ))) (gQv D vwCl (gS 78 q (TX cy q) u) (gA 78 q)) 0 0 (gA 78 q) := by
  refine Met.ofW (cc := cX8_runSlot) (maxL := 4) (ret := none) (by decide +kernel) rfl ?_
  intro p e s m args below meth c s₁ B hml hv
  obtain ⟨rfl, hP, hK⟩ := hv
  have hl := lv_entry ([.ref (q (0)), .int x1]) (n := 4) (Nat.le_of_ble_eq_true rfl)
  rw [lg_entry_eq]
  generalize (lg_sl ([.ref (q (0)), .int x1]) ++ List.replicate (4 - (lg_sl ([.ref (q (0)), .int x1])).length) Slot.unset).toArray = ls at hl ⊢
  have hl : lv_has ls 4 [(0, .ref (q (0))), (1, .int x1)] := hl
  exact kX8_runSlot_0 ⟨B.exec, B.bytes, B.returns, hml, findClass_of_methodNamed B.named, atoms_spec (ws := wsX8_runSlot) B.pre, B.notSynchronized⟩ hK hJ  hP va_S.rf hl hp
theorem miX8_scrub_X1 : ∀ w ∈ u_ws RX1 TX1 14, w ∈ wsX8_scrub := by decide +kernel
theorem miX8_scrub_X8 : ∀ w ∈ u_ws RX8 TX8 16, w ∈ wsX8_scrub := by decide +kernel
theorem mwX8_scrub_0 : Cond.fieldLink RX8 11 "Triplane" "computers" "[LTriplane$Computer;" ∈ wsX8_scrub := by decide +kernel
theorem mwX8_scrub_1 : Cond.fieldLink RX8 162 "Triplane$Computer" "isRunning" "Z" ∈ wsX8_scrub := by decide +kernel
theorem mwX8_scrub_2 : Cond.fieldLink RX8 137 "Triplane$Computer" "memory" "LTriplane$Memory;" ∈ wsX8_scrub := by decide +kernel
theorem mwX8_scrub_3 : Cond.fieldLink RX8 63 "Triplane" "frames" "I" ∈ wsX8_scrub := by decide +kernel
abbrev rmX8_scrub : Room := { frames := 3, cells := 0, slots := 0, locals := 68 }
def sX8_scrub_52 (K12 : Int32 → Int32 → TS → Option (Int32 × TS)) (x1 : Int32) (x2 : Int32) (σ : TS) : Option (Int32 × TS) := K12 x1 (x2 + (1 : Int32)) σ
set_option maxHeartbeats 4000000 in
set_option maxRecDepth 100000 in
theorem kX8_scrub_52 {r : Int32} {u : TS} {K12 : Int32 → Int32 → TS → Option (Int32 × TS)} (C0 : gC RX8 cX8_scrub 3 none wsX8_scrub p s m args meth c) (hK : va_K D vwCl (tyL cy) s) (hJ : gJ 78 q) (kh12 : ∀ (H : Heap) (locs : List Loc) (σ : TS) (x1 : Int32) (x2 : Int32) (hP : va_P D vwCl (gS 78 q (TX cy q) σ) H) (hS : va_S (gA 78 q) s.heap H locs) (ls : Array Slot) (hl : lv_has ls 3 [(0, .ref (q (0))), (1, .int x1), (2, .int x2)]) (hp : K12 x1 x2 σ = some (r, u)), W p l e rmX8_scrub s m args below meth c H locs 0 0 (MQ below (gQv D vwCl (gS 78 q (TX cy q) u) (gA 78 q)) args s 0 0 (gA 78 q)) (F0 m 12 ls [])) {H : Heap} {locs : List Loc} {σ : TS} {x1 : Int32} {x2 : Int32} (hP : va_P D vwCl (gS 78 q (TX cy q) σ) H) (hS : va_S (gA 78 q) s.heap H locs) {ls : Array Slot} (hl : lv_has ls 3 [(0, .ref (q (0))), (1, .int x1), (2, .int x2)]) (hp : sX8_scrub_52 K12 x1 x2 σ = some (r, u)) : W p l e rmX8_scrub s m args below meth c H locs 0 0 (MQ below (gQv D vwCl (gS 78 q (TX cy q) u) (gA 78 q)) args s 0 0 (gA 78 q)) (F0 m 52 ls []) := by
  obtain ⟨hx, hb, hr, hml, hown, hts, hlocks⟩ := id C0
  unfold sX8_scrub_52 at hp
  refine lv_iinc (v := x2 + (1 : Int32)) (lv' := [(2, .int (x2 + (1 : Int32))), (0, .ref (q (0))), (1, .int x1)]) hx hb dX8_scrub_52 hl (k := 2) rfl rfl (by decide) rfl (fun ls hl => ?_)
  refine lv_goto (tgt := 12) hx hb dX8_scrub_55 (by decide) ?_
  exact kh12 _ _ _ _ _  hP hS _ (lv_sub hl [1, 2, 0] rfl) hp
def sX8_scrub_42 (K12 : Int32 → Int32 → TS → Option (Int32 × TS)) (x1 : Int32) (x2 : Int32) (sx0 : Int32) (σ : TS) : Option (Int32 × TS) := (if sx0 = 0 then ((sX8_shutOff x2 ((109 : Int32)) σ).bind (fun z => sX8_scrub_52 K12 x1 x2 z.2)) else sX8_scrub_52 K12 x1 x2 σ)
set_option maxHeartbeats 4000000 in
set_option maxRecDepth 100000 in
theorem kX8_scrub_42 {r : Int32} {u : TS} {K12 : Int32 → Int32 → TS → Option (Int32 × TS)} (C0 : gC RX8 cX8_scrub 3 none wsX8_scrub p s m args meth c) (hK : va_K D vwCl (tyL cy) s) (hJ : gJ 78 q) (kh12 : ∀ (H : Heap) (locs : List Loc) (σ : TS) (x1 : Int32) (x2 : Int32) (hP : va_P D vwCl (gS 78 q (TX cy q) σ) H) (hS : va_S (gA 78 q) s.heap H locs) (ls : Array Slot) (hl : lv_has ls 3 [(0, .ref (q (0))), (1, .int x1), (2, .int x2)]) (hp : K12 x1 x2 σ = some (r, u)), W p l e rmX8_scrub s m args below meth c H locs 0 0 (MQ below (gQv D vwCl (gS 78 q (TX cy q) u) (gA 78 q)) args s 0 0 (gA 78 q)) (F0 m 12 ls [])) {H : Heap} {locs : List Loc} {σ : TS} {x1 : Int32} {x2 : Int32} {sx0 : Int32} (hP : va_P D vwCl (gS 78 q (TX cy q) σ) H) (hS : va_S (gA 78 q) s.heap H locs) {ls : Array Slot} (hl : lv_has ls 3 [(0, .ref (q (0))), (1, .int x1), (2, .int x2)]) (hp : sX8_scrub_42 K12 x1 x2 sx0 σ = some (r, u)) : W p l e rmX8_scrub s m args below meth c H locs 0 0 (MQ below (gQv D vwCl (gS 78 q (TX cy q) u) (gA 78 q)) args s 0 0 (gA 78 q)) (F0 m 42 ls [.int sx0]) := by
  obtain ⟨hx, hb, hr, hml, hown, hts, hlocks⟩ := id C0
  unfold sX8_scrub_42 at hp
  refine lv_if_ne (tgt := 52) hx hb dX8_scrub_42 (by decide) (fun hcd1 => ?_) (fun hcd1 => ?_)
  · have hp := o_f hp hcd1
    exact kX8_scrub_52 C0 hK hJ kh12  hP hS hl hp
  · have hp := o_t hp hcd1
    refine lv_aload_n hx hb dX8_scrub_45 rfl (lv_at hl 0 rfl) ?_
    refine lv_iload_n hx hb dX8_scrub_46 rfl (lv_at hl 2 rfl) ?_
    refine lv_bipush (v := (109 : Int32)) hx hb dX8_scrub_47 (by decide) ?_
    obtain ⟨⟨r2, u3⟩, hq4, hp⟩ := o_b hp
    refine g_cVv (As := [.int x2, .int ((109 : Int32))]) (rest := []) hx hb hml hown hts hK hP hS (mX8_shutOff l hJ hq4) (cwV 2 hts gX8_scrub_X8_shutOff rfl rfl rfl nVX8_shutOff ⟨Nat.le_of_ble_eq_true rfl, Nat.le_of_ble_eq_true rfl⟩) (g_recv hK hP (kk_Tri) (ce_Tri) rfl) rfl hl.1 rfl (Nat.le_of_ble_eq_true rfl) dX8_scrub_49 ⟨Nat.le_of_ble_eq_true rfl, Nat.le_of_ble_eq_true rfl⟩ (fun H locs hP hS => ?_)
    exact kX8_scrub_52 C0 hK hJ kh12  hP hS hl hp
def sX8_scrub_12 : Nat → Int32 → Int32 → TS → Option (Int32 × TS)
  | 0, _, _, _ => none
  | n + 1, x1, x2, σ => (if ((3 : Int32)) ≤ x2 then some (0, σ) else (if vin x2 3 = true then (if (σ (15+6*(x2.toNatClampNeg)) 6) = 0 then sX8_scrub_52 (sX8_scrub_12 n) x1 x2 σ else ((sX4_mend ((x2.toNatClampNeg)) x1 σ).bind (fun z => sX8_scrub_42 (sX8_scrub_12 n) x1 x2 z.1 z.2))) else none))
set_option maxHeartbeats 4000000 in
set_option maxRecDepth 100000 in
theorem kX8_scrub_12 {r : Int32} {u : TS} (C0 : gC RX8 cX8_scrub 3 none wsX8_scrub p s m args meth c) (hK : va_K D vwCl (tyL cy) s) (hJ : gJ 78 q) : ∀ (n : Nat) (H : Heap) (locs : List Loc) (σ : TS) (x1 : Int32) (x2 : Int32) (hP : va_P D vwCl (gS 78 q (TX cy q) σ) H) (hS : va_S (gA 78 q) s.heap H locs) (ls : Array Slot) (hl : lv_has ls 3 [(0, .ref (q (0))), (1, .int x1), (2, .int x2)]) (hp : sX8_scrub_12 n x1 x2 σ = some (r, u)), W p l e rmX8_scrub s m args below meth c H locs 0 0 (MQ below (gQv D vwCl (gS 78 q (TX cy q) u) (gA 78 q)) args s 0 0 (gA 78 q)) (F0 m 12 ls []) := by
  obtain ⟨hx, hb, hr, hml, hown, hts, hlocks⟩ := id C0
  intro n
  induction n with
  | zero =>
    intro H locs σ x1 x2 hP hS ls hl hp
    cases hp
  | succ n ih =>
    intro H locs σ x1 x2 hP hS ls hl hp
    unfold sX8_scrub_12 at hp
    refine lv_iload_n hx hb dX8_scrub_12 rfl (lv_at hl 2 rfl) ?_
    refine lv_iconst (v := (3 : Int32)) hx hb dX8_scrub_13 (by decide) ?_
    refine lv_icmp_ge (tgt := 58) hx hb dX8_scrub_14 (by decide) (fun hcd5 => ?_) (fun hcd5 => ?_)
    · have hp := o_t hp hcd5
      obtain ⟨rfl, rfl⟩ := o_r hp
      exact W.vret hx hb hr (fun t ht hW => ⟨⟨(), rfl, trivial, by subst ht; exact hP⟩, hS.F ht⟩) hS.2.2 dX8_scrub_58
    · have hp := o_f hp hcd5
      refine lv_aload_n hx hb dX8_scrub_17 rfl (lv_at hl 0 rfl) ?_
      refine g_get (v := .ref (q (1))) hx hb hts miX8_scrub_X8 hown hK hP (kk_Tri) (ce_Tri) rfl 0 (by decide) mwX8_scrub_0 rfl dX8_scrub_18 ?_
      refine lv_iload_n hx hb dX8_scrub_21 rfl (lv_at hl 2 rfl) ?_
      obtain ⟨hi6, hp⟩ := o_chk hp
      have hn7 : x2.toNatClampNeg < 4 := Nat.lt_of_lt_of_le (vin_lt hi6) (by decide)
      refine g_aald (j := x2.toNatClampNeg) hx hb hK hP (kk_CompArr) (ce_CompArr) 3 rfl rfl (vin_of hi6) rfl dX8_scrub_22 ?_
      refine g_get (v := .int (σ (15+6*(x2.toNatClampNeg)) 6)) hx hb hts miX8_scrub_X1 hown hK hP (kk_Comp hn7) (ce_Comp hn7) rfl 6 (by decide) mwX8_scrub_1 rfl dX8_scrub_23 ?_
      refine lv_if_eq (tgt := 52) hx hb dX8_scrub_26 (by decide) (fun hcd8 => ?_) (fun hcd8 => ?_)
      · have hp := o_t hp hcd8
        exact kX8_scrub_52 C0 hK hJ ih  hP hS hl hp
      · have hp := o_f hp hcd8
        refine lv_aload_n hx hb dX8_scrub_29 rfl (lv_at hl 0 rfl) ?_
        refine g_get (v := .ref (q (1))) hx hb hts miX8_scrub_X8 hown hK hP (kk_Tri) (ce_Tri) rfl 0 (by decide) mwX8_scrub_0 rfl dX8_scrub_30 ?_
        refine lv_iload_n hx hb dX8_scrub_33 rfl (lv_at hl 2 rfl) ?_
        have hn9 : x2.toNatClampNeg < 4 := Nat.lt_of_lt_of_le (vin_lt hi6) (by decide)
        refine g_aald (j := x2.toNatClampNeg) hx hb hK hP (kk_CompArr) (ce_CompArr) 3 rfl rfl (vin_of hi6) rfl dX8_scrub_34 ?_
        refine g_get (v := .ref (q (16+6*(x2.toNatClampNeg)))) hx hb hts miX8_scrub_X1 hown hK hP (kk_Comp hn9) (ce_Comp hn9) rfl 0 (by decide) mwX8_scrub_2 rfl dX8_scrub_35 ?_
        refine lv_iload_n hx hb dX8_scrub_38 rfl (lv_at hl 1 rfl) ?_
        obtain ⟨⟨r10, u11⟩, hq12, hp⟩ := o_b hp
        refine g_cVi (As := [.int x1]) (rest := []) hx hb hml hown hts hK hP hS (mX4_mend l hJ hn9 hq12) (cwV 1 hts gX8_scrub_X4_mend rfl rfl rfl nVX4_mend ⟨Nat.le_of_ble_eq_true rfl, Nat.le_of_ble_eq_true rfl⟩) (g_recv hK hP (kk_Mem hn9) (ce_Mem hn9) rfl) rfl hl.1 rfl (Nat.le_of_ble_eq_true rfl) dX8_scrub_39 ⟨Nat.le_of_ble_eq_true rfl, Nat.le_of_ble_eq_true rfl⟩ (fun H locs hP hS => ?_)
        exact kX8_scrub_42 C0 hK hJ ih  hP hS hl hp
def sX8_scrub_9 (sx0 : Int32) (σ : TS) : Option (Int32 × TS) := sX8_scrub_12 4 sx0 ((0 : Int32)) σ
set_option maxHeartbeats 4000000 in
set_option maxRecDepth 100000 in
theorem kX8_scrub_9 {r : Int32} {u : TS} (C0 : gC RX8 cX8_scrub 3 none wsX8_scrub p s m args meth c) (hK : va_K D vwCl (tyL cy) s) (hJ : gJ 78 q) {H : Heap} {locs : List Loc} {σ : TS} {sx0 : Int32} (hP : va_P D vwCl (gS 78 q (TX cy q) σ) H) (hS : va_S (gA 78 q) s.heap H locs) {ls : Array Slot} (hl : lv_has ls 3 [(0, .ref (q (0)))]) (hp : sX8_scrub_9 sx0 σ = some (r, u)) : W p l e rmX8_scrub s m args below meth c H locs 0 0 (MQ below (gQv D vwCl (gS 78 q (TX cy q) u) (gA 78 q)) args s 0 0 (gA 78 q)) (F0 m 9 ls [.int sx0]) := by
  obtain ⟨hx, hb, hr, hml, hown, hts, hlocks⟩ := id C0
  unfold sX8_scrub_9 at hp
  refine lv_istore_n (lv' := [(1, .int sx0), (0, .ref (q (0)))]) hx hb dX8_scrub_9 rfl hl (by decide) rfl (fun ls hl => ?_)
  refine lv_iconst (v := (0 : Int32)) hx hb dX8_scrub_10 (by decide) ?_
  refine lv_istore_n (lv' := [(2, .int ((0 : Int32))), (1, .int sx0), (0, .ref (q (0)))]) hx hb dX8_scrub_11 rfl hl (by decide) rfl (fun ls hl => ?_)
  exact kX8_scrub_12 C0 hK hJ _ _ _ _ _ _  hP hS _ (lv_sub hl [2, 1, 0] rfl) hp
def sX8_scrub_0 (σ : TS) : Option (Int32 × TS) := ((sJ9_floorMod_7cf53 (σ 0 10) ((18 : Int32)) σ).bind (fun z => sX8_scrub_9 z.1 z.2))
set_option maxHeartbeats 4000000 in
set_option maxRecDepth 100000 in
theorem kX8_scrub_0 {r : Int32} {u : TS} (C0 : gC RX8 cX8_scrub 3 none wsX8_scrub p s m args meth c) (hK : va_K D vwCl (tyL cy) s) (hJ : gJ 78 q) {H : Heap} {locs : List Loc} {σ : TS} (hP : va_P D vwCl (gS 78 q (TX cy q) σ) H) (hS : va_S (gA 78 q) s.heap H locs) {ls : Array Slot} (hl : lv_has ls 3 [(0, .ref (q (0)))]) (hp : sX8_scrub_0 σ = some (r, u)) : W p l e rmX8_scrub s m args below meth c H locs 0 0 (MQ below (gQv D vwCl (gS 78 q (TX cy q) u) (gA 78 q)) args s 0 0 (gA 78 q)) (F0 m 0 ls []) := by
  obtain ⟨hx, hb, hr, hml, hown, hts, hlocks⟩ := id C0
  unfold sX8_scrub_0 at hp
  refine lv_aload_n hx hb dX8_scrub_0 rfl (lv_at hl 0 rfl) ?_
  refine g_get (v := .int (σ 0 10)) hx hb hts miX8_scrub_X8 hown hK hP (kk_Tri) (ce_Tri) rfl 10 (by decide) mwX8_scrub_3 rfl dX8_scrub_1 ?_
  refine lv_bipush (v := (18 : Int32)) hx hb dX8_scrub_4 (by decide) ?_
  obtain ⟨⟨r13, u14⟩, hq15, hp⟩ := o_b hp
  refine g_cSi (As := [.int (σ 0 10), .int ((18 : Int32))]) (rest := []) hx hb hml hown hts hK hP hS (mJ9_floorMod_7cf53 l hJ hq15) (va_cwS 2 hts gX8_scrub_J9_floorMod_7cf53 rfl rfl rfl nVJ9_floorMod_7cf53 ⟨Nat.le_of_ble_eq_true rfl, Nat.le_of_ble_eq_true rfl⟩) rfl hl.1 rfl (Nat.le_of_ble_eq_true rfl) dX8_scrub_6 ⟨Nat.le_of_ble_eq_true rfl, Nat.le_of_ble_eq_true rfl⟩ (fun H locs hP hS => ?_)
  exact kX8_scrub_9 C0 hK hJ  hP hS hl hp
def sX8_scrub (σ : TS) : Option (Int32 × TS) := sX8_scrub_0 σ
theorem nVX8_scrub : yX8_scrub.cls = RX8 ∧ yX8_scrub.cls ≠ "java/lang/invoke/MethodHandle" ∧ yX8_scrub.cls ≠ "java/lang/invoke/VarHandle" ∧ (parseMethodDescriptor yX8_scrub.desc).map (fun d => d.parameters.length) = some 0 := by decide +kernel
set_option maxHeartbeats 4000000 in
set_option maxRecDepth 100000 in
theorem mX8_scrub (l : Launch) (hJ : gJ 78 q) {σ : TS} {r : Int32} {u : TS} (hp : sX8_scrub σ = some (r, u)) : Met l yX8_scrub wsX8_scrub rmX8_scrub (va_Pc [.ref (q (0))] (gPre D vwCl (tyL cy) (gS 78 q (TX cy q) σ))) (gQv D vwCl (gS 78 q (TX cy q) u) (gA 78 q)) 0 0 (gA 78 q) := by
  refine Met.ofW (cc := cX8_scrub) (maxL := 3) (ret := none) (by decide +kernel) rfl ?_
  intro p e s m args below meth c s₁ B hml hv
  obtain ⟨rfl, hP, hK⟩ := hv
  have hl := lv_entry ([.ref (q (0))]) (n := 3) (Nat.le_of_ble_eq_true rfl)
  rw [lg_entry_eq]
  generalize (lg_sl ([.ref (q (0))]) ++ List.replicate (3 - (lg_sl ([.ref (q (0))])).length) Slot.unset).toArray = ls at hl ⊢
  have hl : lv_has ls 3 [(0, .ref (q (0)))] := hl
  exact kX8_scrub_0 ⟨B.exec, B.bytes, B.returns, hml, findClass_of_methodNamed B.named, atoms_spec (ws := wsX8_scrub) B.pre, B.notSynchronized⟩ hK hJ  hP va_S.rf hl hp
theorem miX8_tickClocks_X1 : ∀ w ∈ u_ws RX1 TX1 14, w ∈ wsX8_tickClocks := by decide +kernel
theorem miX8_tickClocks_X8 : ∀ w ∈ u_ws RX8 TX8 16, w ∈ wsX8_tickClocks := by decide +kernel
theorem mwX8_tickClocks_0 : Cond.fieldLink RX8 11 "Triplane" "computers" "[LTriplane$Computer;" ∈ wsX8_tickClocks := by decide +kernel
theorem mwX8_tickClocks_1 : Cond.fieldLink RX8 222 "Triplane$Computer" "clockNow" "I" ∈ wsX8_tickClocks := by decide +kernel
theorem mwX8_tickClocks_2 : Cond.fieldLink RX8 216 "Triplane$Computer" "driftPerFrame" "I" ∈ wsX8_tickClocks := by decide +kernel
abbrev rmX8_tickClocks : Room := { frames := 0, cells := 0, slots := 0, locals := 0 }
def sX8_tickClocks_2 : Nat → Int32 → TS → Option (Int32 × TS)
  | 0, _, _ => none
  | n + 1, x1, σ => (if ((3 : Int32)) ≤ x1 then some (0, σ) else (if vin x1 3 = true then sX8_tickClocks_2 n (x1 + (1 : Int32)) (st2 σ (15+6*(x1.toNatClampNeg)) 2 ((σ (15+6*(x1.toNatClampNeg)) 2) + (σ (15+6*(x1.toNatClampNeg)) 3))) else none))
set_option maxHeartbeats 4000000 in
set_option maxRecDepth 100000 in
theorem kX8_tickClocks_2 {r : Int32} {u : TS} (C0 : gC RX8 cX8_tickClocks 2 none wsX8_tickClocks p s m args meth c) (hK : va_K D vwCl (tyL cy) s) (hJ : gJ 78 q) : ∀ (n : Nat) (H : Heap) (locs : List Loc) (σ : TS) (x1 : Int32) (hP : va_P D vwCl (gS 78 q (TX cy q) σ) H) (hS : va_S (gA 78 q) s.heap H locs) (ls : Array Slot) (hl : lv_has ls 2 [(0, .ref (q (0))), (1, .int x1)]) (hp : sX8_tickClocks_2 n x1 σ = some (r, u)), W p l e rmX8_tickClocks s m args below meth c H locs 0 0 (MQ below (gQv D vwCl (gS 78 q (TX cy q) u) (gA 78 q)) args s 0 0 (gA 78 q)) (F0 m 2 ls []) := by
  obtain ⟨hx, hb, hr, hml, hown, hts, hlocks⟩ := id C0
  intro n
  induction n with
  | zero =>
    intro H locs σ x1 hP hS ls hl hp
    cases hp
  | succ n ih =>
    intro H locs σ x1 hP hS ls hl hp
    unfold sX8_tickClocks_2 at hp
    refine lv_iload_n hx hb dX8_tickClocks_2 rfl (lv_at hl 1 rfl) ?_
    refine lv_iconst (v := (3 : Int32)) hx hb dX8_tickClocks_3 (by decide) ?_
    refine lv_icmp_ge (tgt := 36) hx hb dX8_tickClocks_4 (by decide) (fun hcd1 => ?_) (fun hcd1 => ?_)
    · have hp := o_t hp hcd1
      obtain ⟨rfl, rfl⟩ := o_r hp
      exact W.vret hx hb hr (fun t ht hW => ⟨⟨(), rfl, trivial, by subst ht; exact hP⟩, hS.F ht⟩) hS.2.2 dX8_tickClocks_36
    · have hp := o_f hp hcd1
      refine lv_aload_n hx hb dX8_tickClocks_7 rfl (lv_at hl 0 rfl) ?_
      refine g_get (v := .ref (q (1))) hx hb hts miX8_tickClocks_X8 hown hK hP (kk_Tri) (ce_Tri) rfl 0 (by decide) mwX8_tickClocks_0 rfl dX8_tickClocks_8 ?_
      refine lv_iload_n hx hb dX8_tickClocks_11 rfl (lv_at hl 1 rfl) ?_
      obtain ⟨hi2, hp⟩ := o_chk hp
      have hn3 : x1.toNatClampNeg < 4 := Nat.lt_of_lt_of_le (vin_lt hi2) (by decide)
      refine g_aald (j := x1.toNatClampNeg) hx hb hK hP (kk_CompArr) (ce_CompArr) 3 rfl rfl (vin_of hi2) rfl dX8_tickClocks_12 ?_
      refine lv_dup hx hb dX8_tickClocks_13 rfl ?_
      refine g_get (v := .int (σ (15+6*(x1.toNatClampNeg)) 2)) hx hb hts miX8_tickClocks_X1 hown hK hP (kk_Comp hn3) (ce_Comp hn3) rfl 2 (by decide) mwX8_tickClocks_1 rfl dX8_tickClocks_14 ?_
      refine lv_aload_n hx hb dX8_tickClocks_17 rfl (lv_at hl 0 rfl) ?_
      refine g_get (v := .ref (q (1))) hx hb hts miX8_tickClocks_X8 hown hK hP (kk_Tri) (ce_Tri) rfl 0 (by decide) mwX8_tickClocks_0 rfl dX8_tickClocks_18 ?_
      refine lv_iload_n hx hb dX8_tickClocks_21 rfl (lv_at hl 1 rfl) ?_
      have hn4 : x1.toNatClampNeg < 4 := Nat.lt_of_lt_of_le (vin_lt hi2) (by decide)
      refine g_aald (j := x1.toNatClampNeg) hx hb hK hP (kk_CompArr) (ce_CompArr) 3 rfl rfl (vin_of hi2) rfl dX8_tickClocks_22 ?_
      refine g_get (v := .int (σ (15+6*(x1.toNatClampNeg)) 3)) hx hb hts miX8_tickClocks_X1 hown hK hP (kk_Comp hn4) (ce_Comp hn4) rfl 3 (by decide) mwX8_tickClocks_2 rfl dX8_tickClocks_23 ?_
      refine lv_iadd hx hb dX8_tickClocks_26 ?_
      refine g_put (v := (σ (15+6*(x1.toNatClampNeg)) 2) + (σ (15+6*(x1.toNatClampNeg)) 3)) hx hb hts miX8_tickClocks_X1 tyX1 tyX1_ok nmX1 hown hK hJ hP hS (kk_Comp hn3) (ce_Comp hn3) rfl 2 (by decide) mwX8_tickClocks_1 rfl rfl rfl (Nat.le_of_ble_eq_true rfl) rfl dX8_tickClocks_27 (fun H locs hP hS => ?_)
      refine lv_iinc (v := x1 + (1 : Int32)) (lv' := [(1, .int (x1 + (1 : Int32))), (0, .ref (q (0)))]) hx hb dX8_tickClocks_30 hl (k := 1) rfl rfl (by decide) rfl (fun ls hl => ?_)
      refine lv_goto (tgt := 2) hx hb dX8_tickClocks_33 (by decide) ?_
      exact ih _ _ _ _  hP hS _ (lv_sub hl [1, 0] rfl) hp
def sX8_tickClocks_0 (σ : TS) : Option (Int32 × TS) := sX8_tickClocks_2 4 ((0 : Int32)) σ
set_option maxHeartbeats 4000000 in
set_option maxRecDepth 100000 in
theorem kX8_tickClocks_0 {r : Int32} {u : TS} (C0 : gC RX8 cX8_tickClocks 2 none wsX8_tickClocks p s m args meth c) (hK : va_K D vwCl (tyL cy) s) (hJ : gJ 78 q) {H : Heap} {locs : List Loc} {σ : TS} (hP : va_P D vwCl (gS 78 q (TX cy q) σ) H) (hS : va_S (gA 78 q) s.heap H locs) {ls : Array Slot} (hl : lv_has ls 2 [(0, .ref (q (0)))]) (hp : sX8_tickClocks_0 σ = some (r, u)) : W p l e rmX8_tickClocks s m args below meth c H locs 0 0 (MQ below (gQv D vwCl (gS 78 q (TX cy q) u) (gA 78 q)) args s 0 0 (gA 78 q)) (F0 m 0 ls []) := by
  obtain ⟨hx, hb, hr, hml, hown, hts, hlocks⟩ := id C0
  unfold sX8_tickClocks_0 at hp
  refine lv_iconst (v := (0 : Int32)) hx hb dX8_tickClocks_0 (by decide) ?_
  refine lv_istore_n (lv' := [(1, .int ((0 : Int32))), (0, .ref (q (0)))]) hx hb dX8_tickClocks_1 rfl hl (by decide) rfl (fun ls hl => ?_)
  exact kX8_tickClocks_2 C0 hK hJ _ _ _ _ _  hP hS _ (lv_sub hl [1, 0] rfl) hp
def sX8_tickClocks (σ : TS) : Option (Int32 × TS) := sX8_tickClocks_0 σ
theorem nVX8_tickClocks : yX8_tickClocks.cls = RX8 ∧ yX8_tickClocks.cls ≠ "java/lang/invoke/MethodHandle" ∧ yX8_tickClocks.cls ≠ "java/lang/invoke/VarHandle" ∧ (parseMethodDescriptor yX8_tickClocks.desc).map (fun d => d.parameters.length) = some 0 := by decide +kernel
set_option maxHeartbeats 4000000 in
set_option maxRecDepth 100000 in
theorem mX8_tickClocks (l : Launch) (hJ : gJ 78 q) {σ : TS} {r : Int32} {u : TS} (hp : sX8_tickClocks σ = some (r, u)) : Met l yX8_tickClocks wsX8_tickClocks rmX8_tickClocks (va_Pc [.ref (q (0))] (gPre D vwCl (tyL cy) (gS 78 q (TX cy q) σ))) (gQv D vwCl (gS 78 q (TX cy q) u) (gA 78 q)) 0 0 (gA 78 q) := by
  refine Met.ofW (cc := cX8_tickClocks) (maxL := 2) (ret := none) (by decide +kernel) rfl ?_
  intro p e s m args below meth c s₁ B hml hv
  obtain ⟨rfl, hP, hK⟩ := hv
  have hl := lv_entry ([.ref (q (0))]) (n := 2) (Nat.le_of_ble_eq_true rfl)
  rw [lg_entry_eq]
  generalize (lg_sl ([.ref (q (0))]) ++ List.replicate (2 - (lg_sl ([.ref (q (0))])).length) Slot.unset).toArray = ls at hl ⊢
  have hl : lv_has ls 2 [(0, .ref (q (0)))] := hl
  exact kX8_tickClocks_0 ⟨B.exec, B.bytes, B.returns, hml, findClass_of_methodNamed B.named, atoms_spec (ws := wsX8_tickClocks) B.pre, B.notSynchronized⟩ hK hJ  hP va_S.rf hl hp
theorem miX8_middleClock_X1 : ∀ w ∈ u_ws RX1 TX1 14, w ∈ wsX8_middleClock := by decide +kernel
theorem miX8_middleClock_X8 : ∀ w ∈ u_ws RX8 TX8 16, w ∈ wsX8_middleClock := by decide +kernel
theorem mwX8_middleClock_0 : Cond.fieldLink RX8 11 "Triplane" "computers" "[LTriplane$Computer;" ∈ wsX8_middleClock := by decide +kernel
theorem mwX8_middleClock_1 : Cond.fieldLink RX8 222 "Triplane$Computer" "clockNow" "I" ∈ wsX8_middleClock := by decide +kernel
abbrev rmX8_middleClock : Room := { frames := 2, cells := 0, slots := 0, locals := 43 }
def sX8_middleClock_32 (sx0 : Int32) (σ : TS) : Option (Int32 × TS) := some (sx0, σ)
set_option maxHeartbeats 4000000 in
set_option maxRecDepth 100000 in
theorem kX8_middleClock_32 {r : Int32} {u : TS} (C0 : gC RX8 cX8_middleClock 4 ((some .int)) wsX8_middleClock p s m args meth c) (hK : va_K D vwCl (tyL cy) s) (hJ : gJ 78 q) {H : Heap} {locs : List Loc} {σ : TS} {sx0 : Int32} (hP : va_P D vwCl (gS 78 q (TX cy q) σ) H) (hS : va_S (gA 78 q) s.heap H locs) {ls : Array Slot} (hl : lv_has ls 4 []) (hp : sX8_middleClock_32 sx0 σ = some (r, u)) : W p l e rmX8_middleClock s m args below meth c H locs 0 0 (MQ below (gQi D vwCl r (gS 78 q (TX cy q) u) (gA 78 q)) args s 0 0 (gA 78 q)) (F0 m 32 ls [.int sx0]) := by
  obtain ⟨hx, hb, hr, hml, hown, hts, hlocks⟩ := id C0
  unfold sX8_middleClock_32 at hp
  obtain ⟨rfl, rfl⟩ := o_r hp
  exact W.iret (v := sx0) hx hb hr (fun t ht hW => ⟨⟨sx0, (), rfl, rfl, by subst ht; exact hP⟩, hS.F ht⟩) hS.2.2 dX8_middleClock_32
def sX8_middleClock_29 (sx0 : Int32) (sx1 : Int32) (sx2 : Int32) (σ : TS) : Option (Int32 × TS) := ((sX5_middle sx0 sx1 sx2 σ).bind (fun z => sX8_middleClock_32 z.1 z.2))
set_option maxHeartbeats 4000000 in
set_option maxRecDepth 100000 in
theorem kX8_middleClock_29 {r : Int32} {u : TS} (C0 : gC RX8 cX8_middleClock 4 ((some .int)) wsX8_middleClock p s m args meth c) (hK : va_K D vwCl (tyL cy) s) (hJ : gJ 78 q) {H : Heap} {locs : List Loc} {σ : TS} {sx0 : Int32} {sx1 : Int32} {sx2 : Int32} (hP : va_P D vwCl (gS 78 q (TX cy q) σ) H) (hS : va_S (gA 78 q) s.heap H locs) {ls : Array Slot} (hl : lv_has ls 4 []) (hp : sX8_middleClock_29 sx0 sx1 sx2 σ = some (r, u)) : W p l e rmX8_middleClock s m args below meth c H locs 0 0 (MQ below (gQi D vwCl r (gS 78 q (TX cy q) u) (gA 78 q)) args s 0 0 (gA 78 q)) (F0 m 29 ls [.int sx2, .int sx1, .int sx0]) := by
  obtain ⟨hx, hb, hr, hml, hown, hts, hlocks⟩ := id C0
  unfold sX8_middleClock_29 at hp
  obtain ⟨⟨r1, u2⟩, hq3, hp⟩ := o_b hp
  refine g_cSi (As := [.int sx0, .int sx1, .int sx2]) (rest := []) hx hb hml hown hts hK hP hS (mX5_middle l hJ hq3) (va_cwS 3 hts gX8_middleClock_X5_middle rfl rfl rfl nVX5_middle ⟨Nat.le_of_ble_eq_true rfl, Nat.le_of_ble_eq_true rfl⟩) rfl hl.1 rfl (Nat.le_of_ble_eq_true rfl) dX8_middleClock_29 ⟨Nat.le_of_ble_eq_true rfl, Nat.le_of_ble_eq_true rfl⟩ (fun H locs hP hS => ?_)
  exact kX8_middleClock_32 C0 hK hJ  hP hS hl hp
def sX8_middleClock_19 (x1 : Int32) (x3 : Int32) (sx0 : Int32) (sx1 : Int32) (σ : TS) : Option (Int32 × TS) := (if vin x3 3 = true then ((sX1_clockToldTo (x3.toNatClampNeg) x1 σ).bind (fun z => sX8_middleClock_29 sx0 sx1 z.1 z.2)) else none)
set_option maxHeartbeats 4000000 in
set_option maxRecDepth 100000 in
theorem kX8_middleClock_19 {r : Int32} {u : TS} (C0 : gC RX8 cX8_middleClock 4 ((some .int)) wsX8_middleClock p s m args meth c) (hK : va_K D vwCl (tyL cy) s) (hJ : gJ 78 q) {H : Heap} {locs : List Loc} {σ : TS} {x1 : Int32} {x3 : Int32} {sx0 : Int32} {sx1 : Int32} (hP : va_P D vwCl (gS 78 q (TX cy q) σ) H) (hS : va_S (gA 78 q) s.heap H locs) {ls : Array Slot} (hl : lv_has ls 4 [(0, .ref (q (0))), (1, .int x1), (3, .int x3)]) (hp : sX8_middleClock_19 x1 x3 sx0 sx1 σ = some (r, u)) : W p l e rmX8_middleClock s m args below meth c H locs 0 0 (MQ below (gQi D vwCl r (gS 78 q (TX cy q) u) (gA 78 q)) args s 0 0 (gA 78 q)) (F0 m 19 ls [.int sx1, .int sx0]) := by
  obtain ⟨hx, hb, hr, hml, hown, hts, hlocks⟩ := id C0
  unfold sX8_middleClock_19 at hp
  refine lv_aload_n hx hb dX8_middleClock_19 rfl (lv_at hl 0 rfl) ?_
  refine g_get (v := .ref (q (1))) hx hb hts miX8_middleClock_X8 hown hK hP (kk_Tri) (ce_Tri) rfl 0 (by decide) mwX8_middleClock_0 rfl dX8_middleClock_20 ?_
  refine lv_iload_n hx hb dX8_middleClock_23 rfl (lv_at hl 2 rfl) ?_
  obtain ⟨hi4, hp⟩ := o_chk hp
  have hn5 : x3.toNatClampNeg < 4 := Nat.lt_of_lt_of_le (vin_lt hi4) (by decide)
  refine g_aald (j := x3.toNatClampNeg) hx hb hK hP (kk_CompArr) (ce_CompArr) 3 rfl rfl (vin_of hi4) rfl dX8_middleClock_24 ?_
  refine lv_iload_n hx hb dX8_middleClock_25 rfl (lv_at hl 1 rfl) ?_
  obtain ⟨⟨r6, u7⟩, hq8, hp⟩ := o_b hp
  refine g_cVi (As := [.int x1]) (rest := [.int sx1, .int sx0]) hx hb hml hown hts hK hP hS (mX1_clockToldTo l hJ hn5 hq8) (cwV 1 hts gX8_middleClock_X1_clockToldTo rfl rfl rfl nVX1_clockToldTo ⟨Nat.le_of_ble_eq_true rfl, Nat.le_of_ble_eq_true rfl⟩) (g_recv hK hP (kk_Comp hn5) (ce_Comp hn5) rfl) rfl hl.1 rfl (Nat.le_of_ble_eq_true rfl) dX8_middleClock_26 ⟨Nat.le_of_ble_eq_true rfl, Nat.le_of_ble_eq_true rfl⟩ (fun H locs hP hS => ?_)
  exact kX8_middleClock_29 C0 hK hJ  hP hS (lv_sub hl [] rfl) hp
def sX8_middleClock_0 (x1 : Int32) (x2 : Int32) (x3 : Int32) (σ : TS) : Option (Int32 × TS) := (if vin x1 3 = true then (if vin x2 3 = true then ((sX1_clockToldTo (x2.toNatClampNeg) x1 σ).bind (fun z => sX8_middleClock_19 x1 x3 (σ (15+6*(x1.toNatClampNeg)) 2) z.1 z.2)) else none) else none)
set_option maxHeartbeats 4000000 in
set_option maxRecDepth 100000 in
theorem kX8_middleClock_0 {r : Int32} {u : TS} (C0 : gC RX8 cX8_middleClock 4 ((some .int)) wsX8_middleClock p s m args meth c) (hK : va_K D vwCl (tyL cy) s) (hJ : gJ 78 q) {H : Heap} {locs : List Loc} {σ : TS} {x1 : Int32} {x2 : Int32} {x3 : Int32} (hP : va_P D vwCl (gS 78 q (TX cy q) σ) H) (hS : va_S (gA 78 q) s.heap H locs) {ls : Array Slot} (hl : lv_has ls 4 [(0, .ref (q (0))), (1, .int x1), (2, .int x2), (3, .int x3)]) (hp : sX8_middleClock_0 x1 x2 x3 σ = some (r, u)) : W p l e rmX8_middleClock s m args below meth c H locs 0 0 (MQ below (gQi D vwCl r (gS 78 q (TX cy q) u) (gA 78 q)) args s 0 0 (gA 78 q)) (F0 m 0 ls []) := by
  obtain ⟨hx, hb, hr, hml, hown, hts, hlocks⟩ := id C0
  unfold sX8_middleClock_0 at hp
  refine lv_aload_n hx hb dX8_middleClock_0 rfl (lv_at hl 0 rfl) ?_
  refine g_get (v := .ref (q (1))) hx hb hts miX8_middleClock_X8 hown hK hP (kk_Tri) (ce_Tri) rfl 0 (by decide) mwX8_middleClock_0 rfl dX8_middleClock_1 ?_
  refine lv_iload_n hx hb dX8_middleClock_4 rfl (lv_at hl 1 rfl) ?_
  obtain ⟨hi9, hp⟩ := o_chk hp
  have hn10 : x1.toNatClampNeg < 4 := Nat.lt_of_lt_of_le (vin_lt hi9) (by decide)
  refine g_aald (j := x1.toNatClampNeg) hx hb hK hP (kk_CompArr) (ce_CompArr) 3 rfl rfl (vin_of hi9) rfl dX8_middleClock_5 ?_
  refine g_get (v := .int (σ (15+6*(x1.toNatClampNeg)) 2)) hx hb hts miX8_middleClock_X1 hown hK hP (kk_Comp hn10) (ce_Comp hn10) rfl 2 (by decide) mwX8_middleClock_1 rfl dX8_middleClock_6 ?_
  refine lv_aload_n hx hb dX8_middleClock_9 rfl (lv_at hl 0 rfl) ?_
  refine g_get (v := .ref (q (1))) hx hb hts miX8_middleClock_X8 hown hK hP (kk_Tri) (ce_Tri) rfl 0 (by decide) mwX8_middleClock_0 rfl dX8_middleClock_10 ?_
  refine lv_iload_n hx hb dX8_middleClock_13 rfl (lv_at hl 2 rfl) ?_
  obtain ⟨hi11, hp⟩ := o_chk hp
  have hn12 : x2.toNatClampNeg < 4 := Nat.lt_of_lt_of_le (vin_lt hi11) (by decide)
  refine g_aald (j := x2.toNatClampNeg) hx hb hK hP (kk_CompArr) (ce_CompArr) 3 rfl rfl (vin_of hi11) rfl dX8_middleClock_14 ?_
  refine lv_iload_n hx hb dX8_middleClock_15 rfl (lv_at hl 1 rfl) ?_
  obtain ⟨⟨r13, u14⟩, hq15, hp⟩ := o_b hp
  refine g_cVi (As := [.int x1]) (rest := [.int (σ (15+6*(x1.toNatClampNeg)) 2)]) hx hb hml hown hts hK hP hS (mX1_clockToldTo l hJ hn12 hq15) (cwV 1 hts gX8_middleClock_X1_clockToldTo rfl rfl rfl nVX1_clockToldTo ⟨Nat.le_of_ble_eq_true rfl, Nat.le_of_ble_eq_true rfl⟩) (g_recv hK hP (kk_Comp hn12) (ce_Comp hn12) rfl) rfl hl.1 rfl (Nat.le_of_ble_eq_true rfl) dX8_middleClock_16 ⟨Nat.le_of_ble_eq_true rfl, Nat.le_of_ble_eq_true rfl⟩ (fun H locs hP hS => ?_)
  exact kX8_middleClock_19 C0 hK hJ  hP hS (lv_sub hl [0, 1, 3] rfl) hp
def sX8_middleClock (x1 : Int32) (x2 : Int32) (x3 : Int32) (σ : TS) : Option (Int32 × TS) := sX8_middleClock_0 x1 x2 x3 σ
theorem nVX8_middleClock : yX8_middleClock.cls = RX8 ∧ yX8_middleClock.cls ≠ "java/lang/invoke/MethodHandle" ∧ yX8_middleClock.cls ≠ "java/lang/invoke/VarHandle" ∧ (parseMethodDescriptor yX8_middleClock.desc).map (fun d => d.parameters.length) = some 3 := by decide +kernel
set_option maxHeartbeats 4000000 in
set_option maxRecDepth 100000 in
theorem mX8_middleClock (l : Launch) (hJ : gJ 78 q) {x1 : Int32} {x2 : Int32} {x3 : Int32} {σ : TS} {r : Int32} {u : TS} (hp : sX8_middleClock x1 x2 x3 σ = some (r, u)) : Met l yX8_middleClock wsX8_middleClock rmX8_middleClock (va_Pc [.ref (q (0)), .int x1, .int x2, .int x3] (gPre D vwCl (tyL cy) (gS 78 q (TX cy q) σ))) (gQi D vwCl r (gS 78 q (TX cy q) u) (gA 78 q)) 0 0 (gA 78 q) := by
  refine Met.ofW (cc := cX8_middleClock) (maxL := 4) (ret := (some .int)) (by decide +kernel) rfl ?_
  intro p e s m args below meth c s₁ B hml hv
  obtain ⟨rfl, hP, hK⟩ := hv
  have hl := lv_entry ([.ref (q (0)), .int x1, .int x2, .int x3]) (n := 4) (Nat.le_of_ble_eq_true rfl)
  rw [lg_entry_eq]
  generalize (lg_sl ([.ref (q (0)), .int x1, .int x2, .int x3]) ++ List.replicate (4 - (lg_sl ([.ref (q (0)), .int x1, .int x2, .int x3])).length) Slot.unset).toArray = ls at hl ⊢
  have hl : lv_has ls 4 [(0, .ref (q (0))), (1, .int x1), (2, .int x2), (3, .int x3)] := hl
  exact kX8_middleClock_0 ⟨B.exec, B.bytes, B.returns, hml, findClass_of_methodNamed B.named, atoms_spec (ws := wsX8_middleClock) B.pre, B.notSynchronized⟩ hK hJ  hP va_S.rf hl hp
theorem miX8_holdClocksTogether_X1 : ∀ w ∈ u_ws RX1 TX1 14, w ∈ wsX8_holdClocksTogether := by decide +kernel
theorem miX8_holdClocksTogether_X8 : ∀ w ∈ u_ws RX8 TX8 16, w ∈ wsX8_holdClocksTogether := by decide +kernel
theorem mwX8_holdClocksTogether_0 : Cond.fieldLink RX8 11 "Triplane" "computers" "[LTriplane$Computer;" ∈ wsX8_holdClocksTogether := by decide +kernel
theorem mwX8_holdClocksTogether_1 : Cond.fieldLink RX8 222 "Triplane$Computer" "clockNow" "I" ∈ wsX8_holdClocksTogether := by decide +kernel
abbrev rmX8_holdClocksTogether : Room := { frames := 3, cells := 0, slots := 0, locals := 66 }
def sX8_holdClocksTogether_23 (x1 : Int32) (x2 : Int32) (sx0 : Int32) (σ : TS) : Option (Int32 × TS) := some (0, st2 (st2 (st2 σ (15+6*0) 2 x1) (15+6*1) 2 x2) (15+6*2) 2 sx0)
set_option maxHeartbeats 4000000 in
set_option maxRecDepth 100000 in
theorem kX8_holdClocksTogether_23 {r : Int32} {u : TS} (C0 : gC RX8 cX8_holdClocksTogether 4 none wsX8_holdClocksTogether p s m args meth c) (hK : va_K D vwCl (tyL cy) s) (hJ : gJ 78 q) {H : Heap} {locs : List Loc} {σ : TS} {x1 : Int32} {x2 : Int32} {sx0 : Int32} (hP : va_P D vwCl (gS 78 q (TX cy q) σ) H) (hS : va_S (gA 78 q) s.heap H locs) {ls : Array Slot} (hl : lv_has ls 4 [(0, .ref (q (0))), (1, .int x1), (2, .int x2)]) (hp : sX8_holdClocksTogether_23 x1 x2 sx0 σ = some (r, u)) : W p l e rmX8_holdClocksTogether s m args below meth c H locs 0 0 (MQ below (gQv D vwCl (gS 78 q (TX cy q) u) (gA 78 q)) args s 0 0 (gA 78 q)) (F0 m 23 ls [.int sx0]) := by
  obtain ⟨hx, hb, hr, hml, hown, hts, hlocks⟩ := id C0
  unfold sX8_holdClocksTogether_23 at hp
  refine lv_istore_n (lv' := [(3, .int sx0), (0, .ref (q (0))), (1, .int x1), (2, .int x2)]) hx hb dX8_holdClocksTogether_23 rfl hl (by decide) rfl (fun ls hl => ?_)
  refine lv_aload_n hx hb dX8_holdClocksTogether_24 rfl (lv_at hl 1 rfl) ?_
  refine g_get (v := .ref (q (1))) hx hb hts miX8_holdClocksTogether_X8 hown hK hP (kk_Tri) (ce_Tri) rfl 0 (by decide) mwX8_holdClocksTogether_0 rfl dX8_holdClocksTogether_25 ?_
  refine lv_iconst (v := (0 : Int32)) hx hb dX8_holdClocksTogether_28 (by decide) ?_
  refine g_aald (j := 0) hx hb hK hP (kk_CompArr) (ce_CompArr) 3 rfl rfl (vin_of (by decide)) rfl dX8_holdClocksTogether_29 ?_
  refine lv_iload_n hx hb dX8_holdClocksTogether_30 rfl (lv_at hl 2 rfl) ?_
  refine g_put (v := x1) hx hb hts miX8_holdClocksTogether_X1 tyX1 tyX1_ok nmX1 hown hK hJ hP hS (kk_Comp (by decide)) (ce_Comp (by decide)) rfl 2 (by decide) mwX8_holdClocksTogether_1 rfl rfl rfl (Nat.le_of_ble_eq_true rfl) rfl dX8_holdClocksTogether_31 (fun H locs hP hS => ?_)
  refine lv_aload_n hx hb dX8_holdClocksTogether_34 rfl (lv_at hl 1 rfl) ?_
  refine g_get (v := .ref (q (1))) hx hb hts miX8_holdClocksTogether_X8 hown hK hP (kk_Tri) (ce_Tri) rfl 0 (by decide) mwX8_holdClocksTogether_0 rfl dX8_holdClocksTogether_35 ?_
  refine lv_iconst (v := (1 : Int32)) hx hb dX8_holdClocksTogether_38 (by decide) ?_
  refine g_aald (j := 1) hx hb hK hP (kk_CompArr) (ce_CompArr) 3 rfl rfl (vin_of (by decide)) rfl dX8_holdClocksTogether_39 ?_
  refine lv_iload_n hx hb dX8_holdClocksTogether_40 rfl (lv_at hl 3 rfl) ?_
  refine g_put (v := x2) hx hb hts miX8_holdClocksTogether_X1 tyX1 tyX1_ok nmX1 hown hK hJ hP hS (kk_Comp (by decide)) (ce_Comp (by decide)) rfl 2 (by decide) mwX8_holdClocksTogether_1 rfl rfl rfl (Nat.le_of_ble_eq_true rfl) rfl dX8_holdClocksTogether_41 (fun H locs hP hS => ?_)
  refine lv_aload_n hx hb dX8_holdClocksTogether_44 rfl (lv_at hl 1 rfl) ?_
  refine g_get (v := .ref (q (1))) hx hb hts miX8_holdClocksTogether_X8 hown hK hP (kk_Tri) (ce_Tri) rfl 0 (by decide) mwX8_holdClocksTogether_0 rfl dX8_holdClocksTogether_45 ?_
  refine lv_iconst (v := (2 : Int32)) hx hb dX8_holdClocksTogether_48 (by decide) ?_
  refine g_aald (j := 2) hx hb hK hP (kk_CompArr) (ce_CompArr) 3 rfl rfl (vin_of (by decide)) rfl dX8_holdClocksTogether_49 ?_
  refine lv_iload_n hx hb dX8_holdClocksTogether_50 rfl (lv_at hl 0 rfl) ?_
  refine g_put (v := sx0) hx hb hts miX8_holdClocksTogether_X1 tyX1 tyX1_ok nmX1 hown hK hJ hP hS (kk_Comp (by decide)) (ce_Comp (by decide)) rfl 2 (by decide) mwX8_holdClocksTogether_1 rfl rfl rfl (Nat.le_of_ble_eq_true rfl) rfl dX8_holdClocksTogether_51 (fun H locs hP hS => ?_)
  obtain ⟨rfl, rfl⟩ := o_r hp
  exact W.vret hx hb hr (fun t ht hW => ⟨⟨(), rfl, trivial, by subst ht; exact hP⟩, hS.F ht⟩) hS.2.2 dX8_holdClocksTogether_54
def sX8_holdClocksTogether_15 (x1 : Int32) (sx0 : Int32) (σ : TS) : Option (Int32 × TS) := ((sX8_middleClock ((2 : Int32)) ((0 : Int32)) ((1 : Int32)) σ).bind (fun z => sX8_holdClocksTogether_23 x1 sx0 z.1 z.2))
set_option maxHeartbeats 4000000 in
set_option maxRecDepth 100000 in
theorem kX8_holdClocksTogether_15 {r : Int32} {u : TS} (C0 : gC RX8 cX8_holdClocksTogether 4 none wsX8_holdClocksTogether p s m args meth c) (hK : va_K D vwCl (tyL cy) s) (hJ : gJ 78 q) {H : Heap} {locs : List Loc} {σ : TS} {x1 : Int32} {sx0 : Int32} (hP : va_P D vwCl (gS 78 q (TX cy q) σ) H) (hS : va_S (gA 78 q) s.heap H locs) {ls : Array Slot} (hl : lv_has ls 4 [(0, .ref (q (0))), (1, .int x1)]) (hp : sX8_holdClocksTogether_15 x1 sx0 σ = some (r, u)) : W p l e rmX8_holdClocksTogether s m args below meth c H locs 0 0 (MQ below (gQv D vwCl (gS 78 q (TX cy q) u) (gA 78 q)) args s 0 0 (gA 78 q)) (F0 m 15 ls [.int sx0]) := by
  obtain ⟨hx, hb, hr, hml, hown, hts, hlocks⟩ := id C0
  unfold sX8_holdClocksTogether_15 at hp
  refine lv_istore_n (lv' := [(2, .int sx0), (0, .ref (q (0))), (1, .int x1)]) hx hb dX8_holdClocksTogether_15 rfl hl (by decide) rfl (fun ls hl => ?_)
  refine lv_aload_n hx hb dX8_holdClocksTogether_16 rfl (lv_at hl 1 rfl) ?_
  refine lv_iconst (v := (2 : Int32)) hx hb dX8_holdClocksTogether_17 (by decide) ?_
  refine lv_iconst (v := (0 : Int32)) hx hb dX8_holdClocksTogether_18 (by decide) ?_
  refine lv_iconst (v := (1 : Int32)) hx hb dX8_holdClocksTogether_19 (by decide) ?_
  obtain ⟨⟨r1, u2⟩, hq3, hp⟩ := o_b hp
  refine g_cVi (As := [.int ((2 : Int32)), .int ((0 : Int32)), .int ((1 : Int32))]) (rest := []) hx hb hml hown hts hK hP hS (mX8_middleClock l hJ hq3) (cwV 3 hts gX8_holdClocksTogether_X8_middleClock rfl rfl rfl nVX8_middleClock ⟨Nat.le_of_ble_eq_true rfl, Nat.le_of_ble_eq_true rfl⟩) (g_recv hK hP (kk_Tri) (ce_Tri) rfl) rfl hl.1 rfl (Nat.le_of_ble_eq_true rfl) dX8_holdClocksTogether_20 ⟨Nat.le_of_ble_eq_true rfl, Nat.le_of_ble_eq_true rfl⟩ (fun H locs hP hS => ?_)
  exact kX8_holdClocksTogether_23 C0 hK hJ  hP hS (lv_sub hl [1, 2, 0] rfl) hp
def sX8_holdClocksTogether_7 (sx0 : Int32) (σ : TS) : Option (Int32 × TS) := ((sX8_middleClock ((1 : Int32)) ((0 : Int32)) ((2 : Int32)) σ).bind (fun z => sX8_holdClocksTogether_15 sx0 z.1 z.2))
set_option maxHeartbeats 4000000 in
set_option maxRecDepth 100000 in
theorem kX8_holdClocksTogether_7 {r : Int32} {u : TS} (C0 : gC RX8 cX8_holdClocksTogether 4 none wsX8_holdClocksTogether p s m args meth c) (hK : va_K D vwCl (tyL cy) s) (hJ : gJ 78 q) {H : Heap} {locs : List Loc} {σ : TS} {sx0 : Int32} (hP : va_P D vwCl (gS 78 q (TX cy q) σ) H) (hS : va_S (gA 78 q) s.heap H locs) {ls : Array Slot} (hl : lv_has ls 4 [(0, .ref (q (0)))]) (hp : sX8_holdClocksTogether_7 sx0 σ = some (r, u)) : W p l e rmX8_holdClocksTogether s m args below meth c H locs 0 0 (MQ below (gQv D vwCl (gS 78 q (TX cy q) u) (gA 78 q)) args s 0 0 (gA 78 q)) (F0 m 7 ls [.int sx0]) := by
  obtain ⟨hx, hb, hr, hml, hown, hts, hlocks⟩ := id C0
  unfold sX8_holdClocksTogether_7 at hp
  refine lv_istore_n (lv' := [(1, .int sx0), (0, .ref (q (0)))]) hx hb dX8_holdClocksTogether_7 rfl hl (by decide) rfl (fun ls hl => ?_)
  refine lv_aload_n hx hb dX8_holdClocksTogether_8 rfl (lv_at hl 1 rfl) ?_
  refine lv_iconst (v := (1 : Int32)) hx hb dX8_holdClocksTogether_9 (by decide) ?_
  refine lv_iconst (v := (0 : Int32)) hx hb dX8_holdClocksTogether_10 (by decide) ?_
  refine lv_iconst (v := (2 : Int32)) hx hb dX8_holdClocksTogether_11 (by decide) ?_
  obtain ⟨⟨r4, u5⟩, hq6, hp⟩ := o_b hp
  refine g_cVi (As := [.int ((1 : Int32)), .int ((0 : Int32)), .int ((2 : Int32))]) (rest := []) hx hb hml hown hts hK hP hS (mX8_middleClock l hJ hq6) (cwV 3 hts gX8_holdClocksTogether_X8_middleClock rfl rfl rfl nVX8_middleClock ⟨Nat.le_of_ble_eq_true rfl, Nat.le_of_ble_eq_true rfl⟩) (g_recv hK hP (kk_Tri) (ce_Tri) rfl) rfl hl.1 rfl (Nat.le_of_ble_eq_true rfl) dX8_holdClocksTogether_12 ⟨Nat.le_of_ble_eq_true rfl, Nat.le_of_ble_eq_true rfl⟩ (fun H locs hP hS => ?_)
  exact kX8_holdClocksTogether_15 C0 hK hJ  hP hS (lv_sub hl [1, 0] rfl) hp
def sX8_holdClocksTogether_0 (σ : TS) : Option (Int32 × TS) := ((sX8_middleClock ((0 : Int32)) ((1 : Int32)) ((2 : Int32)) σ).bind (fun z => sX8_holdClocksTogether_7 z.1 z.2))
set_option maxHeartbeats 4000000 in
set_option maxRecDepth 100000 in
theorem kX8_holdClocksTogether_0 {r : Int32} {u : TS} (C0 : gC RX8 cX8_holdClocksTogether 4 none wsX8_holdClocksTogether p s m args meth c) (hK : va_K D vwCl (tyL cy) s) (hJ : gJ 78 q) {H : Heap} {locs : List Loc} {σ : TS} (hP : va_P D vwCl (gS 78 q (TX cy q) σ) H) (hS : va_S (gA 78 q) s.heap H locs) {ls : Array Slot} (hl : lv_has ls 4 [(0, .ref (q (0)))]) (hp : sX8_holdClocksTogether_0 σ = some (r, u)) : W p l e rmX8_holdClocksTogether s m args below meth c H locs 0 0 (MQ below (gQv D vwCl (gS 78 q (TX cy q) u) (gA 78 q)) args s 0 0 (gA 78 q)) (F0 m 0 ls []) := by
  obtain ⟨hx, hb, hr, hml, hown, hts, hlocks⟩ := id C0
  unfold sX8_holdClocksTogether_0 at hp
  refine lv_aload_n hx hb dX8_holdClocksTogether_0 rfl (lv_at hl 0 rfl) ?_
  refine lv_iconst (v := (0 : Int32)) hx hb dX8_holdClocksTogether_1 (by decide) ?_
  refine lv_iconst (v := (1 : Int32)) hx hb dX8_holdClocksTogether_2 (by decide) ?_
  refine lv_iconst (v := (2 : Int32)) hx hb dX8_holdClocksTogether_3 (by decide) ?_
  obtain ⟨⟨r7, u8⟩, hq9, hp⟩ := o_b hp
  refine g_cVi (As := [.int ((0 : Int32)), .int ((1 : Int32)), .int ((2 : Int32))]) (rest := []) hx hb hml hown hts hK hP hS (mX8_middleClock l hJ hq9) (cwV 3 hts gX8_holdClocksTogether_X8_middleClock rfl rfl rfl nVX8_middleClock ⟨Nat.le_of_ble_eq_true rfl, Nat.le_of_ble_eq_true rfl⟩) (g_recv hK hP (kk_Tri) (ce_Tri) rfl) rfl hl.1 rfl (Nat.le_of_ble_eq_true rfl) dX8_holdClocksTogether_4 ⟨Nat.le_of_ble_eq_true rfl, Nat.le_of_ble_eq_true rfl⟩ (fun H locs hP hS => ?_)
  exact kX8_holdClocksTogether_7 C0 hK hJ  hP hS hl hp
def sX8_holdClocksTogether (σ : TS) : Option (Int32 × TS) := sX8_holdClocksTogether_0 σ
theorem nVX8_holdClocksTogether : yX8_holdClocksTogether.cls = RX8 ∧ yX8_holdClocksTogether.cls ≠ "java/lang/invoke/MethodHandle" ∧ yX8_holdClocksTogether.cls ≠ "java/lang/invoke/VarHandle" ∧ (parseMethodDescriptor yX8_holdClocksTogether.desc).map (fun d => d.parameters.length) = some 0 := by decide +kernel
set_option maxHeartbeats 4000000 in
set_option maxRecDepth 100000 in
theorem mX8_holdClocksTogether (l : Launch) (hJ : gJ 78 q) {σ : TS} {r : Int32} {u : TS} (hp : sX8_holdClocksTogether σ = some (r, u)) : Met l yX8_holdClocksTogether wsX8_holdClocksTogether rmX8_holdClocksTogether (va_Pc [.ref (q (0))] (gPre D vwCl (tyL cy) (gS 78 q (TX cy q) σ))) (gQv D vwCl (gS 78 q (TX cy q) u) (gA 78 q)) 0 0 (gA 78 q) := by
  refine Met.ofW (cc := cX8_holdClocksTogether) (maxL := 4) (ret := none) (by decide +kernel) rfl ?_
  intro p e s m args below meth c s₁ B hml hv
  obtain ⟨rfl, hP, hK⟩ := hv
  have hl := lv_entry ([.ref (q (0))]) (n := 4) (Nat.le_of_ble_eq_true rfl)
  rw [lg_entry_eq]
  generalize (lg_sl ([.ref (q (0))]) ++ List.replicate (4 - (lg_sl ([.ref (q (0))])).length) Slot.unset).toArray = ls at hl ⊢
  have hl : lv_has ls 4 [(0, .ref (q (0)))] := hl
  exact kX8_holdClocksTogether_0 ⟨B.exec, B.bytes, B.returns, hml, findClass_of_methodNamed B.named, atoms_spec (ws := wsX8_holdClocksTogether) B.pre, B.notSynchronized⟩ hK hJ  hP va_S.rf hl hp
theorem miX8_frame_X8 : ∀ w ∈ u_ws RX8 TX8 16, w ∈ wsX8_frame := by decide +kernel
theorem mwX8_frame_0 : Cond.fieldLink RX8 45 "Triplane" "actuators" "[LTriplane$Actuator;" ∈ wsX8_frame := by decide +kernel
theorem mwX8_frame_1 : Cond.fieldLink RX8 49 "Triplane" "outputs" "[I" ∈ wsX8_frame := by decide +kernel
theorem mwX8_frame_2 : Cond.fieldLink RX8 34 "Triplane" "slots" "[[I" ∈ wsX8_frame := by decide +kernel
theorem mwX8_frame_3 : Cond.fieldLink RX8 67 "Triplane" "currentMode" "I" ∈ wsX8_frame := by decide +kernel
theorem mwX8_frame_4 : Cond.fieldLink RX8 39 "Triplane" "sensors" "[LTriplane$Sensor;" ∈ wsX8_frame := by decide +kernel
theorem mwX8_frame_5 : Cond.fieldLink RX8 81 "Triplane" "hadFrameAllOff" "Z" ∈ wsX8_frame := by decide +kernel
theorem mwX8_frame_6 : Cond.fieldLink RX8 63 "Triplane" "frames" "I" ∈ wsX8_frame := by decide +kernel
abbrev rmX8_frame : Room := { frames := 6, cells := 0, slots := 0, locals := 140 }
def sX8_frame_38 (K24 : Int32 → TS → Option (Int32 × TS)) (x1 : Int32) (σ : TS) : Option (Int32 × TS) := K24 (x1 + (1 : Int32)) σ
set_option maxHeartbeats 4000000 in
set_option maxRecDepth 100000 in
theorem kX8_frame_38 {r : Int32} {u : TS} {K24 : Int32 → TS → Option (Int32 × TS)} (C0 : gC RX8 cX8_frame 3 ((some .int)) wsX8_frame p s m args meth c) (hK : va_K D vwCl (tyL cy) s) (hJ : gJ 78 q) (kh24 : ∀ (H : Heap) (locs : List Loc) (σ : TS) (x1 : Int32) (hP : va_P D vwCl (gS 78 q (TX cy q) σ) H) (hS : va_S (gA 78 q) s.heap H locs) (ls : Array Slot) (hl : lv_has ls 3 [(0, .ref (q (0))), (1, .int x1)]) (hp : K24 x1 σ = some (r, u)), W p l e rmX8_frame s m args below meth c H locs 0 0 (MQ below (gQi D vwCl r (gS 78 q (TX cy q) u) (gA 78 q)) args s 0 0 (gA 78 q)) (F0 m 24 ls [])) {H : Heap} {locs : List Loc} {σ : TS} {x1 : Int32} (hP : va_P D vwCl (gS 78 q (TX cy q) σ) H) (hS : va_S (gA 78 q) s.heap H locs) {ls : Array Slot} (hl : lv_has ls 3 [(0, .ref (q (0))), (1, .int x1)]) (hp : sX8_frame_38 K24 x1 σ = some (r, u)) : W p l e rmX8_frame s m args below meth c H locs 0 0 (MQ below (gQi D vwCl r (gS 78 q (TX cy q) u) (gA 78 q)) args s 0 0 (gA 78 q)) (F0 m 38 ls []) := by
  obtain ⟨hx, hb, hr, hml, hown, hts, hlocks⟩ := id C0
  unfold sX8_frame_38 at hp
  refine lv_iinc (v := x1 + (1 : Int32)) (lv' := [(1, .int (x1 + (1 : Int32))), (0, .ref (q (0)))]) hx hb dX8_frame_38 hl (k := 1) rfl rfl (by decide) rfl (fun ls hl => ?_)
  refine lv_goto (tgt := 24) hx hb dX8_frame_41 (by decide) ?_
  exact kh24 _ _ _ _  hP hS _ (lv_sub hl [1, 0] rfl) hp
def sX8_frame_73 (K46 : Int32 → TS → Option (Int32 × TS)) (x1 : Int32) (σ : TS) : Option (Int32 × TS) := K46 (x1 + (1 : Int32)) σ
set_option maxHeartbeats 4000000 in
set_option maxRecDepth 100000 in
theorem kX8_frame_73 {r : Int32} {u : TS} {K46 : Int32 → TS → Option (Int32 × TS)} (C0 : gC RX8 cX8_frame 3 ((some .int)) wsX8_frame p s m args meth c) (hK : va_K D vwCl (tyL cy) s) (hJ : gJ 78 q) (kh46 : ∀ (H : Heap) (locs : List Loc) (σ : TS) (x1 : Int32) (hP : va_P D vwCl (gS 78 q (TX cy q) σ) H) (hS : va_S (gA 78 q) s.heap H locs) (ls : Array Slot) (hl : lv_has ls 3 [(0, .ref (q (0))), (1, .int x1)]) (hp : K46 x1 σ = some (r, u)), W p l e rmX8_frame s m args below meth c H locs 0 0 (MQ below (gQi D vwCl r (gS 78 q (TX cy q) u) (gA 78 q)) args s 0 0 (gA 78 q)) (F0 m 46 ls [])) {H : Heap} {locs : List Loc} {σ : TS} {x1 : Int32} (hP : va_P D vwCl (gS 78 q (TX cy q) σ) H) (hS : va_S (gA 78 q) s.heap H locs) {ls : Array Slot} (hl : lv_has ls 3 [(0, .ref (q (0))), (1, .int x1)]) (hp : sX8_frame_73 K46 x1 σ = some (r, u)) : W p l e rmX8_frame s m args below meth c H locs 0 0 (MQ below (gQi D vwCl r (gS 78 q (TX cy q) u) (gA 78 q)) args s 0 0 (gA 78 q)) (F0 m 73 ls []) := by
  obtain ⟨hx, hb, hr, hml, hown, hts, hlocks⟩ := id C0
  unfold sX8_frame_73 at hp
  refine lv_iinc (v := x1 + (1 : Int32)) (lv' := [(1, .int (x1 + (1 : Int32))), (0, .ref (q (0)))]) hx hb dX8_frame_73 hl (k := 1) rfl rfl (by decide) rfl (fun ls hl => ?_)
  refine lv_goto (tgt := 46) hx hb dX8_frame_76 (by decide) ?_
  exact kh46 _ _ _ _  hP hS _ (lv_sub hl [1, 0] rfl) hp
def sX8_frame_121 (K101 : Int32 → TS → Option (Int32 × TS)) (x1 : Int32) (σ : TS) : Option (Int32 × TS) := K101 (x1 + (1 : Int32)) σ
set_option maxHeartbeats 4000000 in
set_option maxRecDepth 100000 in
theorem kX8_frame_121 {r : Int32} {u : TS} {K101 : Int32 → TS → Option (Int32 × TS)} (C0 : gC RX8 cX8_frame 3 ((some .int)) wsX8_frame p s m args meth c) (hK : va_K D vwCl (tyL cy) s) (hJ : gJ 78 q) (kh101 : ∀ (H : Heap) (locs : List Loc) (σ : TS) (x1 : Int32) (hP : va_P D vwCl (gS 78 q (TX cy q) σ) H) (hS : va_S (gA 78 q) s.heap H locs) (ls : Array Slot) (hl : lv_has ls 3 [(0, .ref (q (0))), (1, .int x1)]) (hp : K101 x1 σ = some (r, u)), W p l e rmX8_frame s m args below meth c H locs 0 0 (MQ below (gQi D vwCl r (gS 78 q (TX cy q) u) (gA 78 q)) args s 0 0 (gA 78 q)) (F0 m 101 ls [])) {H : Heap} {locs : List Loc} {σ : TS} {x1 : Int32} (hP : va_P D vwCl (gS 78 q (TX cy q) σ) H) (hS : va_S (gA 78 q) s.heap H locs) {ls : Array Slot} (hl : lv_has ls 3 [(0, .ref (q (0))), (1, .int x1)]) (hp : sX8_frame_121 K101 x1 σ = some (r, u)) : W p l e rmX8_frame s m args below meth c H locs 0 0 (MQ below (gQi D vwCl r (gS 78 q (TX cy q) u) (gA 78 q)) args s 0 0 (gA 78 q)) (F0 m 121 ls []) := by
  obtain ⟨hx, hb, hr, hml, hown, hts, hlocks⟩ := id C0
  unfold sX8_frame_121 at hp
  refine lv_iinc (v := x1 + (1 : Int32)) (lv' := [(1, .int (x1 + (1 : Int32))), (0, .ref (q (0)))]) hx hb dX8_frame_121 hl (k := 1) rfl rfl (by decide) rfl (fun ls hl => ?_)
  refine lv_goto (tgt := 101) hx hb dX8_frame_124 (by decide) ?_
  exact kh101 _ _ _ _  hP hS _ (lv_sub hl [1, 0] rfl) hp
def sX8_frame_131 (sx0 : Int32) (σ : TS) : Option (Int32 × TS) := some (sx0, σ)
set_option maxHeartbeats 4000000 in
set_option maxRecDepth 100000 in
theorem kX8_frame_131 {r : Int32} {u : TS} (C0 : gC RX8 cX8_frame 3 ((some .int)) wsX8_frame p s m args meth c) (hK : va_K D vwCl (tyL cy) s) (hJ : gJ 78 q) {H : Heap} {locs : List Loc} {σ : TS} {sx0 : Int32} (hP : va_P D vwCl (gS 78 q (TX cy q) σ) H) (hS : va_S (gA 78 q) s.heap H locs) {ls : Array Slot} (hl : lv_has ls 3 []) (hp : sX8_frame_131 sx0 σ = some (r, u)) : W p l e rmX8_frame s m args below meth c H locs 0 0 (MQ below (gQi D vwCl r (gS 78 q (TX cy q) u) (gA 78 q)) args s 0 0 (gA 78 q)) (F0 m 131 ls [.int sx0]) := by
  obtain ⟨hx, hb, hr, hml, hown, hts, hlocks⟩ := id C0
  unfold sX8_frame_131 at hp
  obtain ⟨rfl, rfl⟩ := o_r hp
  exact W.iret (v := sx0) hx hb hr (fun t ht hW => ⟨⟨sx0, (), rfl, rfl, by subst ht; exact hP⟩, hS.F ht⟩) hS.2.2 dX8_frame_131
def sX8_frame_101 : Nat → Int32 → TS → Option (Int32 × TS)
  | 0, _, _ => none
  | n + 1, x1, σ => (if ((4 : Int32)) ≤ x1 then ((sX8_countOn σ).bind (fun z => sX8_frame_131 z.1 z.2)) else (if vin x1 4 = true then ((sX0_move (x1.toNatClampNeg) (σ (9+0) (x1.toNatClampNeg)) σ).bind (fun z => sX8_frame_121 (sX8_frame_101 n) x1 z.2)) else none))
set_option maxHeartbeats 4000000 in
set_option maxRecDepth 100000 in
theorem kX8_frame_101 {r : Int32} {u : TS} (C0 : gC RX8 cX8_frame 3 ((some .int)) wsX8_frame p s m args meth c) (hK : va_K D vwCl (tyL cy) s) (hJ : gJ 78 q) : ∀ (n : Nat) (H : Heap) (locs : List Loc) (σ : TS) (x1 : Int32) (hP : va_P D vwCl (gS 78 q (TX cy q) σ) H) (hS : va_S (gA 78 q) s.heap H locs) (ls : Array Slot) (hl : lv_has ls 3 [(0, .ref (q (0))), (1, .int x1)]) (hp : sX8_frame_101 n x1 σ = some (r, u)), W p l e rmX8_frame s m args below meth c H locs 0 0 (MQ below (gQi D vwCl r (gS 78 q (TX cy q) u) (gA 78 q)) args s 0 0 (gA 78 q)) (F0 m 101 ls []) := by
  obtain ⟨hx, hb, hr, hml, hown, hts, hlocks⟩ := id C0
  intro n
  induction n with
  | zero =>
    intro H locs σ x1 hP hS ls hl hp
    cases hp
  | succ n ih =>
    intro H locs σ x1 hP hS ls hl hp
    unfold sX8_frame_101 at hp
    refine lv_iload_n hx hb dX8_frame_101 rfl (lv_at hl 1 rfl) ?_
    refine lv_iconst (v := (4 : Int32)) hx hb dX8_frame_102 (by decide) ?_
    refine lv_icmp_ge (tgt := 127) hx hb dX8_frame_103 (by decide) (fun hcd1 => ?_) (fun hcd1 => ?_)
    · have hp := o_t hp hcd1
      refine lv_aload_n hx hb dX8_frame_127 rfl (lv_at hl 0 rfl) ?_
      obtain ⟨⟨r2, u3⟩, hq4, hp⟩ := o_b hp
      refine g_cVi (As := []) (rest := []) hx hb hml hown hts hK hP hS (mX8_countOn l hJ hq4) (cwV 0 hts gX8_frame_X8_countOn rfl rfl rfl nVX8_countOn ⟨Nat.le_of_ble_eq_true rfl, Nat.le_of_ble_eq_true rfl⟩) (g_recv hK hP (kk_Tri) (ce_Tri) rfl) rfl hl.1 rfl (Nat.le_of_ble_eq_true rfl) dX8_frame_128 ⟨Nat.le_of_ble_eq_true rfl, Nat.le_of_ble_eq_true rfl⟩ (fun H locs hP hS => ?_)
      exact kX8_frame_131 C0 hK hJ  hP hS (lv_sub hl [] rfl) hp
    · have hp := o_f hp hcd1
      refine lv_aload_n hx hb dX8_frame_106 rfl (lv_at hl 0 rfl) ?_
      refine g_get (v := .ref (q (8))) hx hb hts miX8_frame_X8 hown hK hP (kk_Tri) (ce_Tri) rfl 6 (by decide) mwX8_frame_0 rfl dX8_frame_107 ?_
      refine lv_iload_n hx hb dX8_frame_110 rfl (lv_at hl 1 rfl) ?_
      obtain ⟨hi5, hp⟩ := o_chk hp
      have hn6 : x1.toNatClampNeg < 4 := Nat.lt_of_lt_of_le (vin_lt hi5) (by decide)
      refine g_aald (j := x1.toNatClampNeg) hx hb hK hP (kk_ActArr) (ce_ActArr) 8 rfl rfl (vin_of hi5) rfl dX8_frame_111 ?_
      refine lv_aload_n hx hb dX8_frame_112 rfl (lv_at hl 0 rfl) ?_
      refine g_get (v := .ref (q (9+0))) hx hb hts miX8_frame_X8 hown hK hP (kk_Tri) (ce_Tri) rfl 7 (by decide) mwX8_frame_1 rfl dX8_frame_113 ?_
      refine lv_iload_n hx hb dX8_frame_116 rfl (lv_at hl 1 rfl) ?_
      refine g_iald (j := x1.toNatClampNeg) hx hb hK hP (kk_Out (by decide)) (ce_Out (by decide)) 0 rfl (vin_of hi5) rfl dX8_frame_117 ?_
      obtain ⟨⟨r7, u8⟩, hq9, hp⟩ := o_b hp
      refine g_cVv (As := [.int (σ (9+0) (x1.toNatClampNeg))]) (rest := []) hx hb hml hown hts hK hP hS (mX0_move l hJ hn6 hq9) (cwV 1 hts gX8_frame_X0_move rfl rfl rfl nVX0_move ⟨Nat.le_of_ble_eq_true rfl, Nat.le_of_ble_eq_true rfl⟩) (g_recv hK hP (kk_Act hn6) (ce_Act hn6) rfl) rfl hl.1 rfl (Nat.le_of_ble_eq_true rfl) dX8_frame_118 ⟨Nat.le_of_ble_eq_true rfl, Nat.le_of_ble_eq_true rfl⟩ (fun H locs hP hS => ?_)
      exact kX8_frame_121 C0 hK hJ ih  hP hS hl hp
def sX8_frame_99 (σ : TS) : Option (Int32 × TS) := sX8_frame_101 5 ((0 : Int32)) σ
set_option maxHeartbeats 4000000 in
set_option maxRecDepth 100000 in
theorem kX8_frame_99 {r : Int32} {u : TS} (C0 : gC RX8 cX8_frame 3 ((some .int)) wsX8_frame p s m args meth c) (hK : va_K D vwCl (tyL cy) s) (hJ : gJ 78 q) {H : Heap} {locs : List Loc} {σ : TS} (hP : va_P D vwCl (gS 78 q (TX cy q) σ) H) (hS : va_S (gA 78 q) s.heap H locs) {ls : Array Slot} (hl : lv_has ls 3 [(0, .ref (q (0)))]) (hp : sX8_frame_99 σ = some (r, u)) : W p l e rmX8_frame s m args below meth c H locs 0 0 (MQ below (gQi D vwCl r (gS 78 q (TX cy q) u) (gA 78 q)) args s 0 0 (gA 78 q)) (F0 m 99 ls []) := by
  obtain ⟨hx, hb, hr, hml, hown, hts, hlocks⟩ := id C0
  unfold sX8_frame_99 at hp
  refine lv_iconst (v := (0 : Int32)) hx hb dX8_frame_99 (by decide) ?_
  refine lv_istore_n (lv' := [(1, .int ((0 : Int32))), (0, .ref (q (0)))]) hx hb dX8_frame_100 rfl hl (by decide) rfl (fun ls hl => ?_)
  exact kX8_frame_101 C0 hK hJ _ _ _ _ _  hP hS _ (lv_sub hl [1, 0] rfl) hp
def sX8_frame_91 (sx0 : Int32) (σ : TS) : Option (Int32 × TS) := (if sx0 = ((3 : Int32)) then ((sX8_holdClocksTogether σ).bind (fun z => sX8_frame_99 z.2)) else sX8_frame_99 σ)
set_option maxHeartbeats 4000000 in
set_option maxRecDepth 100000 in
theorem kX8_frame_91 {r : Int32} {u : TS} (C0 : gC RX8 cX8_frame 3 ((some .int)) wsX8_frame p s m args meth c) (hK : va_K D vwCl (tyL cy) s) (hJ : gJ 78 q) {H : Heap} {locs : List Loc} {σ : TS} {sx0 : Int32} (hP : va_P D vwCl (gS 78 q (TX cy q) σ) H) (hS : va_S (gA 78 q) s.heap H locs) {ls : Array Slot} (hl : lv_has ls 3 [(0, .ref (q (0)))]) (hp : sX8_frame_91 sx0 σ = some (r, u)) : W p l e rmX8_frame s m args below meth c H locs 0 0 (MQ below (gQi D vwCl r (gS 78 q (TX cy q) u) (gA 78 q)) args s 0 0 (gA 78 q)) (F0 m 91 ls [.int sx0]) := by
  obtain ⟨hx, hb, hr, hml, hown, hts, hlocks⟩ := id C0
  unfold sX8_frame_91 at hp
  refine lv_iconst (v := (3 : Int32)) hx hb dX8_frame_91 (by decide) ?_
  refine lv_icmp_ne (tgt := 99) hx hb dX8_frame_92 (by decide) (fun hcd10 => ?_) (fun hcd10 => ?_)
  · have hp := o_f hp hcd10
    exact kX8_frame_99 C0 hK hJ  hP hS hl hp
  · have hp := o_t hp hcd10
    refine lv_aload_n hx hb dX8_frame_95 rfl (lv_at hl 0 rfl) ?_
    obtain ⟨⟨r11, u12⟩, hq13, hp⟩ := o_b hp
    refine g_cVv (As := []) (rest := []) hx hb hml hown hts hK hP hS (mX8_holdClocksTogether l hJ hq13) (cwV 0 hts gX8_frame_X8_holdClocksTogether rfl rfl rfl nVX8_holdClocksTogether ⟨Nat.le_of_ble_eq_true rfl, Nat.le_of_ble_eq_true rfl⟩) (g_recv hK hP (kk_Tri) (ce_Tri) rfl) rfl hl.1 rfl (Nat.le_of_ble_eq_true rfl) dX8_frame_96 ⟨Nat.le_of_ble_eq_true rfl, Nat.le_of_ble_eq_true rfl⟩ (fun H locs hP hS => ?_)
    exact kX8_frame_99 C0 hK hJ  hP hS hl hp
def sX8_frame_87 (σ : TS) : Option (Int32 × TS) := ((sX8_countOn σ).bind (fun z => sX8_frame_91 z.1 z.2))
set_option maxHeartbeats 4000000 in
set_option maxRecDepth 100000 in
theorem kX8_frame_87 {r : Int32} {u : TS} (C0 : gC RX8 cX8_frame 3 ((some .int)) wsX8_frame p s m args meth c) (hK : va_K D vwCl (tyL cy) s) (hJ : gJ 78 q) {H : Heap} {locs : List Loc} {σ : TS} (hP : va_P D vwCl (gS 78 q (TX cy q) σ) H) (hS : va_S (gA 78 q) s.heap H locs) {ls : Array Slot} (hl : lv_has ls 3 [(0, .ref (q (0)))]) (hp : sX8_frame_87 σ = some (r, u)) : W p l e rmX8_frame s m args below meth c H locs 0 0 (MQ below (gQi D vwCl r (gS 78 q (TX cy q) u) (gA 78 q)) args s 0 0 (gA 78 q)) (F0 m 87 ls []) := by
  obtain ⟨hx, hb, hr, hml, hown, hts, hlocks⟩ := id C0
  unfold sX8_frame_87 at hp
  refine lv_aload_n hx hb dX8_frame_87 rfl (lv_at hl 0 rfl) ?_
  obtain ⟨⟨r14, u15⟩, hq16, hp⟩ := o_b hp
  refine g_cVi (As := []) (rest := []) hx hb hml hown hts hK hP hS (mX8_countOn l hJ hq16) (cwV 0 hts gX8_frame_X8_countOn rfl rfl rfl nVX8_countOn ⟨Nat.le_of_ble_eq_true rfl, Nat.le_of_ble_eq_true rfl⟩) (g_recv hK hP (kk_Tri) (ce_Tri) rfl) rfl hl.1 rfl (Nat.le_of_ble_eq_true rfl) dX8_frame_88 ⟨Nat.le_of_ble_eq_true rfl, Nat.le_of_ble_eq_true rfl⟩ (fun H locs hP hS => ?_)
  exact kX8_frame_91 C0 hK hJ  hP hS hl hp
def sX8_frame_83 (σ : TS) : Option (Int32 × TS) := ((sX8_tickClocks σ).bind (fun z => sX8_frame_87 z.2))
set_option maxHeartbeats 4000000 in
set_option maxRecDepth 100000 in
theorem kX8_frame_83 {r : Int32} {u : TS} (C0 : gC RX8 cX8_frame 3 ((some .int)) wsX8_frame p s m args meth c) (hK : va_K D vwCl (tyL cy) s) (hJ : gJ 78 q) {H : Heap} {locs : List Loc} {σ : TS} (hP : va_P D vwCl (gS 78 q (TX cy q) σ) H) (hS : va_S (gA 78 q) s.heap H locs) {ls : Array Slot} (hl : lv_has ls 3 [(0, .ref (q (0)))]) (hp : sX8_frame_83 σ = some (r, u)) : W p l e rmX8_frame s m args below meth c H locs 0 0 (MQ below (gQi D vwCl r (gS 78 q (TX cy q) u) (gA 78 q)) args s 0 0 (gA 78 q)) (F0 m 83 ls []) := by
  obtain ⟨hx, hb, hr, hml, hown, hts, hlocks⟩ := id C0
  unfold sX8_frame_83 at hp
  refine lv_aload_n hx hb dX8_frame_83 rfl (lv_at hl 0 rfl) ?_
  obtain ⟨⟨r17, u18⟩, hq19, hp⟩ := o_b hp
  refine g_cVv (As := []) (rest := []) hx hb hml hown hts hK hP hS (mX8_tickClocks l hJ hq19) (cwV 0 hts gX8_frame_X8_tickClocks rfl rfl rfl nVX8_tickClocks ⟨Nat.le_of_ble_eq_true rfl, Nat.le_of_ble_eq_true rfl⟩) (g_recv hK hP (kk_Tri) (ce_Tri) rfl) rfl hl.1 rfl (Nat.le_of_ble_eq_true rfl) dX8_frame_84 ⟨Nat.le_of_ble_eq_true rfl, Nat.le_of_ble_eq_true rfl⟩ (fun H locs hP hS => ?_)
  exact kX8_frame_87 C0 hK hJ  hP hS hl hp
def sX8_frame_46 : Nat → Int32 → TS → Option (Int32 × TS)
  | 0, _, _ => none
  | n + 1, x1, σ => (if ((3 : Int32)) ≤ x1 then ((sX8_scrub σ).bind (fun z => sX8_frame_83 z.2)) else (if vin (σ 0 11) 2 = true then (if vin x1 3 = true then (if (σ (3+((σ 0 11).toNatClampNeg)) (x1.toNatClampNeg)) = ((-1 : Int32)) then sX8_frame_73 (sX8_frame_46 n) x1 σ else ((sX8_runSlot (σ (3+((σ 0 11).toNatClampNeg)) (x1.toNatClampNeg)) σ).bind (fun z => sX8_frame_73 (sX8_frame_46 n) x1 z.2))) else none) else none))
set_option maxHeartbeats 4000000 in
set_option maxRecDepth 100000 in
theorem kX8_frame_46 {r : Int32} {u : TS} (C0 : gC RX8 cX8_frame 3 ((some .int)) wsX8_frame p s m args meth c) (hK : va_K D vwCl (tyL cy) s) (hJ : gJ 78 q) : ∀ (n : Nat) (H : Heap) (locs : List Loc) (σ : TS) (x1 : Int32) (hP : va_P D vwCl (gS 78 q (TX cy q) σ) H) (hS : va_S (gA 78 q) s.heap H locs) (ls : Array Slot) (hl : lv_has ls 3 [(0, .ref (q (0))), (1, .int x1)]) (hp : sX8_frame_46 n x1 σ = some (r, u)), W p l e rmX8_frame s m args below meth c H locs 0 0 (MQ below (gQi D vwCl r (gS 78 q (TX cy q) u) (gA 78 q)) args s 0 0 (gA 78 q)) (F0 m 46 ls []) := by
  obtain ⟨hx, hb, hr, hml, hown, hts, hlocks⟩ := id C0
  intro n
  induction n with
  | zero =>
    intro H locs σ x1 hP hS ls hl hp
    cases hp
  | succ n ih =>
    intro H locs σ x1 hP hS ls hl hp
    unfold sX8_frame_46 at hp
    refine lv_iload_n hx hb dX8_frame_46 rfl (lv_at hl 1 rfl) ?_
    refine lv_iconst (v := (3 : Int32)) hx hb dX8_frame_47 (by decide) ?_
    refine lv_icmp_ge (tgt := 79) hx hb dX8_frame_48 (by decide) (fun hcd20 => ?_) (fun hcd20 => ?_)
    · have hp := o_t hp hcd20
      refine lv_aload_n hx hb dX8_frame_79 rfl (lv_at hl 0 rfl) ?_
      obtain ⟨⟨r21, u22⟩, hq23, hp⟩ := o_b hp
      refine g_cVv (As := []) (rest := []) hx hb hml hown hts hK hP hS (mX8_scrub l hJ hq23) (cwV 0 hts gX8_frame_X8_scrub rfl rfl rfl nVX8_scrub ⟨Nat.le_of_ble_eq_true rfl, Nat.le_of_ble_eq_true rfl⟩) (g_recv hK hP (kk_Tri) (ce_Tri) rfl) rfl hl.1 rfl (Nat.le_of_ble_eq_true rfl) dX8_frame_80 ⟨Nat.le_of_ble_eq_true rfl, Nat.le_of_ble_eq_true rfl⟩ (fun H locs hP hS => ?_)
      exact kX8_frame_83 C0 hK hJ  hP hS (lv_sub hl [0] rfl) hp
    · have hp := o_f hp hcd20
      refine lv_aload_n hx hb dX8_frame_51 rfl (lv_at hl 0 rfl) ?_
      refine g_get (v := .ref (q (2))) hx hb hts miX8_frame_X8 hown hK hP (kk_Tri) (ce_Tri) rfl 4 (by decide) mwX8_frame_2 rfl dX8_frame_52 ?_
      refine lv_aload_n hx hb dX8_frame_55 rfl (lv_at hl 0 rfl) ?_
      refine g_get (v := .int (σ 0 11)) hx hb hts miX8_frame_X8 hown hK hP (kk_Tri) (ce_Tri) rfl 11 (by decide) mwX8_frame_3 rfl dX8_frame_56 ?_
      obtain ⟨hi24, hp⟩ := o_chk hp
      have hn25 : (σ 0 11).toNatClampNeg < 2 := Nat.lt_of_lt_of_le (vin_lt hi24) (by decide)
      refine g_aald (j := (σ 0 11).toNatClampNeg) hx hb hK hP (kk_SlotOut) (ce_SlotOut) 6 rfl rfl (vin_of hi24) rfl dX8_frame_59 ?_
      refine lv_iload_n hx hb dX8_frame_60 rfl (lv_at hl 1 rfl) ?_
      obtain ⟨hi26, hp⟩ := o_chk hp
      refine g_iald (j := x1.toNatClampNeg) hx hb hK hP (kk_SlotIn hn25) (ce_SlotIn hn25) 0 rfl (vin_of hi26) rfl dX8_frame_61 ?_
      refine lv_istore_n (lv' := [(2, .int (σ (3+((σ 0 11).toNatClampNeg)) (x1.toNatClampNeg))), (0, .ref (q (0))), (1, .int x1)]) hx hb dX8_frame_62 rfl hl (by decide) rfl (fun ls hl => ?_)
      refine lv_iload_n hx hb dX8_frame_63 rfl (lv_at hl 0 rfl) ?_
      refine lv_iconst (v := (-1 : Int32)) hx hb dX8_frame_64 (by decide) ?_
      refine lv_icmp_eq (tgt := 73) hx hb dX8_frame_65 (by decide) (fun hcd27 => ?_) (fun hcd27 => ?_)
      · have hp := o_t hp hcd27
        exact kX8_frame_73 C0 hK hJ ih  hP hS (lv_sub hl [1, 2] rfl) hp
      · have hp := o_f hp hcd27
        refine lv_aload_n hx hb dX8_frame_68 rfl (lv_at hl 1 rfl) ?_
        refine lv_iload_n hx hb dX8_frame_69 rfl (lv_at hl 0 rfl) ?_
        obtain ⟨⟨r28, u29⟩, hq30, hp⟩ := o_b hp
        refine g_cVv (As := [.int (σ (3+((σ 0 11).toNatClampNeg)) (x1.toNatClampNeg))]) (rest := []) hx hb hml hown hts hK hP hS (mX8_runSlot l hJ hq30) (cwV 1 hts gX8_frame_X8_runSlot rfl rfl rfl nVX8_runSlot ⟨Nat.le_of_ble_eq_true rfl, Nat.le_of_ble_eq_true rfl⟩) (g_recv hK hP (kk_Tri) (ce_Tri) rfl) rfl hl.1 rfl (Nat.le_of_ble_eq_true rfl) dX8_frame_70 ⟨Nat.le_of_ble_eq_true rfl, Nat.le_of_ble_eq_true rfl⟩ (fun H locs hP hS => ?_)
        exact kX8_frame_73 C0 hK hJ ih  hP hS (lv_sub hl [1, 2] rfl) hp
def sX8_frame_24 : Nat → Int32 → TS → Option (Int32 × TS)
  | 0, _, _ => none
  | n + 1, x1, σ => (if ((4 : Int32)) ≤ x1 then sX8_frame_46 4 ((0 : Int32)) σ else (if vin x1 4 = true then ((sX7_agree (x1.toNatClampNeg) σ).bind (fun z => sX8_frame_38 (sX8_frame_24 n) x1 z.2)) else none))
set_option maxHeartbeats 4000000 in
set_option maxRecDepth 100000 in
theorem kX8_frame_24 {r : Int32} {u : TS} (C0 : gC RX8 cX8_frame 3 ((some .int)) wsX8_frame p s m args meth c) (hK : va_K D vwCl (tyL cy) s) (hJ : gJ 78 q) : ∀ (n : Nat) (H : Heap) (locs : List Loc) (σ : TS) (x1 : Int32) (hP : va_P D vwCl (gS 78 q (TX cy q) σ) H) (hS : va_S (gA 78 q) s.heap H locs) (ls : Array Slot) (hl : lv_has ls 3 [(0, .ref (q (0))), (1, .int x1)]) (hp : sX8_frame_24 n x1 σ = some (r, u)), W p l e rmX8_frame s m args below meth c H locs 0 0 (MQ below (gQi D vwCl r (gS 78 q (TX cy q) u) (gA 78 q)) args s 0 0 (gA 78 q)) (F0 m 24 ls []) := by
  obtain ⟨hx, hb, hr, hml, hown, hts, hlocks⟩ := id C0
  intro n
  induction n with
  | zero =>
    intro H locs σ x1 hP hS ls hl hp
    cases hp
  | succ n ih =>
    intro H locs σ x1 hP hS ls hl hp
    unfold sX8_frame_24 at hp
    refine lv_iload_n hx hb dX8_frame_24 rfl (lv_at hl 1 rfl) ?_
    refine lv_iconst (v := (4 : Int32)) hx hb dX8_frame_25 (by decide) ?_
    refine lv_icmp_ge (tgt := 44) hx hb dX8_frame_26 (by decide) (fun hcd31 => ?_) (fun hcd31 => ?_)
    · have hp := o_t hp hcd31
      refine lv_iconst (v := (0 : Int32)) hx hb dX8_frame_44 (by decide) ?_
      refine lv_istore_n (lv' := [(1, .int ((0 : Int32))), (0, .ref (q (0)))]) hx hb dX8_frame_45 rfl hl (by decide) rfl (fun ls hl => ?_)
      exact kX8_frame_46 C0 hK hJ _ _ _ _ _  hP hS _ (lv_sub hl [1, 0] rfl) hp
    · have hp := o_f hp hcd31
      refine lv_aload_n hx hb dX8_frame_29 rfl (lv_at hl 0 rfl) ?_
      refine g_get (v := .ref (q (7))) hx hb hts miX8_frame_X8 hown hK hP (kk_Tri) (ce_Tri) rfl 5 (by decide) mwX8_frame_4 rfl dX8_frame_30 ?_
      refine lv_iload_n hx hb dX8_frame_33 rfl (lv_at hl 1 rfl) ?_
      obtain ⟨hi32, hp⟩ := o_chk hp
      have hn33 : x1.toNatClampNeg < 4 := Nat.lt_of_lt_of_le (vin_lt hi32) (by decide)
      refine g_aald (j := x1.toNatClampNeg) hx hb hK hP (kk_SensArr) (ce_SensArr) 7 rfl rfl (vin_of hi32) rfl dX8_frame_34 ?_
      obtain ⟨⟨r34, u35⟩, hq36, hp⟩ := o_b hp
      refine g_cVv (As := []) (rest := []) hx hb hml hown hts hK hP hS (mX7_agree l hJ hn33 hq36) (cwV 0 hts gX8_frame_X7_agree rfl rfl rfl nVX7_agree ⟨Nat.le_of_ble_eq_true rfl, Nat.le_of_ble_eq_true rfl⟩) (g_recv hK hP (kk_Sens hn33) (ce_Sens hn33) rfl) rfl hl.1 rfl (Nat.le_of_ble_eq_true rfl) dX8_frame_35 ⟨Nat.le_of_ble_eq_true rfl, Nat.le_of_ble_eq_true rfl⟩ (fun H locs hP hS => ?_)
      exact kX8_frame_38 C0 hK hJ ih  hP hS hl hp
def sX8_frame_22 (σ : TS) : Option (Int32 × TS) := sX8_frame_24 5 ((0 : Int32)) σ
set_option maxHeartbeats 4000000 in
set_option maxRecDepth 100000 in
theorem kX8_frame_22 {r : Int32} {u : TS} (C0 : gC RX8 cX8_frame 3 ((some .int)) wsX8_frame p s m args meth c) (hK : va_K D vwCl (tyL cy) s) (hJ : gJ 78 q) {H : Heap} {locs : List Loc} {σ : TS} (hP : va_P D vwCl (gS 78 q (TX cy q) σ) H) (hS : va_S (gA 78 q) s.heap H locs) {ls : Array Slot} (hl : lv_has ls 3 [(0, .ref (q (0)))]) (hp : sX8_frame_22 σ = some (r, u)) : W p l e rmX8_frame s m args below meth c H locs 0 0 (MQ below (gQi D vwCl r (gS 78 q (TX cy q) u) (gA 78 q)) args s 0 0 (gA 78 q)) (F0 m 22 ls []) := by
  obtain ⟨hx, hb, hr, hml, hown, hts, hlocks⟩ := id C0
  unfold sX8_frame_22 at hp
  refine lv_iconst (v := (0 : Int32)) hx hb dX8_frame_22 (by decide) ?_
  refine lv_istore_n (lv' := [(1, .int ((0 : Int32))), (0, .ref (q (0)))]) hx hb dX8_frame_23 rfl hl (by decide) rfl (fun ls hl => ?_)
  exact kX8_frame_24 C0 hK hJ _ _ _ _ _  hP hS _ (lv_sub hl [1, 0] rfl) hp
def sX8_frame_14 (sx0 : Int32) (σ : TS) : Option (Int32 × TS) := (if sx0 = 0 then sX8_frame_22 (st2 σ 0 15 ((1 : Int32))) else sX8_frame_22 σ)
set_option maxHeartbeats 4000000 in
set_option maxRecDepth 100000 in
theorem kX8_frame_14 {r : Int32} {u : TS} (C0 : gC RX8 cX8_frame 3 ((some .int)) wsX8_frame p s m args meth c) (hK : va_K D vwCl (tyL cy) s) (hJ : gJ 78 q) {H : Heap} {locs : List Loc} {σ : TS} {sx0 : Int32} (hP : va_P D vwCl (gS 78 q (TX cy q) σ) H) (hS : va_S (gA 78 q) s.heap H locs) {ls : Array Slot} (hl : lv_has ls 3 [(0, .ref (q (0)))]) (hp : sX8_frame_14 sx0 σ = some (r, u)) : W p l e rmX8_frame s m args below meth c H locs 0 0 (MQ below (gQi D vwCl r (gS 78 q (TX cy q) u) (gA 78 q)) args s 0 0 (gA 78 q)) (F0 m 14 ls [.int sx0]) := by
  obtain ⟨hx, hb, hr, hml, hown, hts, hlocks⟩ := id C0
  unfold sX8_frame_14 at hp
  refine lv_if_ne (tgt := 22) hx hb dX8_frame_14 (by decide) (fun hcd37 => ?_) (fun hcd37 => ?_)
  · have hp := o_f hp hcd37
    exact kX8_frame_22 C0 hK hJ  hP hS hl hp
  · have hp := o_t hp hcd37
    refine lv_aload_n hx hb dX8_frame_17 rfl (lv_at hl 0 rfl) ?_
    refine lv_iconst (v := (1 : Int32)) hx hb dX8_frame_18 (by decide) ?_
    refine g_put (v := (1 : Int32)) hx hb hts miX8_frame_X8 tyX8 tyX8_ok nmX8 hown hK hJ hP hS (kk_Tri) (ce_Tri) rfl 15 (by decide) mwX8_frame_5 rfl (zok_n (by decide)).1 (zok_n (by decide)).2 (Nat.le_of_ble_eq_true rfl) rfl dX8_frame_19 (fun H locs hP hS => ?_)
    exact kX8_frame_22 C0 hK hJ  hP hS hl hp
def sX8_frame_0 (σ : TS) : Option (Int32 × TS) := ((sX8_countOn (st2 σ 0 10 ((σ 0 10) + ((1 : Int32))))).bind (fun z => sX8_frame_14 z.1 z.2))
set_option maxHeartbeats 4000000 in
set_option maxRecDepth 100000 in
theorem kX8_frame_0 {r : Int32} {u : TS} (C0 : gC RX8 cX8_frame 3 ((some .int)) wsX8_frame p s m args meth c) (hK : va_K D vwCl (tyL cy) s) (hJ : gJ 78 q) {H : Heap} {locs : List Loc} {σ : TS} (hP : va_P D vwCl (gS 78 q (TX cy q) σ) H) (hS : va_S (gA 78 q) s.heap H locs) {ls : Array Slot} (hl : lv_has ls 3 [(0, .ref (q (0)))]) (hp : sX8_frame_0 σ = some (r, u)) : W p l e rmX8_frame s m args below meth c H locs 0 0 (MQ below (gQi D vwCl r (gS 78 q (TX cy q) u) (gA 78 q)) args s 0 0 (gA 78 q)) (F0 m 0 ls []) := by
  obtain ⟨hx, hb, hr, hml, hown, hts, hlocks⟩ := id C0
  unfold sX8_frame_0 at hp
  refine lv_aload_n hx hb dX8_frame_0 rfl (lv_at hl 0 rfl) ?_
  refine lv_dup hx hb dX8_frame_1 rfl ?_
  refine g_get (v := .int (σ 0 10)) hx hb hts miX8_frame_X8 hown hK hP (kk_Tri) (ce_Tri) rfl 10 (by decide) mwX8_frame_6 rfl dX8_frame_2 ?_
  refine lv_iconst (v := (1 : Int32)) hx hb dX8_frame_5 (by decide) ?_
  refine lv_iadd hx hb dX8_frame_6 ?_
  refine g_put (v := (σ 0 10) + ((1 : Int32))) hx hb hts miX8_frame_X8 tyX8 tyX8_ok nmX8 hown hK hJ hP hS (kk_Tri) (ce_Tri) rfl 10 (by decide) mwX8_frame_6 rfl rfl rfl (Nat.le_of_ble_eq_true rfl) rfl dX8_frame_7 (fun H locs hP hS => ?_)
  refine lv_aload_n hx hb dX8_frame_10 rfl (lv_at hl 0 rfl) ?_
  obtain ⟨⟨r38, u39⟩, hq40, hp⟩ := o_b hp
  refine g_cVi (As := []) (rest := []) hx hb hml hown hts hK hP hS (mX8_countOn l hJ hq40) (cwV 0 hts gX8_frame_X8_countOn rfl rfl rfl nVX8_countOn ⟨Nat.le_of_ble_eq_true rfl, Nat.le_of_ble_eq_true rfl⟩) (g_recv hK hP (kk_Tri) (ce_Tri) rfl) rfl hl.1 rfl (Nat.le_of_ble_eq_true rfl) dX8_frame_11 ⟨Nat.le_of_ble_eq_true rfl, Nat.le_of_ble_eq_true rfl⟩ (fun H locs hP hS => ?_)
  exact kX8_frame_14 C0 hK hJ  hP hS hl hp
def sX8_frame (σ : TS) : Option (Int32 × TS) := sX8_frame_0 σ
theorem nVX8_frame : yX8_frame.cls = RX8 ∧ yX8_frame.cls ≠ "java/lang/invoke/MethodHandle" ∧ yX8_frame.cls ≠ "java/lang/invoke/VarHandle" ∧ (parseMethodDescriptor yX8_frame.desc).map (fun d => d.parameters.length) = some 0 := by decide +kernel
set_option maxHeartbeats 4000000 in
set_option maxRecDepth 100000 in
theorem mX8_frame (l : Launch) (hJ : gJ 78 q) {σ : TS} {r : Int32} {u : TS} (hp : sX8_frame σ = some (r, u)) : Met l yX8_frame wsX8_frame rmX8_frame (va_Pc [.ref (q (0))] (gPre D vwCl (tyL cy) (gS 78 q (TX cy q) σ))) (gQi D vwCl r (gS 78 q (TX cy q) u) (gA 78 q)) 0 0 (gA 78 q) := by
  refine Met.ofW (cc := cX8_frame) (maxL := 3) (ret := (some .int)) (by decide +kernel) rfl ?_
  intro p e s m args below meth c s₁ B hml hv
  obtain ⟨rfl, hP, hK⟩ := hv
  have hl := lv_entry ([.ref (q (0))]) (n := 3) (Nat.le_of_ble_eq_true rfl)
  rw [lg_entry_eq]
  generalize (lg_sl ([.ref (q (0))]) ++ List.replicate (3 - (lg_sl ([.ref (q (0))])).length) Slot.unset).toArray = ls at hl ⊢
  have hl : lv_has ls 3 [(0, .ref (q (0)))] := hl
  exact kX8_frame_0 ⟨B.exec, B.bytes, B.returns, hml, findClass_of_methodNamed B.named, atoms_spec (ws := wsX8_frame) B.pre, B.notSynchronized⟩ hK hJ  hP va_S.rf hl hp
theorem miX8_isPlain_X8 : ∀ w ∈ u_ws RX8 TX8 16, w ∈ wsX8_isPlain := by decide +kernel
theorem mwX8_isPlain_0 : Cond.fieldLink RX8 49 "Triplane" "outputs" "[I" ∈ wsX8_isPlain := by decide +kernel
theorem mwX8_isPlain_1 : Cond.fieldLink RX8 53 "Triplane" "plainOutputs" "[I" ∈ wsX8_isPlain := by decide +kernel
abbrev rmX8_isPlain : Room := { frames := 0, cells := 0, slots := 0, locals := 0 }
def sX8_isPlain_2 : Nat → Int32 → TS → Option (Int32 × TS)
  | 0, _, _ => none
  | n + 1, x1, σ => (if ((4 : Int32)) ≤ x1 then some ((1 : Int32), σ) else (if vin x1 4 = true then (if (σ (9+0) (x1.toNatClampNeg)) = (σ (9+1) (x1.toNatClampNeg)) then sX8_isPlain_2 n (x1 + (1 : Int32)) σ else some ((0 : Int32), σ)) else none))
set_option maxHeartbeats 4000000 in
set_option maxRecDepth 100000 in
theorem kX8_isPlain_2 {r : Int32} {u : TS} (C0 : gC RX8 cX8_isPlain 2 ((some .boolean)) wsX8_isPlain p s m args meth c) (hK : va_K D vwCl (tyL cy) s) (hJ : gJ 78 q) : ∀ (n : Nat) (H : Heap) (locs : List Loc) (σ : TS) (x1 : Int32) (hP : va_P D vwCl (gS 78 q (TX cy q) σ) H) (hS : va_S (gA 78 q) s.heap H locs) (ls : Array Slot) (hl : lv_has ls 2 [(0, .ref (q (0))), (1, .int x1)]) (hp : sX8_isPlain_2 n x1 σ = some (r, u)), W p l e rmX8_isPlain s m args below meth c H locs 0 0 (MQ below (gQi D vwCl r (gS 78 q (TX cy q) u) (gA 78 q)) args s 0 0 (gA 78 q)) (F0 m 2 ls []) := by
  obtain ⟨hx, hb, hr, hml, hown, hts, hlocks⟩ := id C0
  intro n
  induction n with
  | zero =>
    intro H locs σ x1 hP hS ls hl hp
    cases hp
  | succ n ih =>
    intro H locs σ x1 hP hS ls hl hp
    unfold sX8_isPlain_2 at hp
    refine lv_iload_n hx hb dX8_isPlain_2 rfl (lv_at hl 1 rfl) ?_
    refine lv_iconst (v := (4 : Int32)) hx hb dX8_isPlain_3 (by decide) ?_
    refine lv_icmp_ge (tgt := 30) hx hb dX8_isPlain_4 (by decide) (fun hcd1 => ?_) (fun hcd1 => ?_)
    · have hp := o_t hp hcd1
      refine lv_iconst (v := (1 : Int32)) hx hb dX8_isPlain_30 (by decide) ?_
      obtain ⟨rfl, rfl⟩ := o_r hp
      exact W.zret (v := (1 : Int32)) hx hb hr (zok_n (by decide)).1 (fun t ht hW => ⟨⟨(1 : Int32), (), rfl, rfl, by subst ht; exact hP⟩, hS.F ht⟩) hS.2.2 dX8_isPlain_31
    · have hp := o_f hp hcd1
      refine lv_aload_n hx hb dX8_isPlain_7 rfl (lv_at hl 0 rfl) ?_
      refine g_get (v := .ref (q (9+0))) hx hb hts miX8_isPlain_X8 hown hK hP (kk_Tri) (ce_Tri) rfl 7 (by decide) mwX8_isPlain_0 rfl dX8_isPlain_8 ?_
      refine lv_iload_n hx hb dX8_isPlain_11 rfl (lv_at hl 1 rfl) ?_
      obtain ⟨hi2, hp⟩ := o_chk hp
      refine g_iald (j := x1.toNatClampNeg) hx hb hK hP (kk_Out (by decide)) (ce_Out (by decide)) 0 rfl (vin_of hi2) rfl dX8_isPlain_12 ?_
      refine lv_aload_n hx hb dX8_isPlain_13 rfl (lv_at hl 0 rfl) ?_
      refine g_get (v := .ref (q (9+1))) hx hb hts miX8_isPlain_X8 hown hK hP (kk_Tri) (ce_Tri) rfl 8 (by decide) mwX8_isPlain_1 rfl dX8_isPlain_14 ?_
      refine lv_iload_n hx hb dX8_isPlain_17 rfl (lv_at hl 1 rfl) ?_
      refine g_iald (j := x1.toNatClampNeg) hx hb hK hP (kk_Out (by decide)) (ce_Out (by decide)) 0 rfl (vin_of hi2) rfl dX8_isPlain_18 ?_
      refine lv_icmp_eq (tgt := 24) hx hb dX8_isPlain_19 (by decide) (fun hcd3 => ?_) (fun hcd3 => ?_)
      · have hp := o_t hp hcd3
        refine lv_iinc (v := x1 + (1 : Int32)) (lv' := [(1, .int (x1 + (1 : Int32))), (0, .ref (q (0)))]) hx hb dX8_isPlain_24 hl (k := 1) rfl rfl (by decide) rfl (fun ls hl => ?_)
        refine lv_goto (tgt := 2) hx hb dX8_isPlain_27 (by decide) ?_
        exact ih _ _ _ _  hP hS _ (lv_sub hl [1, 0] rfl) hp
      · have hp := o_f hp hcd3
        refine lv_iconst (v := (0 : Int32)) hx hb dX8_isPlain_22 (by decide) ?_
        obtain ⟨rfl, rfl⟩ := o_r hp
        exact W.zret (v := (0 : Int32)) hx hb hr (zok_n (by decide)).1 (fun t ht hW => ⟨⟨(0 : Int32), (), rfl, rfl, by subst ht; exact hP⟩, hS.F ht⟩) hS.2.2 dX8_isPlain_23
def sX8_isPlain_0 (σ : TS) : Option (Int32 × TS) := sX8_isPlain_2 5 ((0 : Int32)) σ
set_option maxHeartbeats 4000000 in
set_option maxRecDepth 100000 in
theorem kX8_isPlain_0 {r : Int32} {u : TS} (C0 : gC RX8 cX8_isPlain 2 ((some .boolean)) wsX8_isPlain p s m args meth c) (hK : va_K D vwCl (tyL cy) s) (hJ : gJ 78 q) {H : Heap} {locs : List Loc} {σ : TS} (hP : va_P D vwCl (gS 78 q (TX cy q) σ) H) (hS : va_S (gA 78 q) s.heap H locs) {ls : Array Slot} (hl : lv_has ls 2 [(0, .ref (q (0)))]) (hp : sX8_isPlain_0 σ = some (r, u)) : W p l e rmX8_isPlain s m args below meth c H locs 0 0 (MQ below (gQi D vwCl r (gS 78 q (TX cy q) u) (gA 78 q)) args s 0 0 (gA 78 q)) (F0 m 0 ls []) := by
  obtain ⟨hx, hb, hr, hml, hown, hts, hlocks⟩ := id C0
  unfold sX8_isPlain_0 at hp
  refine lv_iconst (v := (0 : Int32)) hx hb dX8_isPlain_0 (by decide) ?_
  refine lv_istore_n (lv' := [(1, .int ((0 : Int32))), (0, .ref (q (0)))]) hx hb dX8_isPlain_1 rfl hl (by decide) rfl (fun ls hl => ?_)
  exact kX8_isPlain_2 C0 hK hJ _ _ _ _ _  hP hS _ (lv_sub hl [1, 0] rfl) hp
def sX8_isPlain (σ : TS) : Option (Int32 × TS) := sX8_isPlain_0 σ
theorem nVX8_isPlain : yX8_isPlain.cls = RX8 ∧ yX8_isPlain.cls ≠ "java/lang/invoke/MethodHandle" ∧ yX8_isPlain.cls ≠ "java/lang/invoke/VarHandle" ∧ (parseMethodDescriptor yX8_isPlain.desc).map (fun d => d.parameters.length) = some 0 := by decide +kernel
set_option maxHeartbeats 4000000 in
set_option maxRecDepth 100000 in
theorem mX8_isPlain (l : Launch) (hJ : gJ 78 q) {σ : TS} {r : Int32} {u : TS} (hp : sX8_isPlain σ = some (r, u)) : Met l yX8_isPlain wsX8_isPlain rmX8_isPlain (va_Pc [.ref (q (0))] (gPre D vwCl (tyL cy) (gS 78 q (TX cy q) σ))) (gQi D vwCl r (gS 78 q (TX cy q) u) (gA 78 q)) 0 0 (gA 78 q) := by
  refine Met.ofW (cc := cX8_isPlain) (maxL := 2) (ret := (some .boolean)) (by decide +kernel) rfl ?_
  intro p e s m args below meth c s₁ B hml hv
  obtain ⟨rfl, hP, hK⟩ := hv
  have hl := lv_entry ([.ref (q (0))]) (n := 2) (Nat.le_of_ble_eq_true rfl)
  rw [lg_entry_eq]
  generalize (lg_sl ([.ref (q (0))]) ++ List.replicate (2 - (lg_sl ([.ref (q (0))])).length) Slot.unset).toArray = ls at hl ⊢
  have hl : lv_has ls 2 [(0, .ref (q (0)))] := hl
  exact kX8_isPlain_0 ⟨B.exec, B.bytes, B.returns, hml, findClass_of_methodNamed B.named, atoms_spec (ws := wsX8_isPlain) B.pre, B.notSynchronized⟩ hK hJ  hP va_S.rf hl hp
theorem miX8_isTrue_X1 : ∀ w ∈ u_ws RX1 TX1 14, w ∈ wsX8_isTrue := by decide +kernel
theorem miX8_isTrue_X8 : ∀ w ∈ u_ws RX8 TX8 16, w ∈ wsX8_isTrue := by decide +kernel
theorem mwX8_isTrue_0 : Cond.fieldLink RX8 59 "Triplane" "log" "LTriplane$Log;" ∈ wsX8_isTrue := by decide +kernel
theorem mwX8_isTrue_1 : Cond.fieldLink RX8 11 "Triplane" "computers" "[LTriplane$Computer;" ∈ wsX8_isTrue := by decide +kernel
theorem mwX8_isTrue_2 : Cond.fieldLink RX8 162 "Triplane$Computer" "isRunning" "Z" ∈ wsX8_isTrue := by decide +kernel
theorem mwX8_isTrue_3 : Cond.fieldLink RX8 165 "Triplane$Computer" "strikeCount" "I" ∈ wsX8_isTrue := by decide +kernel
theorem mwX8_isTrue_4 : Cond.fieldLink RX8 77 "Triplane" "hadFault" "Z" ∈ wsX8_isTrue := by decide +kernel
theorem mwX8_isTrue_5 : Cond.fieldLink RX8 81 "Triplane" "hadFrameAllOff" "Z" ∈ wsX8_isTrue := by decide +kernel
abbrev rmX8_isTrue : Room := { frames := 4, cells := 0, slots := 0, locals := 87 }
def sX8_isTrue_92 (K25 : Int32 → TS → Option (Int32 × TS)) (x1 : Int32) (σ : TS) : Option (Int32 × TS) := K25 (x1 + (1 : Int32)) σ
set_option maxHeartbeats 4000000 in
set_option maxRecDepth 100000 in
theorem kX8_isTrue_92 {r : Int32} {u : TS} {K25 : Int32 → TS → Option (Int32 × TS)} (C0 : gC RX8 cX8_isTrue 2 ((some .boolean)) wsX8_isTrue p s m args meth c) (hK : va_K D vwCl (tyL cy) s) (hJ : gJ 78 q) (kh25 : ∀ (H : Heap) (locs : List Loc) (σ : TS) (x1 : Int32) (hP : va_P D vwCl (gS 78 q (TX cy q) σ) H) (hS : va_S (gA 78 q) s.heap H locs) (ls : Array Slot) (hl : lv_has ls 2 [(0, .ref (q (0))), (1, .int x1)]) (hp : K25 x1 σ = some (r, u)), W p l e rmX8_isTrue s m args below meth c H locs 0 0 (MQ below (gQi D vwCl r (gS 78 q (TX cy q) u) (gA 78 q)) args s 0 0 (gA 78 q)) (F0 m 25 ls [])) {H : Heap} {locs : List Loc} {σ : TS} {x1 : Int32} (hP : va_P D vwCl (gS 78 q (TX cy q) σ) H) (hS : va_S (gA 78 q) s.heap H locs) {ls : Array Slot} (hl : lv_has ls 2 [(0, .ref (q (0))), (1, .int x1)]) (hp : sX8_isTrue_92 K25 x1 σ = some (r, u)) : W p l e rmX8_isTrue s m args below meth c H locs 0 0 (MQ below (gQi D vwCl r (gS 78 q (TX cy q) u) (gA 78 q)) args s 0 0 (gA 78 q)) (F0 m 92 ls []) := by
  obtain ⟨hx, hb, hr, hml, hown, hts, hlocks⟩ := id C0
  unfold sX8_isTrue_92 at hp
  refine lv_iinc (v := x1 + (1 : Int32)) (lv' := [(1, .int (x1 + (1 : Int32))), (0, .ref (q (0)))]) hx hb dX8_isTrue_92 hl (k := 1) rfl rfl (by decide) rfl (fun ls hl => ?_)
  refine lv_goto (tgt := 25) hx hb dX8_isTrue_95 (by decide) ?_
  exact kh25 _ _ _ _  hP hS _ (lv_sub hl [1, 0] rfl) hp
def sX8_isTrue_87 (K25 : Int32 → TS → Option (Int32 × TS)) (x1 : Int32) (sx0 : Int32) (σ : TS) : Option (Int32 × TS) := (if sx0 = 0 then some ((0 : Int32), σ) else sX8_isTrue_92 K25 x1 σ)
set_option maxHeartbeats 4000000 in
set_option maxRecDepth 100000 in
theorem kX8_isTrue_87 {r : Int32} {u : TS} {K25 : Int32 → TS → Option (Int32 × TS)} (C0 : gC RX8 cX8_isTrue 2 ((some .boolean)) wsX8_isTrue p s m args meth c) (hK : va_K D vwCl (tyL cy) s) (hJ : gJ 78 q) (kh25 : ∀ (H : Heap) (locs : List Loc) (σ : TS) (x1 : Int32) (hP : va_P D vwCl (gS 78 q (TX cy q) σ) H) (hS : va_S (gA 78 q) s.heap H locs) (ls : Array Slot) (hl : lv_has ls 2 [(0, .ref (q (0))), (1, .int x1)]) (hp : K25 x1 σ = some (r, u)), W p l e rmX8_isTrue s m args below meth c H locs 0 0 (MQ below (gQi D vwCl r (gS 78 q (TX cy q) u) (gA 78 q)) args s 0 0 (gA 78 q)) (F0 m 25 ls [])) {H : Heap} {locs : List Loc} {σ : TS} {x1 : Int32} {sx0 : Int32} (hP : va_P D vwCl (gS 78 q (TX cy q) σ) H) (hS : va_S (gA 78 q) s.heap H locs) {ls : Array Slot} (hl : lv_has ls 2 [(0, .ref (q (0))), (1, .int x1)]) (hp : sX8_isTrue_87 K25 x1 sx0 σ = some (r, u)) : W p l e rmX8_isTrue s m args below meth c H locs 0 0 (MQ below (gQi D vwCl r (gS 78 q (TX cy q) u) (gA 78 q)) args s 0 0 (gA 78 q)) (F0 m 87 ls [.int sx0]) := by
  obtain ⟨hx, hb, hr, hml, hown, hts, hlocks⟩ := id C0
  unfold sX8_isTrue_87 at hp
  refine lv_if_ne (tgt := 92) hx hb dX8_isTrue_87 (by decide) (fun hcd1 => ?_) (fun hcd1 => ?_)
  · have hp := o_f hp hcd1
    exact kX8_isTrue_92 C0 hK hJ kh25  hP hS hl hp
  · have hp := o_t hp hcd1
    refine lv_iconst (v := (0 : Int32)) hx hb dX8_isTrue_90 (by decide) ?_
    obtain ⟨rfl, rfl⟩ := o_r hp
    exact W.zret (v := (0 : Int32)) hx hb hr (zok_n (by decide)).1 (fun t ht hW => ⟨⟨(0 : Int32), (), rfl, rfl, by subst ht; exact hP⟩, hS.F ht⟩) hS.2.2 dX8_isTrue_91
def sX8_isTrue_76 (K25 : Int32 → TS → Option (Int32 × TS)) (x1 : Int32) (sx0 : Int32) (σ : TS) : Option (Int32 × TS) := (if sx0 = 0 then ((sX3_tellsOff x1 σ).bind (fun z => sX8_isTrue_87 K25 x1 z.1 z.2)) else sX8_isTrue_92 K25 x1 σ)
set_option maxHeartbeats 4000000 in
set_option maxRecDepth 100000 in
theorem kX8_isTrue_76 {r : Int32} {u : TS} {K25 : Int32 → TS → Option (Int32 × TS)} (C0 : gC RX8 cX8_isTrue 2 ((some .boolean)) wsX8_isTrue p s m args meth c) (hK : va_K D vwCl (tyL cy) s) (hJ : gJ 78 q) (kh25 : ∀ (H : Heap) (locs : List Loc) (σ : TS) (x1 : Int32) (hP : va_P D vwCl (gS 78 q (TX cy q) σ) H) (hS : va_S (gA 78 q) s.heap H locs) (ls : Array Slot) (hl : lv_has ls 2 [(0, .ref (q (0))), (1, .int x1)]) (hp : K25 x1 σ = some (r, u)), W p l e rmX8_isTrue s m args below meth c H locs 0 0 (MQ below (gQi D vwCl r (gS 78 q (TX cy q) u) (gA 78 q)) args s 0 0 (gA 78 q)) (F0 m 25 ls [])) {H : Heap} {locs : List Loc} {σ : TS} {x1 : Int32} {sx0 : Int32} (hP : va_P D vwCl (gS 78 q (TX cy q) σ) H) (hS : va_S (gA 78 q) s.heap H locs) {ls : Array Slot} (hl : lv_has ls 2 [(0, .ref (q (0))), (1, .int x1)]) (hp : sX8_isTrue_76 K25 x1 sx0 σ = some (r, u)) : W p l e rmX8_isTrue s m args below meth c H locs 0 0 (MQ below (gQi D vwCl r (gS 78 q (TX cy q) u) (gA 78 q)) args s 0 0 (gA 78 q)) (F0 m 76 ls [.int sx0]) := by
  obtain ⟨hx, hb, hr, hml, hown, hts, hlocks⟩ := id C0
  unfold sX8_isTrue_76 at hp
  refine lv_if_ne (tgt := 92) hx hb dX8_isTrue_76 (by decide) (fun hcd2 => ?_) (fun hcd2 => ?_)
  · have hp := o_f hp hcd2
    exact kX8_isTrue_92 C0 hK hJ kh25  hP hS hl hp
  · have hp := o_t hp hcd2
    refine lv_aload_n hx hb dX8_isTrue_79 rfl (lv_at hl 0 rfl) ?_
    refine g_get (v := .ref (q (11))) hx hb hts miX8_isTrue_X8 hown hK hP (kk_Tri) (ce_Tri) rfl 9 (by decide) mwX8_isTrue_0 rfl dX8_isTrue_80 ?_
    refine lv_iload_n hx hb dX8_isTrue_83 rfl (lv_at hl 1 rfl) ?_
    obtain ⟨⟨r3, u4⟩, hq5, hp⟩ := o_b hp
    refine g_cVi (As := [.int x1]) (rest := []) hx hb hml hown hts hK hP hS (mX3_tellsOff l hJ hq5) (cwV 1 hts gX8_isTrue_X3_tellsOff rfl rfl rfl nVX3_tellsOff ⟨Nat.le_of_ble_eq_true rfl, Nat.le_of_ble_eq_true rfl⟩) (g_recv hK hP (kk_Log) (ce_Log) rfl) rfl hl.1 rfl (Nat.le_of_ble_eq_true rfl) dX8_isTrue_84 ⟨Nat.le_of_ble_eq_true rfl, Nat.le_of_ble_eq_true rfl⟩ (fun H locs hP hS => ?_)
    exact kX8_isTrue_87 C0 hK hJ kh25  hP hS hl hp
def sX8_isTrue_57 (K25 : Int32 → TS → Option (Int32 × TS)) (x1 : Int32) (σ : TS) : Option (Int32 × TS) := (if vin x1 3 = true then (if (σ (15+6*(x1.toNatClampNeg)) 6) = 0 then ((sX3_wasFull σ).bind (fun z => sX8_isTrue_76 K25 x1 z.1 z.2)) else sX8_isTrue_92 K25 x1 σ) else none)
set_option maxHeartbeats 4000000 in
set_option maxRecDepth 100000 in
theorem kX8_isTrue_57 {r : Int32} {u : TS} {K25 : Int32 → TS → Option (Int32 × TS)} (C0 : gC RX8 cX8_isTrue 2 ((some .boolean)) wsX8_isTrue p s m args meth c) (hK : va_K D vwCl (tyL cy) s) (hJ : gJ 78 q) (kh25 : ∀ (H : Heap) (locs : List Loc) (σ : TS) (x1 : Int32) (hP : va_P D vwCl (gS 78 q (TX cy q) σ) H) (hS : va_S (gA 78 q) s.heap H locs) (ls : Array Slot) (hl : lv_has ls 2 [(0, .ref (q (0))), (1, .int x1)]) (hp : K25 x1 σ = some (r, u)), W p l e rmX8_isTrue s m args below meth c H locs 0 0 (MQ below (gQi D vwCl r (gS 78 q (TX cy q) u) (gA 78 q)) args s 0 0 (gA 78 q)) (F0 m 25 ls [])) {H : Heap} {locs : List Loc} {σ : TS} {x1 : Int32} (hP : va_P D vwCl (gS 78 q (TX cy q) σ) H) (hS : va_S (gA 78 q) s.heap H locs) {ls : Array Slot} (hl : lv_has ls 2 [(0, .ref (q (0))), (1, .int x1)]) (hp : sX8_isTrue_57 K25 x1 σ = some (r, u)) : W p l e rmX8_isTrue s m args below meth c H locs 0 0 (MQ below (gQi D vwCl r (gS 78 q (TX cy q) u) (gA 78 q)) args s 0 0 (gA 78 q)) (F0 m 57 ls []) := by
  obtain ⟨hx, hb, hr, hml, hown, hts, hlocks⟩ := id C0
  unfold sX8_isTrue_57 at hp
  refine lv_aload_n hx hb dX8_isTrue_57 rfl (lv_at hl 0 rfl) ?_
  refine g_get (v := .ref (q (1))) hx hb hts miX8_isTrue_X8 hown hK hP (kk_Tri) (ce_Tri) rfl 0 (by decide) mwX8_isTrue_1 rfl dX8_isTrue_58 ?_
  refine lv_iload_n hx hb dX8_isTrue_61 rfl (lv_at hl 1 rfl) ?_
  obtain ⟨hi6, hp⟩ := o_chk hp
  have hn7 : x1.toNatClampNeg < 4 := Nat.lt_of_lt_of_le (vin_lt hi6) (by decide)
  refine g_aald (j := x1.toNatClampNeg) hx hb hK hP (kk_CompArr) (ce_CompArr) 3 rfl rfl (vin_of hi6) rfl dX8_isTrue_62 ?_
  refine g_get (v := .int (σ (15+6*(x1.toNatClampNeg)) 6)) hx hb hts miX8_isTrue_X1 hown hK hP (kk_Comp hn7) (ce_Comp hn7) rfl 6 (by decide) mwX8_isTrue_2 rfl dX8_isTrue_63 ?_
  refine lv_if_ne (tgt := 92) hx hb dX8_isTrue_66 (by decide) (fun hcd8 => ?_) (fun hcd8 => ?_)
  · have hp := o_f hp hcd8
    exact kX8_isTrue_92 C0 hK hJ kh25  hP hS hl hp
  · have hp := o_t hp hcd8
    refine lv_aload_n hx hb dX8_isTrue_69 rfl (lv_at hl 0 rfl) ?_
    refine g_get (v := .ref (q (11))) hx hb hts miX8_isTrue_X8 hown hK hP (kk_Tri) (ce_Tri) rfl 9 (by decide) mwX8_isTrue_0 rfl dX8_isTrue_70 ?_
    obtain ⟨⟨r9, u10⟩, hq11, hp⟩ := o_b hp
    refine g_cVi (As := []) (rest := []) hx hb hml hown hts hK hP hS (mX3_wasFull l hJ hq11) (cwV 0 hts gX8_isTrue_X3_wasFull rfl rfl rfl nVX3_wasFull ⟨Nat.le_of_ble_eq_true rfl, Nat.le_of_ble_eq_true rfl⟩) (g_recv hK hP (kk_Log) (ce_Log) rfl) rfl hl.1 rfl (Nat.le_of_ble_eq_true rfl) dX8_isTrue_73 ⟨Nat.le_of_ble_eq_true rfl, Nat.le_of_ble_eq_true rfl⟩ (fun H locs hP hS => ?_)
    exact kX8_isTrue_76 C0 hK hJ kh25  hP hS hl hp
def sX8_isTrue_25 : Nat → Int32 → TS → Option (Int32 × TS)
  | 0, _, _ => none
  | n + 1, x1, σ => (if ((3 : Int32)) ≤ x1 then some ((1 : Int32), σ) else (if vin x1 3 = true then (if (σ (15+6*(x1.toNatClampNeg)) 6) = 0 then sX8_isTrue_57 (sX8_isTrue_25 n) x1 σ else (if (σ (15+6*(x1.toNatClampNeg)) 4) < ((3 : Int32)) then sX8_isTrue_57 (sX8_isTrue_25 n) x1 σ else some ((0 : Int32), σ))) else none))
set_option maxHeartbeats 4000000 in
set_option maxRecDepth 100000 in
theorem kX8_isTrue_25 {r : Int32} {u : TS} (C0 : gC RX8 cX8_isTrue 2 ((some .boolean)) wsX8_isTrue p s m args meth c) (hK : va_K D vwCl (tyL cy) s) (hJ : gJ 78 q) : ∀ (n : Nat) (H : Heap) (locs : List Loc) (σ : TS) (x1 : Int32) (hP : va_P D vwCl (gS 78 q (TX cy q) σ) H) (hS : va_S (gA 78 q) s.heap H locs) (ls : Array Slot) (hl : lv_has ls 2 [(0, .ref (q (0))), (1, .int x1)]) (hp : sX8_isTrue_25 n x1 σ = some (r, u)), W p l e rmX8_isTrue s m args below meth c H locs 0 0 (MQ below (gQi D vwCl r (gS 78 q (TX cy q) u) (gA 78 q)) args s 0 0 (gA 78 q)) (F0 m 25 ls []) := by
  obtain ⟨hx, hb, hr, hml, hown, hts, hlocks⟩ := id C0
  intro n
  induction n with
  | zero =>
    intro H locs σ x1 hP hS ls hl hp
    cases hp
  | succ n ih =>
    intro H locs σ x1 hP hS ls hl hp
    unfold sX8_isTrue_25 at hp
    refine lv_iload_n hx hb dX8_isTrue_25 rfl (lv_at hl 1 rfl) ?_
    refine lv_iconst (v := (3 : Int32)) hx hb dX8_isTrue_26 (by decide) ?_
    refine lv_icmp_ge (tgt := 98) hx hb dX8_isTrue_27 (by decide) (fun hcd12 => ?_) (fun hcd12 => ?_)
    · have hp := o_t hp hcd12
      refine lv_iconst (v := (1 : Int32)) hx hb dX8_isTrue_98 (by decide) ?_
      obtain ⟨rfl, rfl⟩ := o_r hp
      exact W.zret (v := (1 : Int32)) hx hb hr (zok_n (by decide)).1 (fun t ht hW => ⟨⟨(1 : Int32), (), rfl, rfl, by subst ht; exact hP⟩, hS.F ht⟩) hS.2.2 dX8_isTrue_99
    · have hp := o_f hp hcd12
      refine lv_aload_n hx hb dX8_isTrue_30 rfl (lv_at hl 0 rfl) ?_
      refine g_get (v := .ref (q (1))) hx hb hts miX8_isTrue_X8 hown hK hP (kk_Tri) (ce_Tri) rfl 0 (by decide) mwX8_isTrue_1 rfl dX8_isTrue_31 ?_
      refine lv_iload_n hx hb dX8_isTrue_34 rfl (lv_at hl 1 rfl) ?_
      obtain ⟨hi13, hp⟩ := o_chk hp
      have hn14 : x1.toNatClampNeg < 4 := Nat.lt_of_lt_of_le (vin_lt hi13) (by decide)
      refine g_aald (j := x1.toNatClampNeg) hx hb hK hP (kk_CompArr) (ce_CompArr) 3 rfl rfl (vin_of hi13) rfl dX8_isTrue_35 ?_
      refine g_get (v := .int (σ (15+6*(x1.toNatClampNeg)) 6)) hx hb hts miX8_isTrue_X1 hown hK hP (kk_Comp hn14) (ce_Comp hn14) rfl 6 (by decide) mwX8_isTrue_2 rfl dX8_isTrue_36 ?_
      refine lv_if_eq (tgt := 57) hx hb dX8_isTrue_39 (by decide) (fun hcd15 => ?_) (fun hcd15 => ?_)
      · have hp := o_t hp hcd15
        exact kX8_isTrue_57 C0 hK hJ ih  hP hS hl hp
      · have hp := o_f hp hcd15
        refine lv_aload_n hx hb dX8_isTrue_42 rfl (lv_at hl 0 rfl) ?_
        refine g_get (v := .ref (q (1))) hx hb hts miX8_isTrue_X8 hown hK hP (kk_Tri) (ce_Tri) rfl 0 (by decide) mwX8_isTrue_1 rfl dX8_isTrue_43 ?_
        refine lv_iload_n hx hb dX8_isTrue_46 rfl (lv_at hl 1 rfl) ?_
        have hn16 : x1.toNatClampNeg < 4 := Nat.lt_of_lt_of_le (vin_lt hi13) (by decide)
        refine g_aald (j := x1.toNatClampNeg) hx hb hK hP (kk_CompArr) (ce_CompArr) 3 rfl rfl (vin_of hi13) rfl dX8_isTrue_47 ?_
        refine g_get (v := .int (σ (15+6*(x1.toNatClampNeg)) 4)) hx hb hts miX8_isTrue_X1 hown hK hP (kk_Comp hn16) (ce_Comp hn16) rfl 4 (by decide) mwX8_isTrue_3 rfl dX8_isTrue_48 ?_
        refine lv_iconst (v := (3 : Int32)) hx hb dX8_isTrue_51 (by decide) ?_
        refine lv_icmp_lt (tgt := 57) hx hb dX8_isTrue_52 (by decide) (fun hcd17 => ?_) (fun hcd17 => ?_)
        · have hp := o_t hp hcd17
          exact kX8_isTrue_57 C0 hK hJ ih  hP hS hl hp
        · have hp := o_f hp hcd17
          refine lv_iconst (v := (0 : Int32)) hx hb dX8_isTrue_55 (by decide) ?_
          obtain ⟨rfl, rfl⟩ := o_r hp
          exact W.zret (v := (0 : Int32)) hx hb hr (zok_n (by decide)).1 (fun t ht hW => ⟨⟨(0 : Int32), (), rfl, rfl, by subst ht; exact hP⟩, hS.F ht⟩) hS.2.2 dX8_isTrue_56
def sX8_isTrue_23 (σ : TS) : Option (Int32 × TS) := sX8_isTrue_25 4 ((0 : Int32)) σ
set_option maxHeartbeats 4000000 in
set_option maxRecDepth 100000 in
theorem kX8_isTrue_23 {r : Int32} {u : TS} (C0 : gC RX8 cX8_isTrue 2 ((some .boolean)) wsX8_isTrue p s m args meth c) (hK : va_K D vwCl (tyL cy) s) (hJ : gJ 78 q) {H : Heap} {locs : List Loc} {σ : TS} (hP : va_P D vwCl (gS 78 q (TX cy q) σ) H) (hS : va_S (gA 78 q) s.heap H locs) {ls : Array Slot} (hl : lv_has ls 2 [(0, .ref (q (0)))]) (hp : sX8_isTrue_23 σ = some (r, u)) : W p l e rmX8_isTrue s m args below meth c H locs 0 0 (MQ below (gQi D vwCl r (gS 78 q (TX cy q) u) (gA 78 q)) args s 0 0 (gA 78 q)) (F0 m 23 ls []) := by
  obtain ⟨hx, hb, hr, hml, hown, hts, hlocks⟩ := id C0
  unfold sX8_isTrue_23 at hp
  refine lv_iconst (v := (0 : Int32)) hx hb dX8_isTrue_23 (by decide) ?_
  refine lv_istore_n (lv' := [(1, .int ((0 : Int32))), (0, .ref (q (0)))]) hx hb dX8_isTrue_24 rfl hl (by decide) rfl (fun ls hl => ?_)
  exact kX8_isTrue_25 C0 hK hJ _ _ _ _ _  hP hS _ (lv_sub hl [1, 0] rfl) hp
def sX8_isTrue_18 (sx0 : Int32) (σ : TS) : Option (Int32 × TS) := (if sx0 = 0 then some ((0 : Int32), σ) else sX8_isTrue_23 σ)
set_option maxHeartbeats 4000000 in
set_option maxRecDepth 100000 in
theorem kX8_isTrue_18 {r : Int32} {u : TS} (C0 : gC RX8 cX8_isTrue 2 ((some .boolean)) wsX8_isTrue p s m args meth c) (hK : va_K D vwCl (tyL cy) s) (hJ : gJ 78 q) {H : Heap} {locs : List Loc} {σ : TS} {sx0 : Int32} (hP : va_P D vwCl (gS 78 q (TX cy q) σ) H) (hS : va_S (gA 78 q) s.heap H locs) {ls : Array Slot} (hl : lv_has ls 2 [(0, .ref (q (0)))]) (hp : sX8_isTrue_18 sx0 σ = some (r, u)) : W p l e rmX8_isTrue s m args below meth c H locs 0 0 (MQ below (gQi D vwCl r (gS 78 q (TX cy q) u) (gA 78 q)) args s 0 0 (gA 78 q)) (F0 m 18 ls [.int sx0]) := by
  obtain ⟨hx, hb, hr, hml, hown, hts, hlocks⟩ := id C0
  unfold sX8_isTrue_18 at hp
  refine lv_if_ne (tgt := 23) hx hb dX8_isTrue_18 (by decide) (fun hcd18 => ?_) (fun hcd18 => ?_)
  · have hp := o_f hp hcd18
    exact kX8_isTrue_23 C0 hK hJ  hP hS hl hp
  · have hp := o_t hp hcd18
    refine lv_iconst (v := (0 : Int32)) hx hb dX8_isTrue_21 (by decide) ?_
    obtain ⟨rfl, rfl⟩ := o_r hp
    exact W.zret (v := (0 : Int32)) hx hb hr (zok_n (by decide)).1 (fun t ht hW => ⟨⟨(0 : Int32), (), rfl, rfl, by subst ht; exact hP⟩, hS.F ht⟩) hS.2.2 dX8_isTrue_22
def sX8_isTrue_0 (σ : TS) : Option (Int32 × TS) := (if (σ 0 14) = 0 then (if (σ 0 15) = 0 then ((sX8_isPlain σ).bind (fun z => sX8_isTrue_18 z.1 z.2)) else sX8_isTrue_23 σ) else sX8_isTrue_23 σ)
set_option maxHeartbeats 4000000 in
set_option maxRecDepth 100000 in
theorem kX8_isTrue_0 {r : Int32} {u : TS} (C0 : gC RX8 cX8_isTrue 2 ((some .boolean)) wsX8_isTrue p s m args meth c) (hK : va_K D vwCl (tyL cy) s) (hJ : gJ 78 q) {H : Heap} {locs : List Loc} {σ : TS} (hP : va_P D vwCl (gS 78 q (TX cy q) σ) H) (hS : va_S (gA 78 q) s.heap H locs) {ls : Array Slot} (hl : lv_has ls 2 [(0, .ref (q (0)))]) (hp : sX8_isTrue_0 σ = some (r, u)) : W p l e rmX8_isTrue s m args below meth c H locs 0 0 (MQ below (gQi D vwCl r (gS 78 q (TX cy q) u) (gA 78 q)) args s 0 0 (gA 78 q)) (F0 m 0 ls []) := by
  obtain ⟨hx, hb, hr, hml, hown, hts, hlocks⟩ := id C0
  unfold sX8_isTrue_0 at hp
  refine lv_aload_n hx hb dX8_isTrue_0 rfl (lv_at hl 0 rfl) ?_
  refine g_get (v := .int (σ 0 14)) hx hb hts miX8_isTrue_X8 hown hK hP (kk_Tri) (ce_Tri) rfl 14 (by decide) mwX8_isTrue_4 rfl dX8_isTrue_1 ?_
  refine lv_if_ne (tgt := 23) hx hb dX8_isTrue_4 (by decide) (fun hcd19 => ?_) (fun hcd19 => ?_)
  · have hp := o_f hp hcd19
    exact kX8_isTrue_23 C0 hK hJ  hP hS hl hp
  · have hp := o_t hp hcd19
    refine lv_aload_n hx hb dX8_isTrue_7 rfl (lv_at hl 0 rfl) ?_
    refine g_get (v := .int (σ 0 15)) hx hb hts miX8_isTrue_X8 hown hK hP (kk_Tri) (ce_Tri) rfl 15 (by decide) mwX8_isTrue_5 rfl dX8_isTrue_8 ?_
    refine lv_if_ne (tgt := 23) hx hb dX8_isTrue_11 (by decide) (fun hcd20 => ?_) (fun hcd20 => ?_)
    · have hp := o_f hp hcd20
      exact kX8_isTrue_23 C0 hK hJ  hP hS hl hp
    · have hp := o_t hp hcd20
      refine lv_aload_n hx hb dX8_isTrue_14 rfl (lv_at hl 0 rfl) ?_
      obtain ⟨⟨r21, u22⟩, hq23, hp⟩ := o_b hp
      refine g_cVi (As := []) (rest := []) hx hb hml hown hts hK hP hS (mX8_isPlain l hJ hq23) (cwV 0 hts gX8_isTrue_X8_isPlain rfl rfl rfl nVX8_isPlain ⟨Nat.le_of_ble_eq_true rfl, Nat.le_of_ble_eq_true rfl⟩) (g_recv hK hP (kk_Tri) (ce_Tri) rfl) rfl hl.1 rfl (Nat.le_of_ble_eq_true rfl) dX8_isTrue_15 ⟨Nat.le_of_ble_eq_true rfl, Nat.le_of_ble_eq_true rfl⟩ (fun H locs hP hS => ?_)
      exact kX8_isTrue_18 C0 hK hJ  hP hS hl hp
def sX8_isTrue (σ : TS) : Option (Int32 × TS) := sX8_isTrue_0 σ
theorem nVX8_isTrue : yX8_isTrue.cls = RX8 ∧ yX8_isTrue.cls ≠ "java/lang/invoke/MethodHandle" ∧ yX8_isTrue.cls ≠ "java/lang/invoke/VarHandle" ∧ (parseMethodDescriptor yX8_isTrue.desc).map (fun d => d.parameters.length) = some 0 := by decide +kernel
set_option maxHeartbeats 4000000 in
set_option maxRecDepth 100000 in
theorem mX8_isTrue (l : Launch) (hJ : gJ 78 q) {σ : TS} {r : Int32} {u : TS} (hp : sX8_isTrue σ = some (r, u)) : Met l yX8_isTrue wsX8_isTrue rmX8_isTrue (va_Pc [.ref (q (0))] (gPre D vwCl (tyL cy) (gS 78 q (TX cy q) σ))) (gQi D vwCl r (gS 78 q (TX cy q) u) (gA 78 q)) 0 0 (gA 78 q) := by
  refine Met.ofW (cc := cX8_isTrue) (maxL := 2) (ret := (some .boolean)) (by decide +kernel) rfl ?_
  intro p e s m args below meth c s₁ B hml hv
  obtain ⟨rfl, hP, hK⟩ := hv
  have hl := lv_entry ([.ref (q (0))]) (n := 2) (Nat.le_of_ble_eq_true rfl)
  rw [lg_entry_eq]
  generalize (lg_sl ([.ref (q (0))]) ++ List.replicate (2 - (lg_sl ([.ref (q (0))])).length) Slot.unset).toArray = ls at hl ⊢
  have hl : lv_has ls 2 [(0, .ref (q (0)))] := hl
  exact kX8_isTrue_0 ⟨B.exec, B.bytes, B.returns, hml, findClass_of_methodNamed B.named, atoms_spec (ws := wsX8_isTrue) B.pre, B.notSynchronized⟩ hK hJ  hP va_S.rf hl hp
theorem miX8_time_X8 : ∀ w ∈ u_ws RX8 TX8 16, w ∈ wsX8_time := by decide +kernel
theorem mwX8_time_0 : Cond.fieldLink RX8 63 "Triplane" "frames" "I" ∈ wsX8_time := by decide +kernel
abbrev rmX8_time : Room := { frames := 0, cells := 0, slots := 0, locals := 0 }
def sX8_time_0 (σ : TS) : Option (Int32 × TS) := some (σ 0 10, σ)
set_option maxHeartbeats 4000000 in
set_option maxRecDepth 100000 in
theorem kX8_time_0 {r : Int32} {u : TS} (C0 : gC RX8 cX8_time 1 ((some .int)) wsX8_time p s m args meth c) (hK : va_K D vwCl (tyL cy) s) (hJ : gJ 78 q) {H : Heap} {locs : List Loc} {σ : TS} (hP : va_P D vwCl (gS 78 q (TX cy q) σ) H) (hS : va_S (gA 78 q) s.heap H locs) {ls : Array Slot} (hl : lv_has ls 1 [(0, .ref (q (0)))]) (hp : sX8_time_0 σ = some (r, u)) : W p l e rmX8_time s m args below meth c H locs 0 0 (MQ below (gQi D vwCl r (gS 78 q (TX cy q) u) (gA 78 q)) args s 0 0 (gA 78 q)) (F0 m 0 ls []) := by
  obtain ⟨hx, hb, hr, hml, hown, hts, hlocks⟩ := id C0
  unfold sX8_time_0 at hp
  refine lv_aload_n hx hb dX8_time_0 rfl (lv_at hl 0 rfl) ?_
  refine g_get (v := .int (σ 0 10)) hx hb hts miX8_time_X8 hown hK hP (kk_Tri) (ce_Tri) rfl 10 (by decide) mwX8_time_0 rfl dX8_time_1 ?_
  obtain ⟨rfl, rfl⟩ := o_r hp
  exact W.iret (v := σ 0 10) hx hb hr (fun t ht hW => ⟨⟨σ 0 10, (), rfl, rfl, by subst ht; exact hP⟩, hS.F ht⟩) hS.2.2 dX8_time_4
def sX8_time (σ : TS) : Option (Int32 × TS) := sX8_time_0 σ
theorem nVX8_time : yX8_time.cls = RX8 ∧ yX8_time.cls ≠ "java/lang/invoke/MethodHandle" ∧ yX8_time.cls ≠ "java/lang/invoke/VarHandle" ∧ (parseMethodDescriptor yX8_time.desc).map (fun d => d.parameters.length) = some 0 := by decide +kernel
set_option maxHeartbeats 4000000 in
set_option maxRecDepth 100000 in
theorem mX8_time (l : Launch) (hJ : gJ 78 q) {σ : TS} {r : Int32} {u : TS} (hp : sX8_time σ = some (r, u)) : Met l yX8_time wsX8_time rmX8_time (va_Pc [.ref (q (0))] (gPre D vwCl (tyL cy) (gS 78 q (TX cy q) σ))) (gQi D vwCl r (gS 78 q (TX cy q) u) (gA 78 q)) 0 0 (gA 78 q) := by
  refine Met.ofW (cc := cX8_time) (maxL := 1) (ret := (some .int)) (by decide +kernel) rfl ?_
  intro p e s m args below meth c s₁ B hml hv
  obtain ⟨rfl, hP, hK⟩ := hv
  have hl := lv_entry ([.ref (q (0))]) (n := 1) (Nat.le_of_ble_eq_true rfl)
  rw [lg_entry_eq]
  generalize (lg_sl ([.ref (q (0))]) ++ List.replicate (1 - (lg_sl ([.ref (q (0))])).length) Slot.unset).toArray = ls at hl ⊢
  have hl : lv_has ls 1 [(0, .ref (q (0)))] := hl
  exact kX8_time_0 ⟨B.exec, B.bytes, B.returns, hml, findClass_of_methodNamed B.named, atoms_spec (ws := wsX8_time) B.pre, B.notSynchronized⟩ hK hJ  hP va_S.rf hl hp
theorem miX8_mode_X8 : ∀ w ∈ u_ws RX8 TX8 16, w ∈ wsX8_mode := by decide +kernel
theorem mwX8_mode_0 : Cond.fieldLink RX8 67 "Triplane" "currentMode" "I" ∈ wsX8_mode := by decide +kernel
abbrev rmX8_mode : Room := { frames := 0, cells := 0, slots := 0, locals := 0 }
def sX8_mode_0 (σ : TS) : Option (Int32 × TS) := some (σ 0 11, σ)
set_option maxHeartbeats 4000000 in
set_option maxRecDepth 100000 in
theorem kX8_mode_0 {r : Int32} {u : TS} (C0 : gC RX8 cX8_mode 1 ((some .int)) wsX8_mode p s m args meth c) (hK : va_K D vwCl (tyL cy) s) (hJ : gJ 78 q) {H : Heap} {locs : List Loc} {σ : TS} (hP : va_P D vwCl (gS 78 q (TX cy q) σ) H) (hS : va_S (gA 78 q) s.heap H locs) {ls : Array Slot} (hl : lv_has ls 1 [(0, .ref (q (0)))]) (hp : sX8_mode_0 σ = some (r, u)) : W p l e rmX8_mode s m args below meth c H locs 0 0 (MQ below (gQi D vwCl r (gS 78 q (TX cy q) u) (gA 78 q)) args s 0 0 (gA 78 q)) (F0 m 0 ls []) := by
  obtain ⟨hx, hb, hr, hml, hown, hts, hlocks⟩ := id C0
  unfold sX8_mode_0 at hp
  refine lv_aload_n hx hb dX8_mode_0 rfl (lv_at hl 0 rfl) ?_
  refine g_get (v := .int (σ 0 11)) hx hb hts miX8_mode_X8 hown hK hP (kk_Tri) (ce_Tri) rfl 11 (by decide) mwX8_mode_0 rfl dX8_mode_1 ?_
  obtain ⟨rfl, rfl⟩ := o_r hp
  exact W.iret (v := σ 0 11) hx hb hr (fun t ht hW => ⟨⟨σ 0 11, (), rfl, rfl, by subst ht; exact hP⟩, hS.F ht⟩) hS.2.2 dX8_mode_4
def sX8_mode (σ : TS) : Option (Int32 × TS) := sX8_mode_0 σ
theorem nVX8_mode : yX8_mode.cls = RX8 ∧ yX8_mode.cls ≠ "java/lang/invoke/MethodHandle" ∧ yX8_mode.cls ≠ "java/lang/invoke/VarHandle" ∧ (parseMethodDescriptor yX8_mode.desc).map (fun d => d.parameters.length) = some 0 := by decide +kernel
set_option maxHeartbeats 4000000 in
set_option maxRecDepth 100000 in
theorem mX8_mode (l : Launch) (hJ : gJ 78 q) {σ : TS} {r : Int32} {u : TS} (hp : sX8_mode σ = some (r, u)) : Met l yX8_mode wsX8_mode rmX8_mode (va_Pc [.ref (q (0))] (gPre D vwCl (tyL cy) (gS 78 q (TX cy q) σ))) (gQi D vwCl r (gS 78 q (TX cy q) u) (gA 78 q)) 0 0 (gA 78 q) := by
  refine Met.ofW (cc := cX8_mode) (maxL := 1) (ret := (some .int)) (by decide +kernel) rfl ?_
  intro p e s m args below meth c s₁ B hml hv
  obtain ⟨rfl, hP, hK⟩ := hv
  have hl := lv_entry ([.ref (q (0))]) (n := 1) (Nat.le_of_ble_eq_true rfl)
  rw [lg_entry_eq]
  generalize (lg_sl ([.ref (q (0))]) ++ List.replicate (1 - (lg_sl ([.ref (q (0))])).length) Slot.unset).toArray = ls at hl ⊢
  have hl : lv_has ls 1 [(0, .ref (q (0)))] := hl
  exact kX8_mode_0 ⟨B.exec, B.bytes, B.returns, hml, findClass_of_methodNamed B.named, atoms_spec (ws := wsX8_mode) B.pre, B.notSynchronized⟩ hK hJ  hP va_S.rf hl hp
theorem miX8_lowestOn_X1 : ∀ w ∈ u_ws RX1 TX1 14, w ∈ wsX8_lowestOn := by decide +kernel
theorem miX8_lowestOn_X8 : ∀ w ∈ u_ws RX8 TX8 16, w ∈ wsX8_lowestOn := by decide +kernel
theorem mwX8_lowestOn_0 : Cond.fieldLink RX8 11 "Triplane" "computers" "[LTriplane$Computer;" ∈ wsX8_lowestOn := by decide +kernel
theorem mwX8_lowestOn_1 : Cond.fieldLink RX8 162 "Triplane$Computer" "isRunning" "Z" ∈ wsX8_lowestOn := by decide +kernel
abbrev rmX8_lowestOn : Room := { frames := 0, cells := 0, slots := 0, locals := 0 }
def sX8_lowestOn_2 : Nat → Int32 → TS → Option (Int32 × TS)
  | 0, _, _ => none
  | n + 1, x1, σ => (if ((3 : Int32)) ≤ x1 then some ((-1 : Int32), σ) else (if vin x1 3 = true then (if (σ (15+6*(x1.toNatClampNeg)) 6) = 0 then sX8_lowestOn_2 n (x1 + (1 : Int32)) σ else some (x1, σ)) else none))
set_option maxHeartbeats 4000000 in
set_option maxRecDepth 100000 in
theorem kX8_lowestOn_2 {r : Int32} {u : TS} (C0 : gC RX8 cX8_lowestOn 2 ((some .int)) wsX8_lowestOn p s m args meth c) (hK : va_K D vwCl (tyL cy) s) (hJ : gJ 78 q) : ∀ (n : Nat) (H : Heap) (locs : List Loc) (σ : TS) (x1 : Int32) (hP : va_P D vwCl (gS 78 q (TX cy q) σ) H) (hS : va_S (gA 78 q) s.heap H locs) (ls : Array Slot) (hl : lv_has ls 2 [(0, .ref (q (0))), (1, .int x1)]) (hp : sX8_lowestOn_2 n x1 σ = some (r, u)), W p l e rmX8_lowestOn s m args below meth c H locs 0 0 (MQ below (gQi D vwCl r (gS 78 q (TX cy q) u) (gA 78 q)) args s 0 0 (gA 78 q)) (F0 m 2 ls []) := by
  obtain ⟨hx, hb, hr, hml, hown, hts, hlocks⟩ := id C0
  intro n
  induction n with
  | zero =>
    intro H locs σ x1 hP hS ls hl hp
    cases hp
  | succ n ih =>
    intro H locs σ x1 hP hS ls hl hp
    unfold sX8_lowestOn_2 at hp
    refine lv_iload_n hx hb dX8_lowestOn_2 rfl (lv_at hl 1 rfl) ?_
    refine lv_iconst (v := (3 : Int32)) hx hb dX8_lowestOn_3 (by decide) ?_
    refine lv_icmp_ge (tgt := 27) hx hb dX8_lowestOn_4 (by decide) (fun hcd1 => ?_) (fun hcd1 => ?_)
    · have hp := o_t hp hcd1
      refine lv_iconst (v := (-1 : Int32)) hx hb dX8_lowestOn_27 (by decide) ?_
      obtain ⟨rfl, rfl⟩ := o_r hp
      exact W.iret (v := (-1 : Int32)) hx hb hr (fun t ht hW => ⟨⟨(-1 : Int32), (), rfl, rfl, by subst ht; exact hP⟩, hS.F ht⟩) hS.2.2 dX8_lowestOn_28
    · have hp := o_f hp hcd1
      refine lv_aload_n hx hb dX8_lowestOn_7 rfl (lv_at hl 0 rfl) ?_
      refine g_get (v := .ref (q (1))) hx hb hts miX8_lowestOn_X8 hown hK hP (kk_Tri) (ce_Tri) rfl 0 (by decide) mwX8_lowestOn_0 rfl dX8_lowestOn_8 ?_
      refine lv_iload_n hx hb dX8_lowestOn_11 rfl (lv_at hl 1 rfl) ?_
      obtain ⟨hi2, hp⟩ := o_chk hp
      have hn3 : x1.toNatClampNeg < 4 := Nat.lt_of_lt_of_le (vin_lt hi2) (by decide)
      refine g_aald (j := x1.toNatClampNeg) hx hb hK hP (kk_CompArr) (ce_CompArr) 3 rfl rfl (vin_of hi2) rfl dX8_lowestOn_12 ?_
      refine g_get (v := .int (σ (15+6*(x1.toNatClampNeg)) 6)) hx hb hts miX8_lowestOn_X1 hown hK hP (kk_Comp hn3) (ce_Comp hn3) rfl 6 (by decide) mwX8_lowestOn_1 rfl dX8_lowestOn_13 ?_
      refine lv_if_eq (tgt := 21) hx hb dX8_lowestOn_16 (by decide) (fun hcd4 => ?_) (fun hcd4 => ?_)
      · have hp := o_t hp hcd4
        refine lv_iinc (v := x1 + (1 : Int32)) (lv' := [(1, .int (x1 + (1 : Int32))), (0, .ref (q (0)))]) hx hb dX8_lowestOn_21 hl (k := 1) rfl rfl (by decide) rfl (fun ls hl => ?_)
        refine lv_goto (tgt := 2) hx hb dX8_lowestOn_24 (by decide) ?_
        exact ih _ _ _ _  hP hS _ (lv_sub hl [1, 0] rfl) hp
      · have hp := o_f hp hcd4
        refine lv_iload_n hx hb dX8_lowestOn_19 rfl (lv_at hl 1 rfl) ?_
        obtain ⟨rfl, rfl⟩ := o_r hp
        exact W.iret (v := x1) hx hb hr (fun t ht hW => ⟨⟨x1, (), rfl, rfl, by subst ht; exact hP⟩, hS.F ht⟩) hS.2.2 dX8_lowestOn_20
def sX8_lowestOn_0 (σ : TS) : Option (Int32 × TS) := sX8_lowestOn_2 4 ((0 : Int32)) σ
set_option maxHeartbeats 4000000 in
set_option maxRecDepth 100000 in
theorem kX8_lowestOn_0 {r : Int32} {u : TS} (C0 : gC RX8 cX8_lowestOn 2 ((some .int)) wsX8_lowestOn p s m args meth c) (hK : va_K D vwCl (tyL cy) s) (hJ : gJ 78 q) {H : Heap} {locs : List Loc} {σ : TS} (hP : va_P D vwCl (gS 78 q (TX cy q) σ) H) (hS : va_S (gA 78 q) s.heap H locs) {ls : Array Slot} (hl : lv_has ls 2 [(0, .ref (q (0)))]) (hp : sX8_lowestOn_0 σ = some (r, u)) : W p l e rmX8_lowestOn s m args below meth c H locs 0 0 (MQ below (gQi D vwCl r (gS 78 q (TX cy q) u) (gA 78 q)) args s 0 0 (gA 78 q)) (F0 m 0 ls []) := by
  obtain ⟨hx, hb, hr, hml, hown, hts, hlocks⟩ := id C0
  unfold sX8_lowestOn_0 at hp
  refine lv_iconst (v := (0 : Int32)) hx hb dX8_lowestOn_0 (by decide) ?_
  refine lv_istore_n (lv' := [(1, .int ((0 : Int32))), (0, .ref (q (0)))]) hx hb dX8_lowestOn_1 rfl hl (by decide) rfl (fun ls hl => ?_)
  exact kX8_lowestOn_2 C0 hK hJ _ _ _ _ _  hP hS _ (lv_sub hl [1, 0] rfl) hp
def sX8_lowestOn (σ : TS) : Option (Int32 × TS) := sX8_lowestOn_0 σ
theorem nVX8_lowestOn : yX8_lowestOn.cls = RX8 ∧ yX8_lowestOn.cls ≠ "java/lang/invoke/MethodHandle" ∧ yX8_lowestOn.cls ≠ "java/lang/invoke/VarHandle" ∧ (parseMethodDescriptor yX8_lowestOn.desc).map (fun d => d.parameters.length) = some 0 := by decide +kernel
set_option maxHeartbeats 4000000 in
set_option maxRecDepth 100000 in
theorem mX8_lowestOn (l : Launch) (hJ : gJ 78 q) {σ : TS} {r : Int32} {u : TS} (hp : sX8_lowestOn σ = some (r, u)) : Met l yX8_lowestOn wsX8_lowestOn rmX8_lowestOn (va_Pc [.ref (q (0))] (gPre D vwCl (tyL cy) (gS 78 q (TX cy q) σ))) (gQi D vwCl r (gS 78 q (TX cy q) u) (gA 78 q)) 0 0 (gA 78 q) := by
  refine Met.ofW (cc := cX8_lowestOn) (maxL := 2) (ret := (some .int)) (by decide +kernel) rfl ?_
  intro p e s m args below meth c s₁ B hml hv
  obtain ⟨rfl, hP, hK⟩ := hv
  have hl := lv_entry ([.ref (q (0))]) (n := 2) (Nat.le_of_ble_eq_true rfl)
  rw [lg_entry_eq]
  generalize (lg_sl ([.ref (q (0))]) ++ List.replicate (2 - (lg_sl ([.ref (q (0))])).length) Slot.unset).toArray = ls at hl ⊢
  have hl : lv_has ls 2 [(0, .ref (q (0)))] := hl
  exact kX8_lowestOn_0 ⟨B.exec, B.bytes, B.returns, hml, findClass_of_methodNamed B.named, atoms_spec (ws := wsX8_lowestOn) B.pre, B.notSynchronized⟩ hK hJ  hP va_S.rf hl hp
theorem miX8_resetActuators_X0 : ∀ w ∈ u_ws RX0 TX0 3, w ∈ wsX8_resetActuators := by decide +kernel
theorem miX8_resetActuators_X8 : ∀ w ∈ u_ws RX8 TX8 16, w ∈ wsX8_resetActuators := by decide +kernel
theorem mwX8_resetActuators_0 : Cond.fieldLink RX8 45 "Triplane" "actuators" "[LTriplane$Actuator;" ∈ wsX8_resetActuators := by decide +kernel
theorem mwX8_resetActuators_1 : Cond.fieldLink RX8 255 "Triplane$Actuator" "isLoose" "Z" ∈ wsX8_resetActuators := by decide +kernel
abbrev rmX8_resetActuators : Room := { frames := 0, cells := 0, slots := 0, locals := 0 }
def sX8_resetActuators_34 (K4 : Int32 → Int32 → TS → Option (Int32 × TS)) (x1 : Int32) (x2 : Int32) (σ : TS) : Option (Int32 × TS) := K4 x1 (x2 + (1 : Int32)) σ
set_option maxHeartbeats 4000000 in
set_option maxRecDepth 100000 in
theorem kX8_resetActuators_34 {r : Int32} {u : TS} {K4 : Int32 → Int32 → TS → Option (Int32 × TS)} (C0 : gC RX8 cX8_resetActuators 3 ((some .int)) wsX8_resetActuators p s m args meth c) (hK : va_K D vwCl (tyL cy) s) (hJ : gJ 78 q) (kh4 : ∀ (H : Heap) (locs : List Loc) (σ : TS) (x1 : Int32) (x2 : Int32) (hP : va_P D vwCl (gS 78 q (TX cy q) σ) H) (hS : va_S (gA 78 q) s.heap H locs) (ls : Array Slot) (hl : lv_has ls 3 [(0, .ref (q (0))), (1, .int x1), (2, .int x2)]) (hp : K4 x1 x2 σ = some (r, u)), W p l e rmX8_resetActuators s m args below meth c H locs 0 0 (MQ below (gQi D vwCl r (gS 78 q (TX cy q) u) (gA 78 q)) args s 0 0 (gA 78 q)) (F0 m 4 ls [])) {H : Heap} {locs : List Loc} {σ : TS} {x1 : Int32} {x2 : Int32} (hP : va_P D vwCl (gS 78 q (TX cy q) σ) H) (hS : va_S (gA 78 q) s.heap H locs) {ls : Array Slot} (hl : lv_has ls 3 [(0, .ref (q (0))), (1, .int x1), (2, .int x2)]) (hp : sX8_resetActuators_34 K4 x1 x2 σ = some (r, u)) : W p l e rmX8_resetActuators s m args below meth c H locs 0 0 (MQ below (gQi D vwCl r (gS 78 q (TX cy q) u) (gA 78 q)) args s 0 0 (gA 78 q)) (F0 m 34 ls []) := by
  obtain ⟨hx, hb, hr, hml, hown, hts, hlocks⟩ := id C0
  unfold sX8_resetActuators_34 at hp
  refine lv_iinc (v := x2 + (1 : Int32)) (lv' := [(2, .int (x2 + (1 : Int32))), (0, .ref (q (0))), (1, .int x1)]) hx hb dX8_resetActuators_34 hl (k := 2) rfl rfl (by decide) rfl (fun ls hl => ?_)
  refine lv_goto (tgt := 4) hx hb dX8_resetActuators_37 (by decide) ?_
  exact kh4 _ _ _ _ _  hP hS _ (lv_sub hl [1, 2, 0] rfl) hp
def sX8_resetActuators_4 : Nat → Int32 → Int32 → TS → Option (Int32 × TS)
  | 0, _, _, _ => none
  | n + 1, x1, x2, σ => (if ((4 : Int32)) ≤ x2 then some (x1, σ) else (if vin x2 4 = true then (if (σ (70+2*(x2.toNatClampNeg)) 2) = 0 then sX8_resetActuators_34 (sX8_resetActuators_4 n) x1 x2 σ else sX8_resetActuators_34 (sX8_resetActuators_4 n) (x1 + (1 : Int32)) x2 (st2 σ (70+2*(x2.toNatClampNeg)) 2 ((0 : Int32)))) else none))
set_option maxHeartbeats 4000000 in
set_option maxRecDepth 100000 in
theorem kX8_resetActuators_4 {r : Int32} {u : TS} (C0 : gC RX8 cX8_resetActuators 3 ((some .int)) wsX8_resetActuators p s m args meth c) (hK : va_K D vwCl (tyL cy) s) (hJ : gJ 78 q) : ∀ (n : Nat) (H : Heap) (locs : List Loc) (σ : TS) (x1 : Int32) (x2 : Int32) (hP : va_P D vwCl (gS 78 q (TX cy q) σ) H) (hS : va_S (gA 78 q) s.heap H locs) (ls : Array Slot) (hl : lv_has ls 3 [(0, .ref (q (0))), (1, .int x1), (2, .int x2)]) (hp : sX8_resetActuators_4 n x1 x2 σ = some (r, u)), W p l e rmX8_resetActuators s m args below meth c H locs 0 0 (MQ below (gQi D vwCl r (gS 78 q (TX cy q) u) (gA 78 q)) args s 0 0 (gA 78 q)) (F0 m 4 ls []) := by
  obtain ⟨hx, hb, hr, hml, hown, hts, hlocks⟩ := id C0
  intro n
  induction n with
  | zero =>
    intro H locs σ x1 x2 hP hS ls hl hp
    cases hp
  | succ n ih =>
    intro H locs σ x1 x2 hP hS ls hl hp
    unfold sX8_resetActuators_4 at hp
    refine lv_iload_n hx hb dX8_resetActuators_4 rfl (lv_at hl 2 rfl) ?_
    refine lv_iconst (v := (4 : Int32)) hx hb dX8_resetActuators_5 (by decide) ?_
    refine lv_icmp_ge (tgt := 40) hx hb dX8_resetActuators_6 (by decide) (fun hcd1 => ?_) (fun hcd1 => ?_)
    · have hp := o_t hp hcd1
      refine lv_iload_n hx hb dX8_resetActuators_40 rfl (lv_at hl 1 rfl) ?_
      obtain ⟨rfl, rfl⟩ := o_r hp
      exact W.iret (v := x1) hx hb hr (fun t ht hW => ⟨⟨x1, (), rfl, rfl, by subst ht; exact hP⟩, hS.F ht⟩) hS.2.2 dX8_resetActuators_41
    · have hp := o_f hp hcd1
      refine lv_aload_n hx hb dX8_resetActuators_9 rfl (lv_at hl 0 rfl) ?_
      refine g_get (v := .ref (q (8))) hx hb hts miX8_resetActuators_X8 hown hK hP (kk_Tri) (ce_Tri) rfl 6 (by decide) mwX8_resetActuators_0 rfl dX8_resetActuators_10 ?_
      refine lv_iload_n hx hb dX8_resetActuators_13 rfl (lv_at hl 2 rfl) ?_
      obtain ⟨hi2, hp⟩ := o_chk hp
      have hn3 : x2.toNatClampNeg < 4 := Nat.lt_of_lt_of_le (vin_lt hi2) (by decide)
      refine g_aald (j := x2.toNatClampNeg) hx hb hK hP (kk_ActArr) (ce_ActArr) 8 rfl rfl (vin_of hi2) rfl dX8_resetActuators_14 ?_
      refine g_get (v := .int (σ (70+2*(x2.toNatClampNeg)) 2)) hx hb hts miX8_resetActuators_X0 hown hK hP (kk_Act hn3) (ce_Act hn3) rfl 2 (by decide) mwX8_resetActuators_1 rfl dX8_resetActuators_15 ?_
      refine lv_if_eq (tgt := 34) hx hb dX8_resetActuators_18 (by decide) (fun hcd4 => ?_) (fun hcd4 => ?_)
      · have hp := o_t hp hcd4
        exact kX8_resetActuators_34 C0 hK hJ ih  hP hS hl hp
      · have hp := o_f hp hcd4
        refine lv_aload_n hx hb dX8_resetActuators_21 rfl (lv_at hl 0 rfl) ?_
        refine g_get (v := .ref (q (8))) hx hb hts miX8_resetActuators_X8 hown hK hP (kk_Tri) (ce_Tri) rfl 6 (by decide) mwX8_resetActuators_0 rfl dX8_resetActuators_22 ?_
        refine lv_iload_n hx hb dX8_resetActuators_25 rfl (lv_at hl 2 rfl) ?_
        have hn5 : x2.toNatClampNeg < 4 := Nat.lt_of_lt_of_le (vin_lt hi2) (by decide)
        refine g_aald (j := x2.toNatClampNeg) hx hb hK hP (kk_ActArr) (ce_ActArr) 8 rfl rfl (vin_of hi2) rfl dX8_resetActuators_26 ?_
        refine lv_iconst (v := (0 : Int32)) hx hb dX8_resetActuators_27 (by decide) ?_
        refine g_put (v := (0 : Int32)) hx hb hts miX8_resetActuators_X0 tyX0 tyX0_ok nmX0 hown hK hJ hP hS (kk_Act hn5) (ce_Act hn5) rfl 2 (by decide) mwX8_resetActuators_1 rfl (zok_n (by decide)).1 (zok_n (by decide)).2 (Nat.le_of_ble_eq_true rfl) rfl dX8_resetActuators_28 (fun H locs hP hS => ?_)
        refine lv_iinc (v := x1 + (1 : Int32)) (lv' := [(1, .int (x1 + (1 : Int32))), (0, .ref (q (0))), (2, .int x2)]) hx hb dX8_resetActuators_31 hl (k := 1) rfl rfl (by decide) rfl (fun ls hl => ?_)
        exact kX8_resetActuators_34 C0 hK hJ ih  hP hS (lv_sub hl [1, 0, 2] rfl) hp
def sX8_resetActuators_0 (σ : TS) : Option (Int32 × TS) := sX8_resetActuators_4 5 ((0 : Int32)) ((0 : Int32)) σ
set_option maxHeartbeats 4000000 in
set_option maxRecDepth 100000 in
theorem kX8_resetActuators_0 {r : Int32} {u : TS} (C0 : gC RX8 cX8_resetActuators 3 ((some .int)) wsX8_resetActuators p s m args meth c) (hK : va_K D vwCl (tyL cy) s) (hJ : gJ 78 q) {H : Heap} {locs : List Loc} {σ : TS} (hP : va_P D vwCl (gS 78 q (TX cy q) σ) H) (hS : va_S (gA 78 q) s.heap H locs) {ls : Array Slot} (hl : lv_has ls 3 [(0, .ref (q (0)))]) (hp : sX8_resetActuators_0 σ = some (r, u)) : W p l e rmX8_resetActuators s m args below meth c H locs 0 0 (MQ below (gQi D vwCl r (gS 78 q (TX cy q) u) (gA 78 q)) args s 0 0 (gA 78 q)) (F0 m 0 ls []) := by
  obtain ⟨hx, hb, hr, hml, hown, hts, hlocks⟩ := id C0
  unfold sX8_resetActuators_0 at hp
  refine lv_iconst (v := (0 : Int32)) hx hb dX8_resetActuators_0 (by decide) ?_
  refine lv_istore_n (lv' := [(1, .int ((0 : Int32))), (0, .ref (q (0)))]) hx hb dX8_resetActuators_1 rfl hl (by decide) rfl (fun ls hl => ?_)
  refine lv_iconst (v := (0 : Int32)) hx hb dX8_resetActuators_2 (by decide) ?_
  refine lv_istore_n (lv' := [(2, .int ((0 : Int32))), (1, .int ((0 : Int32))), (0, .ref (q (0)))]) hx hb dX8_resetActuators_3 rfl hl (by decide) rfl (fun ls hl => ?_)
  exact kX8_resetActuators_4 C0 hK hJ _ _ _ _ _ _  hP hS _ (lv_sub hl [2, 1, 0] rfl) hp
def sX8_resetActuators (σ : TS) : Option (Int32 × TS) := sX8_resetActuators_0 σ
theorem nVX8_resetActuators : yX8_resetActuators.cls = RX8 ∧ yX8_resetActuators.cls ≠ "java/lang/invoke/MethodHandle" ∧ yX8_resetActuators.cls ≠ "java/lang/invoke/VarHandle" ∧ (parseMethodDescriptor yX8_resetActuators.desc).map (fun d => d.parameters.length) = some 0 := by decide +kernel
set_option maxHeartbeats 4000000 in
set_option maxRecDepth 100000 in
theorem mX8_resetActuators (l : Launch) (hJ : gJ 78 q) {σ : TS} {r : Int32} {u : TS} (hp : sX8_resetActuators σ = some (r, u)) : Met l yX8_resetActuators wsX8_resetActuators rmX8_resetActuators (va_Pc [.ref (q (0))] (gPre D vwCl (tyL cy) (gS 78 q (TX cy q) σ))) (gQi D vwCl r (gS 78 q (TX cy q) u) (gA 78 q)) 0 0 (gA 78 q) := by
  refine Met.ofW (cc := cX8_resetActuators) (maxL := 3) (ret := (some .int)) (by decide +kernel) rfl ?_
  intro p e s m args below meth c s₁ B hml hv
  obtain ⟨rfl, hP, hK⟩ := hv
  have hl := lv_entry ([.ref (q (0))]) (n := 3) (Nat.le_of_ble_eq_true rfl)
  rw [lg_entry_eq]
  generalize (lg_sl ([.ref (q (0))]) ++ List.replicate (3 - (lg_sl ([.ref (q (0))])).length) Slot.unset).toArray = ls at hl ⊢
  have hl : lv_has ls 3 [(0, .ref (q (0)))] := hl
  exact kX8_resetActuators_0 ⟨B.exec, B.bytes, B.returns, hml, findClass_of_methodNamed B.named, atoms_spec (ws := wsX8_resetActuators) B.pre, B.notSynchronized⟩ hK hJ  hP va_S.rf hl hp
abbrev rmX8_isCommand : Room := { frames := 0, cells := 0, slots := 0, locals := 0 }
def sX8_isCommand_17 (sx0 : Int32) (σ : TS) : Option (Int32 × TS) := (if zok sx0 = true then some (sx0, σ) else none)
set_option maxHeartbeats 4000000 in
set_option maxRecDepth 100000 in
theorem kX8_isCommand_17 {r : Int32} {u : TS} (C0 : gC RX8 cX8_isCommand 1 ((some .boolean)) wsX8_isCommand p s m args meth c) (hK : va_K D vwCl (tyL cy) s) (hJ : gJ 78 q) {H : Heap} {locs : List Loc} {σ : TS} {sx0 : Int32} (hP : va_P D vwCl (gS 78 q (TX cy q) σ) H) (hS : va_S (gA 78 q) s.heap H locs) {ls : Array Slot} (hl : lv_has ls 1 []) (hp : sX8_isCommand_17 sx0 σ = some (r, u)) : W p l e rmX8_isCommand s m args below meth c H locs 0 0 (MQ below (gQi D vwCl r (gS 78 q (TX cy q) u) (gA 78 q)) args s 0 0 (gA 78 q)) (F0 m 17 ls [.int sx0]) := by
  obtain ⟨hx, hb, hr, hml, hown, hts, hlocks⟩ := id C0
  unfold sX8_isCommand_17 at hp
  obtain ⟨hz1, hp⟩ := o_chk hp
  obtain ⟨rfl, rfl⟩ := o_r hp
  exact W.zret (v := sx0) hx hb hr (zok_n hz1).1 (fun t ht hW => ⟨⟨sx0, (), rfl, rfl, by subst ht; exact hP⟩, hS.F ht⟩) hS.2.2 dX8_isCommand_17
def sX8_isCommand_12 (σ : TS) : Option (Int32 × TS) := sX8_isCommand_17 ((1 : Int32)) σ
set_option maxHeartbeats 4000000 in
set_option maxRecDepth 100000 in
theorem kX8_isCommand_12 {r : Int32} {u : TS} (C0 : gC RX8 cX8_isCommand 1 ((some .boolean)) wsX8_isCommand p s m args meth c) (hK : va_K D vwCl (tyL cy) s) (hJ : gJ 78 q) {H : Heap} {locs : List Loc} {σ : TS} (hP : va_P D vwCl (gS 78 q (TX cy q) σ) H) (hS : va_S (gA 78 q) s.heap H locs) {ls : Array Slot} (hl : lv_has ls 1 []) (hp : sX8_isCommand_12 σ = some (r, u)) : W p l e rmX8_isCommand s m args below meth c H locs 0 0 (MQ below (gQi D vwCl r (gS 78 q (TX cy q) u) (gA 78 q)) args s 0 0 (gA 78 q)) (F0 m 12 ls []) := by
  obtain ⟨hx, hb, hr, hml, hown, hts, hlocks⟩ := id C0
  unfold sX8_isCommand_12 at hp
  refine lv_iconst (v := (1 : Int32)) hx hb dX8_isCommand_12 (by decide) ?_
  refine lv_goto (tgt := 17) hx hb dX8_isCommand_13 (by decide) ?_
  exact kX8_isCommand_17 C0 hK hJ  hP hS hl hp
def sX8_isCommand_0 (x0 : Int32) (σ : TS) : Option (Int32 × TS) := (if x0 = ((109 : Int32)) then sX8_isCommand_12 σ else (if x0 = ((97 : Int32)) then sX8_isCommand_12 σ else sX8_isCommand_17 ((0 : Int32)) σ))
set_option maxHeartbeats 4000000 in
set_option maxRecDepth 100000 in
theorem kX8_isCommand_0 {r : Int32} {u : TS} (C0 : gC RX8 cX8_isCommand 1 ((some .boolean)) wsX8_isCommand p s m args meth c) (hK : va_K D vwCl (tyL cy) s) (hJ : gJ 78 q) {H : Heap} {locs : List Loc} {σ : TS} {x0 : Int32} (hP : va_P D vwCl (gS 78 q (TX cy q) σ) H) (hS : va_S (gA 78 q) s.heap H locs) {ls : Array Slot} (hl : lv_has ls 1 [(0, .int x0)]) (hp : sX8_isCommand_0 x0 σ = some (r, u)) : W p l e rmX8_isCommand s m args below meth c H locs 0 0 (MQ below (gQi D vwCl r (gS 78 q (TX cy q) u) (gA 78 q)) args s 0 0 (gA 78 q)) (F0 m 0 ls []) := by
  obtain ⟨hx, hb, hr, hml, hown, hts, hlocks⟩ := id C0
  unfold sX8_isCommand_0 at hp
  refine lv_iload_n hx hb dX8_isCommand_0 rfl (lv_at hl 0 rfl) ?_
  refine lv_bipush (v := (109 : Int32)) hx hb dX8_isCommand_1 (by decide) ?_
  refine lv_icmp_eq (tgt := 12) hx hb dX8_isCommand_3 (by decide) (fun hcd2 => ?_) (fun hcd2 => ?_)
  · have hp := o_t hp hcd2
    exact kX8_isCommand_12 C0 hK hJ  hP hS (lv_sub hl [] rfl) hp
  · have hp := o_f hp hcd2
    refine lv_iload_n hx hb dX8_isCommand_6 rfl (lv_at hl 0 rfl) ?_
    refine lv_bipush (v := (97 : Int32)) hx hb dX8_isCommand_7 (by decide) ?_
    refine lv_icmp_ne (tgt := 16) hx hb dX8_isCommand_9 (by decide) (fun hcd3 => ?_) (fun hcd3 => ?_)
    · have hp := o_f hp hcd3
      refine lv_iconst (v := (0 : Int32)) hx hb dX8_isCommand_16 (by decide) ?_
      exact kX8_isCommand_17 C0 hK hJ  hP hS (lv_sub hl [] rfl) hp
    · have hp := o_t hp hcd3
      exact kX8_isCommand_12 C0 hK hJ  hP hS (lv_sub hl [] rfl) hp
def sX8_isCommand (x0 : Int32) (σ : TS) : Option (Int32 × TS) := sX8_isCommand_0 x0 σ
theorem nVX8_isCommand : yX8_isCommand.cls ≠ "java/lang/invoke/MethodHandle" ∧ yX8_isCommand.cls ≠ "java/lang/invoke/VarHandle" ∧ (parseMethodDescriptor yX8_isCommand.desc).map (fun d => d.parameters.length) = some 1 := by decide +kernel
set_option maxHeartbeats 4000000 in
set_option maxRecDepth 100000 in
theorem mX8_isCommand (l : Launch) (hJ : gJ 78 q) {x0 : Int32} {σ : TS} {r : Int32} {u : TS} (hp : sX8_isCommand x0 σ = some (r, u)) : Met l yX8_isCommand wsX8_isCommand rmX8_isCommand (va_Pc [.int x0] (gPre D vwCl (tyL cy) (gS 78 q (TX cy q) σ))) (gQi D vwCl r (gS 78 q (TX cy q) u) (gA 78 q)) 0 0 (gA 78 q) := by
  refine Met.ofW (cc := cX8_isCommand) (maxL := 1) (ret := (some .boolean)) (by decide +kernel) rfl ?_
  intro p e s m args below meth c s₁ B hml hv
  obtain ⟨rfl, hP, hK⟩ := hv
  have hl := lv_entry ([.int x0]) (n := 1) (Nat.le_of_ble_eq_true rfl)
  rw [lg_entry_eq]
  generalize (lg_sl ([.int x0]) ++ List.replicate (1 - (lg_sl ([.int x0])).length) Slot.unset).toArray = ls at hl ⊢
  have hl : lv_has ls 1 [(0, .int x0)] := hl
  exact kX8_isCommand_0 ⟨B.exec, B.bytes, B.returns, hml, findClass_of_methodNamed B.named, atoms_spec (ws := wsX8_isCommand) B.pre, B.notSynchronized⟩ hK hJ  hP va_S.rf hl hp
end

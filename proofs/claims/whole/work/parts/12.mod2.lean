section
variable {p : Program} {l : Launch} {e : Env} {s : State} {m : MethodId} {args : Array Value} {below : List Frame} {meth : Method} {c : Code} {D : va_G} {cy : Nat → ClassId} {q : Nat → Nat}
theorem miX9_plain_X9 : ∀ w ∈ u_ws RX9 TX9 44, w ∈ wsX9_plain := by decide +kernel
theorem mwX9_plain_0 : Cond.fieldLink RX9 78 "TriplaneModel" "plainOutputs" "[I" ∈ wsX9_plain := by decide +kernel
abbrev rmX9_plain : Room := { frames := 2, cells := 0, slots := 0, locals := 42 }
def sX9_plain_21 (sx0 : Int32) (σ : TS) : Option (Int32 × TS) := some (sx0, σ)
set_option maxHeartbeats 4000000 in
set_option maxRecDepth 100000 in
theorem kX9_plain_21 {r : Int32} {u : TS} (C0 : gC RX9 cX9_plain 2 ((some .int)) wsX9_plain p s m args meth c) (hK : va_K D vwCl (tyL cy) s) (hJ : gJ 39 q) {H : Heap} {locs : List Loc} {σ : TS} {sx0 : Int32} (hP : va_P D vwCl (gS 39 q (MX cy q) σ) H) (hS : va_S (gA 39 q) s.heap H locs) {ls : Array Slot} (hl : lv_has ls 2 []) (hp : sX9_plain_21 sx0 σ = some (r, u)) : W p l e rmX9_plain s m args below meth c H locs 0 0 (MQ below (gQi D vwCl r (gS 39 q (MX cy q) u) (gA 39 q)) args s 0 0 (gA 39 q)) (F0 m 21 ls [.int sx0]) := by
  obtain ⟨hx, hb, hr, hml, hown, hts, hlocks⟩ := id C0
  unfold sX9_plain_21 at hp
  obtain ⟨rfl, rfl⟩ := o_r hp
  exact W.iret (v := sx0) hx hb hr (fun t ht hW => ⟨⟨sx0, (), rfl, rfl, by subst ht; exact hP⟩, hS.F ht⟩) hS.2.2 dX9_plain_21
def sX9_plain_8 (x1 : Int32) (sx0 : Int32) (σ : TS) : Option (Int32 × TS) := (if sx0 = 0 then (if vin x1 4 = true then sX9_plain_21 (σ 23 (x1.toNatClampNeg)) σ else none) else sX9_plain_21 ((0 : Int32)) σ)
set_option maxHeartbeats 4000000 in
set_option maxRecDepth 100000 in
theorem kX9_plain_8 {r : Int32} {u : TS} (C0 : gC RX9 cX9_plain 2 ((some .int)) wsX9_plain p s m args meth c) (hK : va_K D vwCl (tyL cy) s) (hJ : gJ 39 q) {H : Heap} {locs : List Loc} {σ : TS} {x1 : Int32} {sx0 : Int32} (hP : va_P D vwCl (gS 39 q (MX cy q) σ) H) (hS : va_S (gA 39 q) s.heap H locs) {ls : Array Slot} (hl : lv_has ls 2 [(0, .ref (q (0))), (1, .int x1)]) (hp : sX9_plain_8 x1 sx0 σ = some (r, u)) : W p l e rmX9_plain s m args below meth c H locs 0 0 (MQ below (gQi D vwCl r (gS 39 q (MX cy q) u) (gA 39 q)) args s 0 0 (gA 39 q)) (F0 m 8 ls [.int sx0]) := by
  obtain ⟨hx, hb, hr, hml, hown, hts, hlocks⟩ := id C0
  unfold sX9_plain_8 at hp
  refine lv_if_eq (tgt := 15) hx hb dX9_plain_8 (by decide) (fun hcd1 => ?_) (fun hcd1 => ?_)
  · have hp := o_t hp hcd1
    refine lv_aload_n hx hb dX9_plain_15 rfl (lv_at hl 0 rfl) ?_
    refine g_get (v := .ref (q (23))) hx hb hts miX9_plain_X9 hown hK hP (kk_Mod) (ce_Mod) rfl 25 (by decide) mwX9_plain_0 rfl dX9_plain_16 ?_
    refine lv_iload_n hx hb dX9_plain_19 rfl (lv_at hl 1 rfl) ?_
    obtain ⟨hi2, hp⟩ := o_chk hp
    refine g_iald (j := x1.toNatClampNeg) hx hb hK hP (kk_M_plainOutputs) (ce_M_plainOutputs) 0 rfl (vin_of hi2) rfl dX9_plain_20 ?_
    exact kX9_plain_21 C0 hK hJ  hP hS (lv_sub hl [] rfl) hp
  · have hp := o_f hp hcd1
    refine lv_iconst (v := (0 : Int32)) hx hb dX9_plain_11 (by decide) ?_
    refine lv_goto (tgt := 21) hx hb dX9_plain_12 (by decide) ?_
    exact kX9_plain_21 C0 hK hJ  hP hS (lv_sub hl [] rfl) hp
def sX9_plain_5 (x1 : Int32) (sx1 : Int32) (σ : TS) : Option (Int32 × TS) := ((sX9_isOut sx1 σ).bind (fun z => sX9_plain_8 x1 z.1 z.2))
set_option maxHeartbeats 4000000 in
set_option maxRecDepth 100000 in
theorem kX9_plain_5 {r : Int32} {u : TS} (C0 : gC RX9 cX9_plain 2 ((some .int)) wsX9_plain p s m args meth c) (hK : va_K D vwCl (tyL cy) s) (hJ : gJ 39 q) {H : Heap} {locs : List Loc} {σ : TS} {x1 : Int32} {sx1 : Int32} (hP : va_P D vwCl (gS 39 q (MX cy q) σ) H) (hS : va_S (gA 39 q) s.heap H locs) {ls : Array Slot} (hl : lv_has ls 2 [(0, .ref (q (0))), (1, .int x1)]) (hp : sX9_plain_5 x1 sx1 σ = some (r, u)) : W p l e rmX9_plain s m args below meth c H locs 0 0 (MQ below (gQi D vwCl r (gS 39 q (MX cy q) u) (gA 39 q)) args s 0 0 (gA 39 q)) (F0 m 5 ls [.int sx1, .ref (q (0))]) := by
  obtain ⟨hx, hb, hr, hml, hown, hts, hlocks⟩ := id C0
  unfold sX9_plain_5 at hp
  obtain ⟨⟨r3, u4⟩, hq5, hp⟩ := o_b hp
  refine g_cVi (As := [.int sx1]) (rest := []) hx hb hml hown hts hK hP hS (mX9_isOut l hJ hq5) (cwV 1 hts gX9_plain_X9_isOut rfl rfl rfl nVX9_isOut ⟨Nat.le_of_ble_eq_true rfl, Nat.le_of_ble_eq_true rfl⟩) (g_recv hK hP (kk_Mod) (ce_Mod) rfl) rfl hl.1 rfl (Nat.le_of_ble_eq_true rfl) dX9_plain_5 ⟨Nat.le_of_ble_eq_true rfl, Nat.le_of_ble_eq_true rfl⟩ (fun H locs hP hS => ?_)
  exact kX9_plain_8 C0 hK hJ  hP hS hl hp
def sX9_plain_0 (x1 : Int32) (σ : TS) : Option (Int32 × TS) := ((sX9_isFour x1 σ).bind (fun z => sX9_plain_5 x1 z.1 z.2))
set_option maxHeartbeats 4000000 in
set_option maxRecDepth 100000 in
theorem kX9_plain_0 {r : Int32} {u : TS} (C0 : gC RX9 cX9_plain 2 ((some .int)) wsX9_plain p s m args meth c) (hK : va_K D vwCl (tyL cy) s) (hJ : gJ 39 q) {H : Heap} {locs : List Loc} {σ : TS} {x1 : Int32} (hP : va_P D vwCl (gS 39 q (MX cy q) σ) H) (hS : va_S (gA 39 q) s.heap H locs) {ls : Array Slot} (hl : lv_has ls 2 [(0, .ref (q (0))), (1, .int x1)]) (hp : sX9_plain_0 x1 σ = some (r, u)) : W p l e rmX9_plain s m args below meth c H locs 0 0 (MQ below (gQi D vwCl r (gS 39 q (MX cy q) u) (gA 39 q)) args s 0 0 (gA 39 q)) (F0 m 0 ls []) := by
  obtain ⟨hx, hb, hr, hml, hown, hts, hlocks⟩ := id C0
  unfold sX9_plain_0 at hp
  refine lv_aload_n hx hb dX9_plain_0 rfl (lv_at hl 0 rfl) ?_
  refine lv_iload_n hx hb dX9_plain_1 rfl (lv_at hl 1 rfl) ?_
  obtain ⟨⟨r6, u7⟩, hq8, hp⟩ := o_b hp
  refine g_cSi (As := [.int x1]) (rest := [.ref (q (0))]) hx hb hml hown hts hK hP hS (mX9_isFour l hJ hq8) (va_cwS 1 hts gX9_plain_X9_isFour rfl rfl rfl nVX9_isFour ⟨Nat.le_of_ble_eq_true rfl, Nat.le_of_ble_eq_true rfl⟩) rfl hl.1 rfl (Nat.le_of_ble_eq_true rfl) dX9_plain_2 ⟨Nat.le_of_ble_eq_true rfl, Nat.le_of_ble_eq_true rfl⟩ (fun H locs hP hS => ?_)
  exact kX9_plain_5 C0 hK hJ  hP hS hl hp
def sX9_plain (x1 : Int32) (σ : TS) : Option (Int32 × TS) := sX9_plain_0 x1 σ
theorem nVX9_plain : yX9_plain.cls = RX9 ∧ yX9_plain.cls ≠ "java/lang/invoke/MethodHandle" ∧ yX9_plain.cls ≠ "java/lang/invoke/VarHandle" ∧ (parseMethodDescriptor yX9_plain.desc).map (fun d => d.parameters.length) = some 1 := by decide +kernel
set_option maxHeartbeats 4000000 in
set_option maxRecDepth 100000 in
theorem mX9_plain (l : Launch) (hJ : gJ 39 q) {x1 : Int32} {σ : TS} {r : Int32} {u : TS} (hp : sX9_plain x1 σ = some (r, u)) : Met l yX9_plain wsX9_plain rmX9_plain (va_Pc [.ref (q (0)), .int x1] (gPre D vwCl (tyL cy) (gS 39 q (MX cy q) σ))) (gQi D vwCl r (gS 39 q (MX cy q) u) (gA 39 q)) 0 0 (gA 39 q) := by
  refine Met.ofW (cc := cX9_plain) (maxL := 2) (ret := (some .int)) (by decide +kernel) rfl ?_
  intro p e s m args below meth c s₁ B hml hv
  obtain ⟨rfl, hP, hK⟩ := hv
  have hl := lv_entry ([.ref (q (0)), .int x1]) (n := 2) (Nat.le_of_ble_eq_true rfl)
  rw [lg_entry_eq]
  generalize (lg_sl ([.ref (q (0)), .int x1]) ++ List.replicate (2 - (lg_sl ([.ref (q (0)), .int x1])).length) Slot.unset).toArray = ls at hl ⊢
  have hl : lv_has ls 2 [(0, .ref (q (0))), (1, .int x1)] := hl
  exact kX9_plain_0 ⟨B.exec, B.bytes, B.returns, hml, findClass_of_methodNamed B.named, atoms_spec (ws := wsX9_plain) B.pre, B.notSynchronized⟩ hK hJ  hP va_S.rf hl hp
theorem miX9_isPlain_X9 : ∀ w ∈ u_ws RX9 TX9 44, w ∈ wsX9_isPlain := by decide +kernel
theorem mwX9_isPlain_0 : Cond.fieldLink RX9 75 "TriplaneModel" "outputs" "[I" ∈ wsX9_isPlain := by decide +kernel
theorem mwX9_isPlain_1 : Cond.fieldLink RX9 78 "TriplaneModel" "plainOutputs" "[I" ∈ wsX9_isPlain := by decide +kernel
theorem mwX9_isPlain_2 : Cond.fieldLink RX9 130 "TriplaneModel" "thrown" "I" ∈ wsX9_isPlain := by decide +kernel
abbrev rmX9_isPlain : Room := { frames := 0, cells := 0, slots := 0, locals := 0 }
def sX9_isPlain_38 (K9 : Int32 → Int32 → TS → Option (Int32 × TS)) (x2 : Int32) (sx0 : Int32) (σ : TS) : Option (Int32 × TS) := K9 sx0 (x2 + (1 : Int32)) σ
set_option maxHeartbeats 4000000 in
set_option maxRecDepth 100000 in
theorem kX9_isPlain_38 {r : Int32} {u : TS} {K9 : Int32 → Int32 → TS → Option (Int32 × TS)} (C0 : gC RX9 cX9_isPlain 3 ((some .boolean)) wsX9_isPlain p s m args meth c) (hK : va_K D vwCl (tyL cy) s) (hJ : gJ 39 q) (kh9 : ∀ (H : Heap) (locs : List Loc) (σ : TS) (x1 : Int32) (x2 : Int32) (hP : va_P D vwCl (gS 39 q (MX cy q) σ) H) (hS : va_S (gA 39 q) s.heap H locs) (ls : Array Slot) (hl : lv_has ls 3 [(0, .ref (q (0))), (1, .int x1), (2, .int x2)]) (hp : K9 x1 x2 σ = some (r, u)), W p l e rmX9_isPlain s m args below meth c H locs 0 0 (MQ below (gQi D vwCl r (gS 39 q (MX cy q) u) (gA 39 q)) args s 0 0 (gA 39 q)) (F0 m 9 ls [])) {H : Heap} {locs : List Loc} {σ : TS} {x2 : Int32} {sx0 : Int32} (hP : va_P D vwCl (gS 39 q (MX cy q) σ) H) (hS : va_S (gA 39 q) s.heap H locs) {ls : Array Slot} (hl : lv_has ls 3 [(0, .ref (q (0))), (2, .int x2)]) (hp : sX9_isPlain_38 K9 x2 sx0 σ = some (r, u)) : W p l e rmX9_isPlain s m args below meth c H locs 0 0 (MQ below (gQi D vwCl r (gS 39 q (MX cy q) u) (gA 39 q)) args s 0 0 (gA 39 q)) (F0 m 38 ls [.int sx0]) := by
  obtain ⟨hx, hb, hr, hml, hown, hts, hlocks⟩ := id C0
  unfold sX9_isPlain_38 at hp
  refine lv_istore_n (lv' := [(1, .int sx0), (0, .ref (q (0))), (2, .int x2)]) hx hb dX9_isPlain_38 rfl hl (by decide) rfl (fun ls hl => ?_)
  refine lv_iinc (v := x2 + (1 : Int32)) (lv' := [(2, .int (x2 + (1 : Int32))), (1, .int sx0), (0, .ref (q (0)))]) hx hb dX9_isPlain_39 hl (k := 2) rfl rfl (by decide) rfl (fun ls hl => ?_)
  refine lv_goto (tgt := 9) hx hb dX9_isPlain_42 (by decide) ?_
  exact kh9 _ _ _ _ _  hP hS _ (lv_sub hl [2, 1, 0] rfl) hp
def sX9_isPlain_37 (K9 : Int32 → Int32 → TS → Option (Int32 × TS)) (x2 : Int32) (σ : TS) : Option (Int32 × TS) := sX9_isPlain_38 K9 x2 ((0 : Int32)) σ
set_option maxHeartbeats 4000000 in
set_option maxRecDepth 100000 in
theorem kX9_isPlain_37 {r : Int32} {u : TS} {K9 : Int32 → Int32 → TS → Option (Int32 × TS)} (C0 : gC RX9 cX9_isPlain 3 ((some .boolean)) wsX9_isPlain p s m args meth c) (hK : va_K D vwCl (tyL cy) s) (hJ : gJ 39 q) (kh9 : ∀ (H : Heap) (locs : List Loc) (σ : TS) (x1 : Int32) (x2 : Int32) (hP : va_P D vwCl (gS 39 q (MX cy q) σ) H) (hS : va_S (gA 39 q) s.heap H locs) (ls : Array Slot) (hl : lv_has ls 3 [(0, .ref (q (0))), (1, .int x1), (2, .int x2)]) (hp : K9 x1 x2 σ = some (r, u)), W p l e rmX9_isPlain s m args below meth c H locs 0 0 (MQ below (gQi D vwCl r (gS 39 q (MX cy q) u) (gA 39 q)) args s 0 0 (gA 39 q)) (F0 m 9 ls [])) {H : Heap} {locs : List Loc} {σ : TS} {x2 : Int32} (hP : va_P D vwCl (gS 39 q (MX cy q) σ) H) (hS : va_S (gA 39 q) s.heap H locs) {ls : Array Slot} (hl : lv_has ls 3 [(0, .ref (q (0))), (2, .int x2)]) (hp : sX9_isPlain_37 K9 x2 σ = some (r, u)) : W p l e rmX9_isPlain s m args below meth c H locs 0 0 (MQ below (gQi D vwCl r (gS 39 q (MX cy q) u) (gA 39 q)) args s 0 0 (gA 39 q)) (F0 m 37 ls []) := by
  obtain ⟨hx, hb, hr, hml, hown, hts, hlocks⟩ := id C0
  unfold sX9_isPlain_37 at hp
  refine lv_iconst (v := (0 : Int32)) hx hb dX9_isPlain_37 (by decide) ?_
  exact kX9_isPlain_38 C0 hK hJ kh9  hP hS hl hp
def sX9_isPlain_9 : Nat → Int32 → Int32 → TS → Option (Int32 × TS)
  | 0, _, _, _ => none
  | n + 1, x1, x2, σ => (if ((4 : Int32)) ≤ x2 then (if zok x1 = true then some (x1, σ) else none) else (if x1 = 0 then sX9_isPlain_37 (sX9_isPlain_9 n) x2 σ else (if vin x2 4 = true then (if (σ 22 (x2.toNatClampNeg)) = (σ 23 (x2.toNatClampNeg)) then sX9_isPlain_38 (sX9_isPlain_9 n) x2 ((1 : Int32)) σ else sX9_isPlain_37 (sX9_isPlain_9 n) x2 σ) else none)))
set_option maxHeartbeats 4000000 in
set_option maxRecDepth 100000 in
theorem kX9_isPlain_9 {r : Int32} {u : TS} (C0 : gC RX9 cX9_isPlain 3 ((some .boolean)) wsX9_isPlain p s m args meth c) (hK : va_K D vwCl (tyL cy) s) (hJ : gJ 39 q) : ∀ (n : Nat) (H : Heap) (locs : List Loc) (σ : TS) (x1 : Int32) (x2 : Int32) (hP : va_P D vwCl (gS 39 q (MX cy q) σ) H) (hS : va_S (gA 39 q) s.heap H locs) (ls : Array Slot) (hl : lv_has ls 3 [(0, .ref (q (0))), (1, .int x1), (2, .int x2)]) (hp : sX9_isPlain_9 n x1 x2 σ = some (r, u)), W p l e rmX9_isPlain s m args below meth c H locs 0 0 (MQ below (gQi D vwCl r (gS 39 q (MX cy q) u) (gA 39 q)) args s 0 0 (gA 39 q)) (F0 m 9 ls []) := by
  obtain ⟨hx, hb, hr, hml, hown, hts, hlocks⟩ := id C0
  intro n
  induction n with
  | zero =>
    intro H locs σ x1 x2 hP hS ls hl hp
    cases hp
  | succ n ih =>
    intro H locs σ x1 x2 hP hS ls hl hp
    unfold sX9_isPlain_9 at hp
    refine lv_iload_n hx hb dX9_isPlain_9 rfl (lv_at hl 2 rfl) ?_
    refine lv_iconst (v := (4 : Int32)) hx hb dX9_isPlain_10 (by decide) ?_
    refine lv_icmp_ge (tgt := 45) hx hb dX9_isPlain_11 (by decide) (fun hcd1 => ?_) (fun hcd1 => ?_)
    · have hp := o_t hp hcd1
      refine lv_iload_n hx hb dX9_isPlain_45 rfl (lv_at hl 1 rfl) ?_
      obtain ⟨hz2, hp⟩ := o_chk hp
      obtain ⟨rfl, rfl⟩ := o_r hp
      exact W.zret (v := x1) hx hb hr (zok_n hz2).1 (fun t ht hW => ⟨⟨x1, (), rfl, rfl, by subst ht; exact hP⟩, hS.F ht⟩) hS.2.2 dX9_isPlain_46
    · have hp := o_f hp hcd1
      refine lv_iload_n hx hb dX9_isPlain_14 rfl (lv_at hl 1 rfl) ?_
      refine lv_if_eq (tgt := 37) hx hb dX9_isPlain_15 (by decide) (fun hcd3 => ?_) (fun hcd3 => ?_)
      · have hp := o_t hp hcd3
        exact kX9_isPlain_37 C0 hK hJ ih  hP hS (lv_sub hl [0, 2] rfl) hp
      · have hp := o_f hp hcd3
        refine lv_aload_n hx hb dX9_isPlain_18 rfl (lv_at hl 0 rfl) ?_
        refine g_get (v := .ref (q (22))) hx hb hts miX9_isPlain_X9 hown hK hP (kk_Mod) (ce_Mod) rfl 24 (by decide) mwX9_isPlain_0 rfl dX9_isPlain_19 ?_
        refine lv_iload_n hx hb dX9_isPlain_22 rfl (lv_at hl 2 rfl) ?_
        obtain ⟨hi4, hp⟩ := o_chk hp
        refine g_iald (j := x2.toNatClampNeg) hx hb hK hP (kk_M_outputs) (ce_M_outputs) 0 rfl (vin_of hi4) rfl dX9_isPlain_23 ?_
        refine lv_aload_n hx hb dX9_isPlain_24 rfl (lv_at hl 0 rfl) ?_
        refine g_get (v := .ref (q (23))) hx hb hts miX9_isPlain_X9 hown hK hP (kk_Mod) (ce_Mod) rfl 25 (by decide) mwX9_isPlain_1 rfl dX9_isPlain_25 ?_
        refine lv_iload_n hx hb dX9_isPlain_28 rfl (lv_at hl 2 rfl) ?_
        refine g_iald (j := x2.toNatClampNeg) hx hb hK hP (kk_M_plainOutputs) (ce_M_plainOutputs) 0 rfl (vin_of hi4) rfl dX9_isPlain_29 ?_
        refine lv_icmp_ne (tgt := 37) hx hb dX9_isPlain_30 (by decide) (fun hcd5 => ?_) (fun hcd5 => ?_)
        · have hp := o_f hp hcd5
          exact kX9_isPlain_37 C0 hK hJ ih  hP hS (lv_sub hl [0, 2] rfl) hp
        · have hp := o_t hp hcd5
          refine lv_iconst (v := (1 : Int32)) hx hb dX9_isPlain_33 (by decide) ?_
          refine lv_goto (tgt := 38) hx hb dX9_isPlain_34 (by decide) ?_
          exact kX9_isPlain_38 C0 hK hJ ih  hP hS (lv_sub hl [0, 2] rfl) hp
def sX9_isPlain_0 (σ : TS) : Option (Int32 × TS) := sX9_isPlain_9 5 ((1 : Int32)) ((0 : Int32)) (st2 σ 0 0 ((0 : Int32)))
set_option maxHeartbeats 4000000 in
set_option maxRecDepth 100000 in
theorem kX9_isPlain_0 {r : Int32} {u : TS} (C0 : gC RX9 cX9_isPlain 3 ((some .boolean)) wsX9_isPlain p s m args meth c) (hK : va_K D vwCl (tyL cy) s) (hJ : gJ 39 q) {H : Heap} {locs : List Loc} {σ : TS} (hP : va_P D vwCl (gS 39 q (MX cy q) σ) H) (hS : va_S (gA 39 q) s.heap H locs) {ls : Array Slot} (hl : lv_has ls 3 [(0, .ref (q (0)))]) (hp : sX9_isPlain_0 σ = some (r, u)) : W p l e rmX9_isPlain s m args below meth c H locs 0 0 (MQ below (gQi D vwCl r (gS 39 q (MX cy q) u) (gA 39 q)) args s 0 0 (gA 39 q)) (F0 m 0 ls []) := by
  obtain ⟨hx, hb, hr, hml, hown, hts, hlocks⟩ := id C0
  unfold sX9_isPlain_0 at hp
  refine lv_aload_n hx hb dX9_isPlain_0 rfl (lv_at hl 0 rfl) ?_
  refine lv_iconst (v := (0 : Int32)) hx hb dX9_isPlain_1 (by decide) ?_
  refine g_put (v := (0 : Int32)) hx hb hts miX9_isPlain_X9 tyX9 tyX9_ok nmX9 hown hK hJ hP hS (kk_Mod) (ce_Mod) rfl 0 (by decide) mwX9_isPlain_2 rfl rfl rfl (Nat.le_of_ble_eq_true rfl) rfl dX9_isPlain_2 (fun H locs hP hS => ?_)
  refine lv_iconst (v := (1 : Int32)) hx hb dX9_isPlain_5 (by decide) ?_
  refine lv_istore_n (lv' := [(1, .int ((1 : Int32))), (0, .ref (q (0)))]) hx hb dX9_isPlain_6 rfl hl (by decide) rfl (fun ls hl => ?_)
  refine lv_iconst (v := (0 : Int32)) hx hb dX9_isPlain_7 (by decide) ?_
  refine lv_istore_n (lv' := [(2, .int ((0 : Int32))), (1, .int ((1 : Int32))), (0, .ref (q (0)))]) hx hb dX9_isPlain_8 rfl hl (by decide) rfl (fun ls hl => ?_)
  exact kX9_isPlain_9 C0 hK hJ _ _ _ _ _ _  hP hS _ (lv_sub hl [2, 1, 0] rfl) hp
def sX9_isPlain (σ : TS) : Option (Int32 × TS) := sX9_isPlain_0 σ
theorem nVX9_isPlain : yX9_isPlain.cls = RX9 ∧ yX9_isPlain.cls ≠ "java/lang/invoke/MethodHandle" ∧ yX9_isPlain.cls ≠ "java/lang/invoke/VarHandle" ∧ (parseMethodDescriptor yX9_isPlain.desc).map (fun d => d.parameters.length) = some 0 := by decide +kernel
set_option maxHeartbeats 4000000 in
set_option maxRecDepth 100000 in
theorem mX9_isPlain (l : Launch) (hJ : gJ 39 q) {σ : TS} {r : Int32} {u : TS} (hp : sX9_isPlain σ = some (r, u)) : Met l yX9_isPlain wsX9_isPlain rmX9_isPlain (va_Pc [.ref (q (0))] (gPre D vwCl (tyL cy) (gS 39 q (MX cy q) σ))) (gQi D vwCl r (gS 39 q (MX cy q) u) (gA 39 q)) 0 0 (gA 39 q) := by
  refine Met.ofW (cc := cX9_isPlain) (maxL := 3) (ret := (some .boolean)) (by decide +kernel) rfl ?_
  intro p e s m args below meth c s₁ B hml hv
  obtain ⟨rfl, hP, hK⟩ := hv
  have hl := lv_entry ([.ref (q (0))]) (n := 3) (Nat.le_of_ble_eq_true rfl)
  rw [lg_entry_eq]
  generalize (lg_sl ([.ref (q (0))]) ++ List.replicate (3 - (lg_sl ([.ref (q (0))])).length) Slot.unset).toArray = ls at hl ⊢
  have hl : lv_has ls 3 [(0, .ref (q (0)))] := hl
  exact kX9_isPlain_0 ⟨B.exec, B.bytes, B.returns, hml, findClass_of_methodNamed B.named, atoms_spec (ws := wsX9_isPlain) B.pre, B.notSynchronized⟩ hK hJ  hP va_S.rf hl hp
abbrev rmX9_isPlace : Room := { frames := 2, cells := 0, slots := 0, locals := 42 }
def sX9_isPlace_28 (sx0 : Int32) (σ : TS) : Option (Int32 × TS) := (if zok sx0 = true then some (sx0, σ) else none)
set_option maxHeartbeats 4000000 in
set_option maxRecDepth 100000 in
theorem kX9_isPlace_28 {r : Int32} {u : TS} (C0 : gC RX9 cX9_isPlace 3 ((some .boolean)) wsX9_isPlace p s m args meth c) (hK : va_K D vwCl (tyL cy) s) (hJ : gJ 39 q) {H : Heap} {locs : List Loc} {σ : TS} {sx0 : Int32} (hP : va_P D vwCl (gS 39 q (MX cy q) σ) H) (hS : va_S (gA 39 q) s.heap H locs) {ls : Array Slot} (hl : lv_has ls 3 []) (hp : sX9_isPlace_28 sx0 σ = some (r, u)) : W p l e rmX9_isPlace s m args below meth c H locs 0 0 (MQ below (gQi D vwCl r (gS 39 q (MX cy q) u) (gA 39 q)) args s 0 0 (gA 39 q)) (F0 m 28 ls [.int sx0]) := by
  obtain ⟨hx, hb, hr, hml, hown, hts, hlocks⟩ := id C0
  unfold sX9_isPlace_28 at hp
  obtain ⟨hz1, hp⟩ := o_chk hp
  obtain ⟨rfl, rfl⟩ := o_r hp
  exact W.zret (v := sx0) hx hb hr (zok_n hz1).1 (fun t ht hW => ⟨⟨sx0, (), rfl, rfl, by subst ht; exact hP⟩, hS.F ht⟩) hS.2.2 dX9_isPlace_28
def sX9_isPlace_27 (σ : TS) : Option (Int32 × TS) := sX9_isPlace_28 ((0 : Int32)) σ
set_option maxHeartbeats 4000000 in
set_option maxRecDepth 100000 in
theorem kX9_isPlace_27 {r : Int32} {u : TS} (C0 : gC RX9 cX9_isPlace 3 ((some .boolean)) wsX9_isPlace p s m args meth c) (hK : va_K D vwCl (tyL cy) s) (hJ : gJ 39 q) {H : Heap} {locs : List Loc} {σ : TS} (hP : va_P D vwCl (gS 39 q (MX cy q) σ) H) (hS : va_S (gA 39 q) s.heap H locs) {ls : Array Slot} (hl : lv_has ls 3 []) (hp : sX9_isPlace_27 σ = some (r, u)) : W p l e rmX9_isPlace s m args below meth c H locs 0 0 (MQ below (gQi D vwCl r (gS 39 q (MX cy q) u) (gA 39 q)) args s 0 0 (gA 39 q)) (F0 m 27 ls []) := by
  obtain ⟨hx, hb, hr, hml, hown, hts, hlocks⟩ := id C0
  unfold sX9_isPlace_27 at hp
  refine lv_iconst (v := (0 : Int32)) hx hb dX9_isPlace_27 (by decide) ?_
  exact kX9_isPlace_28 C0 hK hJ  hP hS hl hp
def sX9_isPlace_20 (sx0 : Int32) (σ : TS) : Option (Int32 × TS) := (if sx0 = 0 then sX9_isPlace_27 σ else sX9_isPlace_28 ((1 : Int32)) σ)
set_option maxHeartbeats 4000000 in
set_option maxRecDepth 100000 in
theorem kX9_isPlace_20 {r : Int32} {u : TS} (C0 : gC RX9 cX9_isPlace 3 ((some .boolean)) wsX9_isPlace p s m args meth c) (hK : va_K D vwCl (tyL cy) s) (hJ : gJ 39 q) {H : Heap} {locs : List Loc} {σ : TS} {sx0 : Int32} (hP : va_P D vwCl (gS 39 q (MX cy q) σ) H) (hS : va_S (gA 39 q) s.heap H locs) {ls : Array Slot} (hl : lv_has ls 3 []) (hp : sX9_isPlace_20 sx0 σ = some (r, u)) : W p l e rmX9_isPlace s m args below meth c H locs 0 0 (MQ below (gQi D vwCl r (gS 39 q (MX cy q) u) (gA 39 q)) args s 0 0 (gA 39 q)) (F0 m 20 ls [.int sx0]) := by
  obtain ⟨hx, hb, hr, hml, hown, hts, hlocks⟩ := id C0
  unfold sX9_isPlace_20 at hp
  refine lv_if_eq (tgt := 27) hx hb dX9_isPlace_20 (by decide) (fun hcd2 => ?_) (fun hcd2 => ?_)
  · have hp := o_t hp hcd2
    exact kX9_isPlace_27 C0 hK hJ  hP hS hl hp
  · have hp := o_f hp hcd2
    refine lv_iconst (v := (1 : Int32)) hx hb dX9_isPlace_23 (by decide) ?_
    refine lv_goto (tgt := 28) hx hb dX9_isPlace_24 (by decide) ?_
    exact kX9_isPlace_28 C0 hK hJ  hP hS hl hp
def sX9_isPlace_11 (x2 : Int32) (sx0 : Int32) (σ : TS) : Option (Int32 × TS) := (if sx0 = 0 then sX9_isPlace_27 σ else ((sX9_in x2 ((0 : Int32)) ((5 : Int32)) σ).bind (fun z => sX9_isPlace_20 z.1 z.2)))
set_option maxHeartbeats 4000000 in
set_option maxRecDepth 100000 in
theorem kX9_isPlace_11 {r : Int32} {u : TS} (C0 : gC RX9 cX9_isPlace 3 ((some .boolean)) wsX9_isPlace p s m args meth c) (hK : va_K D vwCl (tyL cy) s) (hJ : gJ 39 q) {H : Heap} {locs : List Loc} {σ : TS} {x2 : Int32} {sx0 : Int32} (hP : va_P D vwCl (gS 39 q (MX cy q) σ) H) (hS : va_S (gA 39 q) s.heap H locs) {ls : Array Slot} (hl : lv_has ls 3 [(2, .int x2)]) (hp : sX9_isPlace_11 x2 sx0 σ = some (r, u)) : W p l e rmX9_isPlace s m args below meth c H locs 0 0 (MQ below (gQi D vwCl r (gS 39 q (MX cy q) u) (gA 39 q)) args s 0 0 (gA 39 q)) (F0 m 11 ls [.int sx0]) := by
  obtain ⟨hx, hb, hr, hml, hown, hts, hlocks⟩ := id C0
  unfold sX9_isPlace_11 at hp
  refine lv_if_eq (tgt := 27) hx hb dX9_isPlace_11 (by decide) (fun hcd3 => ?_) (fun hcd3 => ?_)
  · have hp := o_t hp hcd3
    exact kX9_isPlace_27 C0 hK hJ  hP hS (lv_sub hl [] rfl) hp
  · have hp := o_f hp hcd3
    refine lv_iload_n hx hb dX9_isPlace_14 rfl (lv_at hl 0 rfl) ?_
    refine lv_iconst (v := (0 : Int32)) hx hb dX9_isPlace_15 (by decide) ?_
    refine lv_iconst (v := (5 : Int32)) hx hb dX9_isPlace_16 (by decide) ?_
    obtain ⟨⟨r4, u5⟩, hq6, hp⟩ := o_b hp
    refine g_cSi (As := [.int x2, .int ((0 : Int32)), .int ((5 : Int32))]) (rest := []) hx hb hml hown hts hK hP hS (mX9_in l hJ hq6) (va_cwS 3 hts gX9_isPlace_X9_in rfl rfl rfl nVX9_in ⟨Nat.le_of_ble_eq_true rfl, Nat.le_of_ble_eq_true rfl⟩) rfl hl.1 rfl (Nat.le_of_ble_eq_true rfl) dX9_isPlace_17 ⟨Nat.le_of_ble_eq_true rfl, Nat.le_of_ble_eq_true rfl⟩ (fun H locs hP hS => ?_)
    exact kX9_isPlace_20 C0 hK hJ  hP hS (lv_sub hl [] rfl) hp
def sX9_isPlace_4 (x1 : Int32) (x2 : Int32) (sx0 : Int32) (σ : TS) : Option (Int32 × TS) := (if sx0 = 0 then sX9_isPlace_27 σ else ((sX9_isThree x1 σ).bind (fun z => sX9_isPlace_11 x2 z.1 z.2)))
set_option maxHeartbeats 4000000 in
set_option maxRecDepth 100000 in
theorem kX9_isPlace_4 {r : Int32} {u : TS} (C0 : gC RX9 cX9_isPlace 3 ((some .boolean)) wsX9_isPlace p s m args meth c) (hK : va_K D vwCl (tyL cy) s) (hJ : gJ 39 q) {H : Heap} {locs : List Loc} {σ : TS} {x1 : Int32} {x2 : Int32} {sx0 : Int32} (hP : va_P D vwCl (gS 39 q (MX cy q) σ) H) (hS : va_S (gA 39 q) s.heap H locs) {ls : Array Slot} (hl : lv_has ls 3 [(1, .int x1), (2, .int x2)]) (hp : sX9_isPlace_4 x1 x2 sx0 σ = some (r, u)) : W p l e rmX9_isPlace s m args below meth c H locs 0 0 (MQ below (gQi D vwCl r (gS 39 q (MX cy q) u) (gA 39 q)) args s 0 0 (gA 39 q)) (F0 m 4 ls [.int sx0]) := by
  obtain ⟨hx, hb, hr, hml, hown, hts, hlocks⟩ := id C0
  unfold sX9_isPlace_4 at hp
  refine lv_if_eq (tgt := 27) hx hb dX9_isPlace_4 (by decide) (fun hcd7 => ?_) (fun hcd7 => ?_)
  · have hp := o_t hp hcd7
    exact kX9_isPlace_27 C0 hK hJ  hP hS (lv_sub hl [] rfl) hp
  · have hp := o_f hp hcd7
    refine lv_iload_n hx hb dX9_isPlace_7 rfl (lv_at hl 0 rfl) ?_
    obtain ⟨⟨r8, u9⟩, hq10, hp⟩ := o_b hp
    refine g_cSi (As := [.int x1]) (rest := []) hx hb hml hown hts hK hP hS (mX9_isThree l hJ hq10) (va_cwS 1 hts gX9_isPlace_X9_isThree rfl rfl rfl nVX9_isThree ⟨Nat.le_of_ble_eq_true rfl, Nat.le_of_ble_eq_true rfl⟩) rfl hl.1 rfl (Nat.le_of_ble_eq_true rfl) dX9_isPlace_8 ⟨Nat.le_of_ble_eq_true rfl, Nat.le_of_ble_eq_true rfl⟩ (fun H locs hP hS => ?_)
    exact kX9_isPlace_11 C0 hK hJ  hP hS (lv_sub hl [1] rfl) hp
def sX9_isPlace_0 (x0 : Int32) (x1 : Int32) (x2 : Int32) (σ : TS) : Option (Int32 × TS) := ((sX9_isThree x0 σ).bind (fun z => sX9_isPlace_4 x1 x2 z.1 z.2))
set_option maxHeartbeats 4000000 in
set_option maxRecDepth 100000 in
theorem kX9_isPlace_0 {r : Int32} {u : TS} (C0 : gC RX9 cX9_isPlace 3 ((some .boolean)) wsX9_isPlace p s m args meth c) (hK : va_K D vwCl (tyL cy) s) (hJ : gJ 39 q) {H : Heap} {locs : List Loc} {σ : TS} {x0 : Int32} {x1 : Int32} {x2 : Int32} (hP : va_P D vwCl (gS 39 q (MX cy q) σ) H) (hS : va_S (gA 39 q) s.heap H locs) {ls : Array Slot} (hl : lv_has ls 3 [(0, .int x0), (1, .int x1), (2, .int x2)]) (hp : sX9_isPlace_0 x0 x1 x2 σ = some (r, u)) : W p l e rmX9_isPlace s m args below meth c H locs 0 0 (MQ below (gQi D vwCl r (gS 39 q (MX cy q) u) (gA 39 q)) args s 0 0 (gA 39 q)) (F0 m 0 ls []) := by
  obtain ⟨hx, hb, hr, hml, hown, hts, hlocks⟩ := id C0
  unfold sX9_isPlace_0 at hp
  refine lv_iload_n hx hb dX9_isPlace_0 rfl (lv_at hl 0 rfl) ?_
  obtain ⟨⟨r11, u12⟩, hq13, hp⟩ := o_b hp
  refine g_cSi (As := [.int x0]) (rest := []) hx hb hml hown hts hK hP hS (mX9_isThree l hJ hq13) (va_cwS 1 hts gX9_isPlace_X9_isThree rfl rfl rfl nVX9_isThree ⟨Nat.le_of_ble_eq_true rfl, Nat.le_of_ble_eq_true rfl⟩) rfl hl.1 rfl (Nat.le_of_ble_eq_true rfl) dX9_isPlace_1 ⟨Nat.le_of_ble_eq_true rfl, Nat.le_of_ble_eq_true rfl⟩ (fun H locs hP hS => ?_)
  exact kX9_isPlace_4 C0 hK hJ  hP hS (lv_sub hl [1, 2] rfl) hp
def sX9_isPlace (x0 : Int32) (x1 : Int32) (x2 : Int32) (σ : TS) : Option (Int32 × TS) := sX9_isPlace_0 x0 x1 x2 σ
theorem nVX9_isPlace : yX9_isPlace.cls ≠ "java/lang/invoke/MethodHandle" ∧ yX9_isPlace.cls ≠ "java/lang/invoke/VarHandle" ∧ (parseMethodDescriptor yX9_isPlace.desc).map (fun d => d.parameters.length) = some 3 := by decide +kernel
set_option maxHeartbeats 4000000 in
set_option maxRecDepth 100000 in
theorem mX9_isPlace (l : Launch) (hJ : gJ 39 q) {x0 : Int32} {x1 : Int32} {x2 : Int32} {σ : TS} {r : Int32} {u : TS} (hp : sX9_isPlace x0 x1 x2 σ = some (r, u)) : Met l yX9_isPlace wsX9_isPlace rmX9_isPlace (va_Pc [.int x0, .int x1, .int x2] (gPre D vwCl (tyL cy) (gS 39 q (MX cy q) σ))) (gQi D vwCl r (gS 39 q (MX cy q) u) (gA 39 q)) 0 0 (gA 39 q) := by
  refine Met.ofW (cc := cX9_isPlace) (maxL := 3) (ret := (some .boolean)) (by decide +kernel) rfl ?_
  intro p e s m args below meth c s₁ B hml hv
  obtain ⟨rfl, hP, hK⟩ := hv
  have hl := lv_entry ([.int x0, .int x1, .int x2]) (n := 3) (Nat.le_of_ble_eq_true rfl)
  rw [lg_entry_eq]
  generalize (lg_sl ([.int x0, .int x1, .int x2]) ++ List.replicate (3 - (lg_sl ([.int x0, .int x1, .int x2])).length) Slot.unset).toArray = ls at hl ⊢
  have hl : lv_has ls 3 [(0, .int x0), (1, .int x1), (2, .int x2)] := hl
  exact kX9_isPlace_0 ⟨B.exec, B.bytes, B.returns, hml, findClass_of_methodNamed B.named, atoms_spec (ws := wsX9_isPlace) B.pre, B.notSynchronized⟩ hK hJ  hP va_S.rf hl hp
theorem miX9_word_X9 : ∀ w ∈ u_ws RX9 TX9 44, w ∈ wsX9_word := by decide +kernel
theorem mwX9_word_0 : Cond.fieldLink RX9 26 "TriplaneModel" "words" "[I" ∈ wsX9_word := by decide +kernel
theorem mwX9_word_1 : Cond.fieldLink RX9 29 "TriplaneModel" "flips" "[I" ∈ wsX9_word := by decide +kernel
abbrev rmX9_word : Room := { frames := 3, cells := 0, slots := 0, locals := 64 }
def sX9_word_46 (sx0 : Int32) (σ : TS) : Option (Int32 × TS) := some (sx0, σ)
set_option maxHeartbeats 4000000 in
set_option maxRecDepth 100000 in
theorem kX9_word_46 {r : Int32} {u : TS} (C0 : gC RX9 cX9_word 5 ((some .int)) wsX9_word p s m args meth c) (hK : va_K D vwCl (tyL cy) s) (hJ : gJ 39 q) {H : Heap} {locs : List Loc} {σ : TS} {sx0 : Int32} (hP : va_P D vwCl (gS 39 q (MX cy q) σ) H) (hS : va_S (gA 39 q) s.heap H locs) {ls : Array Slot} (hl : lv_has ls 5 []) (hp : sX9_word_46 sx0 σ = some (r, u)) : W p l e rmX9_word s m args below meth c H locs 0 0 (MQ below (gQi D vwCl r (gS 39 q (MX cy q) u) (gA 39 q)) args s 0 0 (gA 39 q)) (F0 m 46 ls [.int sx0]) := by
  obtain ⟨hx, hb, hr, hml, hown, hts, hlocks⟩ := id C0
  unfold sX9_word_46 at hp
  obtain ⟨rfl, rfl⟩ := o_r hp
  exact W.iret (v := sx0) hx hb hr (fun t ht hW => ⟨⟨sx0, (), rfl, rfl, by subst ht; exact hP⟩, hS.F ht⟩) hS.2.2 dX9_word_46
def sX9_word_10 (x1 : Int32) (x2 : Int32) (x3 : Int32) (sx0 : Int32) (σ : TS) : Option (Int32 × TS) := (if sx0 = 0 then (if vin (((x1 * ((18 : Int32))) + (x2 * ((6 : Int32)))) + x3) 72 = true then ((sX9_round ((σ 6 ((((x1 * ((18 : Int32))) + (x2 * ((6 : Int32)))) + x3).toNatClampNeg)) ^^^ (σ 7 ((((x1 * ((18 : Int32))) + (x2 * ((6 : Int32)))) + x3).toNatClampNeg))) σ).bind (fun z => sX9_word_46 z.1 z.2)) else none) else some ((0 : Int32), σ))
set_option maxHeartbeats 4000000 in
set_option maxRecDepth 100000 in
theorem kX9_word_10 {r : Int32} {u : TS} (C0 : gC RX9 cX9_word 5 ((some .int)) wsX9_word p s m args meth c) (hK : va_K D vwCl (tyL cy) s) (hJ : gJ 39 q) {H : Heap} {locs : List Loc} {σ : TS} {x1 : Int32} {x2 : Int32} {x3 : Int32} {sx0 : Int32} (hP : va_P D vwCl (gS 39 q (MX cy q) σ) H) (hS : va_S (gA 39 q) s.heap H locs) {ls : Array Slot} (hl : lv_has ls 5 [(0, .ref (q (0))), (1, .int x1), (2, .int x2), (3, .int x3)]) (hp : sX9_word_10 x1 x2 x3 sx0 σ = some (r, u)) : W p l e rmX9_word s m args below meth c H locs 0 0 (MQ below (gQi D vwCl r (gS 39 q (MX cy q) u) (gA 39 q)) args s 0 0 (gA 39 q)) (F0 m 10 ls [.int sx0]) := by
  obtain ⟨hx, hb, hr, hml, hown, hts, hlocks⟩ := id C0
  unfold sX9_word_10 at hp
  refine lv_if_eq (tgt := 15) hx hb dX9_word_10 (by decide) (fun hcd1 => ?_) (fun hcd1 => ?_)
  · have hp := o_t hp hcd1
    refine lv_iload_n hx hb dX9_word_15 rfl (lv_at hl 1 rfl) ?_
    refine lv_bipush (v := (18 : Int32)) hx hb dX9_word_16 (by decide) ?_
    refine lv_imul hx hb dX9_word_18 ?_
    refine lv_iload_n hx hb dX9_word_19 rfl (lv_at hl 2 rfl) ?_
    refine lv_bipush (v := (6 : Int32)) hx hb dX9_word_20 (by decide) ?_
    refine lv_imul hx hb dX9_word_22 ?_
    refine lv_iadd hx hb dX9_word_23 ?_
    refine lv_iload_n hx hb dX9_word_24 rfl (lv_at hl 3 rfl) ?_
    refine lv_iadd hx hb dX9_word_25 ?_
    refine lv_istore (lv' := [(4, .int (((x1 * ((18 : Int32))) + (x2 * ((6 : Int32)))) + x3)), (0, .ref (q (0))), (1, .int x1), (2, .int x2), (3, .int x3)]) hx hb dX9_word_26 hl (by decide) rfl (fun ls hl => ?_)
    refine lv_aload_n hx hb dX9_word_28 rfl (lv_at hl 1 rfl) ?_
    refine g_get (v := .ref (q (6))) hx hb hts miX9_word_X9 hown hK hP (kk_Mod) (ce_Mod) rfl 8 (by decide) mwX9_word_0 rfl dX9_word_29 ?_
    refine lv_iload hx hb dX9_word_32 (lv_at hl 0 rfl) ?_
    obtain ⟨hi2, hp⟩ := o_chk hp
    refine g_iald (j := (((x1 * ((18 : Int32))) + (x2 * ((6 : Int32)))) + x3).toNatClampNeg) hx hb hK hP (kk_M_words) (ce_M_words) 0 rfl (vin_of hi2) rfl dX9_word_34 ?_
    refine lv_aload_n hx hb dX9_word_35 rfl (lv_at hl 1 rfl) ?_
    refine g_get (v := .ref (q (7))) hx hb hts miX9_word_X9 hown hK hP (kk_Mod) (ce_Mod) rfl 9 (by decide) mwX9_word_1 rfl dX9_word_36 ?_
    refine lv_iload hx hb dX9_word_39 (lv_at hl 0 rfl) ?_
    refine g_iald (j := (((x1 * ((18 : Int32))) + (x2 * ((6 : Int32)))) + x3).toNatClampNeg) hx hb hK hP (kk_M_flips) (ce_M_flips) 0 rfl (vin_of hi2) rfl dX9_word_41 ?_
    refine lv_ixor hx hb dX9_word_42 ?_
    obtain ⟨⟨r3, u4⟩, hq5, hp⟩ := o_b hp
    refine g_cSi (As := [.int ((σ 6 ((((x1 * ((18 : Int32))) + (x2 * ((6 : Int32)))) + x3).toNatClampNeg)) ^^^ (σ 7 ((((x1 * ((18 : Int32))) + (x2 * ((6 : Int32)))) + x3).toNatClampNeg)))]) (rest := []) hx hb hml hown hts hK hP hS (mX9_round l hJ hq5) (va_cwS 1 hts gX9_word_X9_round rfl rfl rfl nVX9_round ⟨Nat.le_of_ble_eq_true rfl, Nat.le_of_ble_eq_true rfl⟩) rfl hl.1 rfl (Nat.le_of_ble_eq_true rfl) dX9_word_43 ⟨Nat.le_of_ble_eq_true rfl, Nat.le_of_ble_eq_true rfl⟩ (fun H locs hP hS => ?_)
    exact kX9_word_46 C0 hK hJ  hP hS (lv_sub hl [] rfl) hp
  · have hp := o_f hp hcd1
    refine lv_iconst (v := (0 : Int32)) hx hb dX9_word_13 (by decide) ?_
    obtain ⟨rfl, rfl⟩ := o_r hp
    exact W.iret (v := (0 : Int32)) hx hb hr (fun t ht hW => ⟨⟨(0 : Int32), (), rfl, rfl, by subst ht; exact hP⟩, hS.F ht⟩) hS.2.2 dX9_word_14
def sX9_word_7 (x1 : Int32) (x2 : Int32) (x3 : Int32) (sx1 : Int32) (σ : TS) : Option (Int32 × TS) := ((sX9_isOut sx1 σ).bind (fun z => sX9_word_10 x1 x2 x3 z.1 z.2))
set_option maxHeartbeats 4000000 in
set_option maxRecDepth 100000 in
theorem kX9_word_7 {r : Int32} {u : TS} (C0 : gC RX9 cX9_word 5 ((some .int)) wsX9_word p s m args meth c) (hK : va_K D vwCl (tyL cy) s) (hJ : gJ 39 q) {H : Heap} {locs : List Loc} {σ : TS} {x1 : Int32} {x2 : Int32} {x3 : Int32} {sx1 : Int32} (hP : va_P D vwCl (gS 39 q (MX cy q) σ) H) (hS : va_S (gA 39 q) s.heap H locs) {ls : Array Slot} (hl : lv_has ls 5 [(0, .ref (q (0))), (1, .int x1), (2, .int x2), (3, .int x3)]) (hp : sX9_word_7 x1 x2 x3 sx1 σ = some (r, u)) : W p l e rmX9_word s m args below meth c H locs 0 0 (MQ below (gQi D vwCl r (gS 39 q (MX cy q) u) (gA 39 q)) args s 0 0 (gA 39 q)) (F0 m 7 ls [.int sx1, .ref (q (0))]) := by
  obtain ⟨hx, hb, hr, hml, hown, hts, hlocks⟩ := id C0
  unfold sX9_word_7 at hp
  obtain ⟨⟨r6, u7⟩, hq8, hp⟩ := o_b hp
  refine g_cVi (As := [.int sx1]) (rest := []) hx hb hml hown hts hK hP hS (mX9_isOut l hJ hq8) (cwV 1 hts gX9_word_X9_isOut rfl rfl rfl nVX9_isOut ⟨Nat.le_of_ble_eq_true rfl, Nat.le_of_ble_eq_true rfl⟩) (g_recv hK hP (kk_Mod) (ce_Mod) rfl) rfl hl.1 rfl (Nat.le_of_ble_eq_true rfl) dX9_word_7 ⟨Nat.le_of_ble_eq_true rfl, Nat.le_of_ble_eq_true rfl⟩ (fun H locs hP hS => ?_)
  exact kX9_word_10 C0 hK hJ  hP hS hl hp
def sX9_word_0 (x1 : Int32) (x2 : Int32) (x3 : Int32) (σ : TS) : Option (Int32 × TS) := ((sX9_isPlace x1 x2 x3 σ).bind (fun z => sX9_word_7 x1 x2 x3 z.1 z.2))
set_option maxHeartbeats 4000000 in
set_option maxRecDepth 100000 in
theorem kX9_word_0 {r : Int32} {u : TS} (C0 : gC RX9 cX9_word 5 ((some .int)) wsX9_word p s m args meth c) (hK : va_K D vwCl (tyL cy) s) (hJ : gJ 39 q) {H : Heap} {locs : List Loc} {σ : TS} {x1 : Int32} {x2 : Int32} {x3 : Int32} (hP : va_P D vwCl (gS 39 q (MX cy q) σ) H) (hS : va_S (gA 39 q) s.heap H locs) {ls : Array Slot} (hl : lv_has ls 5 [(0, .ref (q (0))), (1, .int x1), (2, .int x2), (3, .int x3)]) (hp : sX9_word_0 x1 x2 x3 σ = some (r, u)) : W p l e rmX9_word s m args below meth c H locs 0 0 (MQ below (gQi D vwCl r (gS 39 q (MX cy q) u) (gA 39 q)) args s 0 0 (gA 39 q)) (F0 m 0 ls []) := by
  obtain ⟨hx, hb, hr, hml, hown, hts, hlocks⟩ := id C0
  unfold sX9_word_0 at hp
  refine lv_aload_n hx hb dX9_word_0 rfl (lv_at hl 0 rfl) ?_
  refine lv_iload_n hx hb dX9_word_1 rfl (lv_at hl 1 rfl) ?_
  refine lv_iload_n hx hb dX9_word_2 rfl (lv_at hl 2 rfl) ?_
  refine lv_iload_n hx hb dX9_word_3 rfl (lv_at hl 3 rfl) ?_
  obtain ⟨⟨r9, u10⟩, hq11, hp⟩ := o_b hp
  refine g_cSi (As := [.int x1, .int x2, .int x3]) (rest := [.ref (q (0))]) hx hb hml hown hts hK hP hS (mX9_isPlace l hJ hq11) (va_cwS 3 hts gX9_word_X9_isPlace rfl rfl rfl nVX9_isPlace ⟨Nat.le_of_ble_eq_true rfl, Nat.le_of_ble_eq_true rfl⟩) rfl hl.1 rfl (Nat.le_of_ble_eq_true rfl) dX9_word_4 ⟨Nat.le_of_ble_eq_true rfl, Nat.le_of_ble_eq_true rfl⟩ (fun H locs hP hS => ?_)
  exact kX9_word_7 C0 hK hJ  hP hS hl hp
def sX9_word (x1 : Int32) (x2 : Int32) (x3 : Int32) (σ : TS) : Option (Int32 × TS) := sX9_word_0 x1 x2 x3 σ
theorem nVX9_word : yX9_word.cls = RX9 ∧ yX9_word.cls ≠ "java/lang/invoke/MethodHandle" ∧ yX9_word.cls ≠ "java/lang/invoke/VarHandle" ∧ (parseMethodDescriptor yX9_word.desc).map (fun d => d.parameters.length) = some 3 := by decide +kernel
set_option maxHeartbeats 4000000 in
set_option maxRecDepth 100000 in
theorem mX9_word (l : Launch) (hJ : gJ 39 q) {x1 : Int32} {x2 : Int32} {x3 : Int32} {σ : TS} {r : Int32} {u : TS} (hp : sX9_word x1 x2 x3 σ = some (r, u)) : Met l yX9_word wsX9_word rmX9_word (va_Pc [.ref (q (0)), .int x1, .int x2, .int x3] (gPre D vwCl (tyL cy) (gS 39 q (MX cy q) σ))) (gQi D vwCl r (gS 39 q (MX cy q) u) (gA 39 q)) 0 0 (gA 39 q) := by
  refine Met.ofW (cc := cX9_word) (maxL := 5) (ret := (some .int)) (by decide +kernel) rfl ?_
  intro p e s m args below meth c s₁ B hml hv
  obtain ⟨rfl, hP, hK⟩ := hv
  have hl := lv_entry ([.ref (q (0)), .int x1, .int x2, .int x3]) (n := 5) (Nat.le_of_ble_eq_true rfl)
  rw [lg_entry_eq]
  generalize (lg_sl ([.ref (q (0)), .int x1, .int x2, .int x3]) ++ List.replicate (5 - (lg_sl ([.ref (q (0)), .int x1, .int x2, .int x3])).length) Slot.unset).toArray = ls at hl ⊢
  have hl : lv_has ls 5 [(0, .ref (q (0))), (1, .int x1), (2, .int x2), (3, .int x3)] := hl
  exact kX9_word_0 ⟨B.exec, B.bytes, B.returns, hml, findClass_of_methodNamed B.named, atoms_spec (ws := wsX9_word) B.pre, B.notSynchronized⟩ hK hJ  hP va_S.rf hl hp
theorem miX9_flip_X9 : ∀ w ∈ u_ws RX9 TX9 44, w ∈ wsX9_flip := by decide +kernel
theorem mwX9_flip_0 : Cond.fieldLink RX9 29 "TriplaneModel" "flips" "[I" ∈ wsX9_flip := by decide +kernel
abbrev rmX9_flip : Room := { frames := 3, cells := 0, slots := 0, locals := 64 }
def sX9_flip_71 (sx0 : Int32) (σ : TS) : Option (Int32 × TS) := some (sx0, σ)
set_option maxHeartbeats 4000000 in
set_option maxRecDepth 100000 in
theorem kX9_flip_71 {r : Int32} {u : TS} (C0 : gC RX9 cX9_flip 6 ((some .int)) wsX9_flip p s m args meth c) (hK : va_K D vwCl (tyL cy) s) (hJ : gJ 39 q) {H : Heap} {locs : List Loc} {σ : TS} {sx0 : Int32} (hP : va_P D vwCl (gS 39 q (MX cy q) σ) H) (hS : va_S (gA 39 q) s.heap H locs) {ls : Array Slot} (hl : lv_has ls 6 []) (hp : sX9_flip_71 sx0 σ = some (r, u)) : W p l e rmX9_flip s m args below meth c H locs 0 0 (MQ below (gQi D vwCl r (gS 39 q (MX cy q) u) (gA 39 q)) args s 0 0 (gA 39 q)) (F0 m 71 ls [.int sx0]) := by
  obtain ⟨hx, hb, hr, hml, hown, hts, hlocks⟩ := id C0
  unfold sX9_flip_71 at hp
  obtain ⟨rfl, rfl⟩ := o_r hp
  exact W.iret (v := sx0) hx hb hr (fun t ht hW => ⟨⟨sx0, (), rfl, rfl, by subst ht; exact hP⟩, hS.F ht⟩) hS.2.2 dX9_flip_71
def sX9_flip_29 (x1 : Int32) (x2 : Int32) (x3 : Int32) (x4 : Int32) (sx0 : Int32) (σ : TS) : Option (Int32 × TS) := (if sx0 = 0 then (if vin (((x1 * ((18 : Int32))) + (x2 * ((6 : Int32)))) + x3) 72 = true then ((sX9_ones ((st2 σ 7 ((((x1 * ((18 : Int32))) + (x2 * ((6 : Int32)))) + x3).toNatClampNeg) ((σ 7 ((((x1 * ((18 : Int32))) + (x2 * ((6 : Int32)))) + x3).toNatClampNeg)) ^^^ (((1 : Int32)) <<< (x4 &&& 31)))) 7 ((((x1 * ((18 : Int32))) + (x2 * ((6 : Int32)))) + x3).toNatClampNeg)) (st2 σ 7 ((((x1 * ((18 : Int32))) + (x2 * ((6 : Int32)))) + x3).toNatClampNeg) ((σ 7 ((((x1 * ((18 : Int32))) + (x2 * ((6 : Int32)))) + x3).toNatClampNeg)) ^^^ (((1 : Int32)) <<< (x4 &&& 31))))).bind (fun z => sX9_flip_71 z.1 z.2)) else none) else some ((0 : Int32), σ))
set_option maxHeartbeats 4000000 in
set_option maxRecDepth 100000 in
theorem kX9_flip_29 {r : Int32} {u : TS} (C0 : gC RX9 cX9_flip 6 ((some .int)) wsX9_flip p s m args meth c) (hK : va_K D vwCl (tyL cy) s) (hJ : gJ 39 q) {H : Heap} {locs : List Loc} {σ : TS} {x1 : Int32} {x2 : Int32} {x3 : Int32} {x4 : Int32} {sx0 : Int32} (hP : va_P D vwCl (gS 39 q (MX cy q) σ) H) (hS : va_S (gA 39 q) s.heap H locs) {ls : Array Slot} (hl : lv_has ls 6 [(0, .ref (q (0))), (1, .int x1), (2, .int x2), (3, .int x3), (4, .int x4)]) (hp : sX9_flip_29 x1 x2 x3 x4 sx0 σ = some (r, u)) : W p l e rmX9_flip s m args below meth c H locs 0 0 (MQ below (gQi D vwCl r (gS 39 q (MX cy q) u) (gA 39 q)) args s 0 0 (gA 39 q)) (F0 m 29 ls [.int sx0]) := by
  obtain ⟨hx, hb, hr, hml, hown, hts, hlocks⟩ := id C0
  unfold sX9_flip_29 at hp
  refine lv_if_eq (tgt := 34) hx hb dX9_flip_29 (by decide) (fun hcd1 => ?_) (fun hcd1 => ?_)
  · have hp := o_t hp hcd1
    refine lv_iload_n hx hb dX9_flip_34 rfl (lv_at hl 1 rfl) ?_
    refine lv_bipush (v := (18 : Int32)) hx hb dX9_flip_35 (by decide) ?_
    refine lv_imul hx hb dX9_flip_37 ?_
    refine lv_iload_n hx hb dX9_flip_38 rfl (lv_at hl 2 rfl) ?_
    refine lv_bipush (v := (6 : Int32)) hx hb dX9_flip_39 (by decide) ?_
    refine lv_imul hx hb dX9_flip_41 ?_
    refine lv_iadd hx hb dX9_flip_42 ?_
    refine lv_iload_n hx hb dX9_flip_43 rfl (lv_at hl 3 rfl) ?_
    refine lv_iadd hx hb dX9_flip_44 ?_
    refine lv_istore (lv' := [(5, .int (((x1 * ((18 : Int32))) + (x2 * ((6 : Int32)))) + x3)), (0, .ref (q (0))), (1, .int x1), (2, .int x2), (3, .int x3), (4, .int x4)]) hx hb dX9_flip_45 hl (by decide) rfl (fun ls hl => ?_)
    refine lv_aload_n hx hb dX9_flip_47 rfl (lv_at hl 1 rfl) ?_
    refine g_get (v := .ref (q (7))) hx hb hts miX9_flip_X9 hown hK hP (kk_Mod) (ce_Mod) rfl 9 (by decide) mwX9_flip_0 rfl dX9_flip_48 ?_
    refine lv_iload hx hb dX9_flip_51 (lv_at hl 0 rfl) ?_
    refine lv_dup2_11 hx hb dX9_flip_53 rfl rfl ?_
    obtain ⟨hi2, hp⟩ := o_chk hp
    refine g_iald (j := (((x1 * ((18 : Int32))) + (x2 * ((6 : Int32)))) + x3).toNatClampNeg) hx hb hK hP (kk_M_flips) (ce_M_flips) 0 rfl (vin_of hi2) rfl dX9_flip_54 ?_
    refine lv_iconst (v := (1 : Int32)) hx hb dX9_flip_55 (by decide) ?_
    refine lv_iload hx hb dX9_flip_56 (lv_at hl 5 rfl) ?_
    refine lv_ishl hx hb dX9_flip_58 ?_
    refine lv_ixor hx hb dX9_flip_59 ?_
    refine g_iast (j := (((x1 * ((18 : Int32))) + (x2 * ((6 : Int32)))) + x3).toNatClampNeg) hx hb hK hJ hP hS (kk_M_flips) (ce_M_flips) 0 rfl (vin_of hi2) rfl dX9_flip_60 (fun H locs hP hS => ?_)
    refine lv_aload_n hx hb dX9_flip_61 rfl (lv_at hl 1 rfl) ?_
    refine g_get (v := .ref (q (7))) hx hb hts miX9_flip_X9 hown hK hP (kk_Mod) (ce_Mod) rfl 9 (by decide) mwX9_flip_0 rfl dX9_flip_62 ?_
    refine lv_iload hx hb dX9_flip_65 (lv_at hl 0 rfl) ?_
    refine g_iald (j := (((x1 * ((18 : Int32))) + (x2 * ((6 : Int32)))) + x3).toNatClampNeg) hx hb hK hP (kk_M_flips) (ce_M_flips) 0 rfl (vin_of hi2) rfl dX9_flip_67 ?_
    obtain ⟨⟨r3, u4⟩, hq5, hp⟩ := o_b hp
    refine g_cSi (As := [.int ((st2 σ 7 ((((x1 * ((18 : Int32))) + (x2 * ((6 : Int32)))) + x3).toNatClampNeg) ((σ 7 ((((x1 * ((18 : Int32))) + (x2 * ((6 : Int32)))) + x3).toNatClampNeg)) ^^^ (((1 : Int32)) <<< (x4 &&& 31)))) 7 ((((x1 * ((18 : Int32))) + (x2 * ((6 : Int32)))) + x3).toNatClampNeg))]) (rest := []) hx hb hml hown hts hK hP hS (mX9_ones l hJ hq5) (va_cwS 1 hts gX9_flip_X9_ones rfl rfl rfl nVX9_ones ⟨Nat.le_of_ble_eq_true rfl, Nat.le_of_ble_eq_true rfl⟩) rfl hl.1 rfl (Nat.le_of_ble_eq_true rfl) dX9_flip_68 ⟨Nat.le_of_ble_eq_true rfl, Nat.le_of_ble_eq_true rfl⟩ (fun H locs hP hS => ?_)
    exact kX9_flip_71 C0 hK hJ  hP hS (lv_sub hl [] rfl) hp
  · have hp := o_f hp hcd1
    refine lv_iconst (v := (0 : Int32)) hx hb dX9_flip_32 (by decide) ?_
    obtain ⟨rfl, rfl⟩ := o_r hp
    exact W.iret (v := (0 : Int32)) hx hb hr (fun t ht hW => ⟨⟨(0 : Int32), (), rfl, rfl, by subst ht; exact hP⟩, hS.F ht⟩) hS.2.2 dX9_flip_33
def sX9_flip_26 (x1 : Int32) (x2 : Int32) (x3 : Int32) (x4 : Int32) (sx1 : Int32) (σ : TS) : Option (Int32 × TS) := ((sX9_isOut sx1 σ).bind (fun z => sX9_flip_29 x1 x2 x3 x4 z.1 z.2))
set_option maxHeartbeats 4000000 in
set_option maxRecDepth 100000 in
theorem kX9_flip_26 {r : Int32} {u : TS} (C0 : gC RX9 cX9_flip 6 ((some .int)) wsX9_flip p s m args meth c) (hK : va_K D vwCl (tyL cy) s) (hJ : gJ 39 q) {H : Heap} {locs : List Loc} {σ : TS} {x1 : Int32} {x2 : Int32} {x3 : Int32} {x4 : Int32} {sx1 : Int32} (hP : va_P D vwCl (gS 39 q (MX cy q) σ) H) (hS : va_S (gA 39 q) s.heap H locs) {ls : Array Slot} (hl : lv_has ls 6 [(0, .ref (q (0))), (1, .int x1), (2, .int x2), (3, .int x3), (4, .int x4)]) (hp : sX9_flip_26 x1 x2 x3 x4 sx1 σ = some (r, u)) : W p l e rmX9_flip s m args below meth c H locs 0 0 (MQ below (gQi D vwCl r (gS 39 q (MX cy q) u) (gA 39 q)) args s 0 0 (gA 39 q)) (F0 m 26 ls [.int sx1, .ref (q (0))]) := by
  obtain ⟨hx, hb, hr, hml, hown, hts, hlocks⟩ := id C0
  unfold sX9_flip_26 at hp
  obtain ⟨⟨r6, u7⟩, hq8, hp⟩ := o_b hp
  refine g_cVi (As := [.int sx1]) (rest := []) hx hb hml hown hts hK hP hS (mX9_isOut l hJ hq8) (cwV 1 hts gX9_flip_X9_isOut rfl rfl rfl nVX9_isOut ⟨Nat.le_of_ble_eq_true rfl, Nat.le_of_ble_eq_true rfl⟩) (g_recv hK hP (kk_Mod) (ce_Mod) rfl) rfl hl.1 rfl (Nat.le_of_ble_eq_true rfl) dX9_flip_26 ⟨Nat.le_of_ble_eq_true rfl, Nat.le_of_ble_eq_true rfl⟩ (fun H locs hP hS => ?_)
  exact kX9_flip_29 C0 hK hJ  hP hS hl hp
def sX9_flip_25 (x1 : Int32) (x2 : Int32) (x3 : Int32) (x4 : Int32) (σ : TS) : Option (Int32 × TS) := sX9_flip_26 x1 x2 x3 x4 ((0 : Int32)) σ
set_option maxHeartbeats 4000000 in
set_option maxRecDepth 100000 in
theorem kX9_flip_25 {r : Int32} {u : TS} (C0 : gC RX9 cX9_flip 6 ((some .int)) wsX9_flip p s m args meth c) (hK : va_K D vwCl (tyL cy) s) (hJ : gJ 39 q) {H : Heap} {locs : List Loc} {σ : TS} {x1 : Int32} {x2 : Int32} {x3 : Int32} {x4 : Int32} (hP : va_P D vwCl (gS 39 q (MX cy q) σ) H) (hS : va_S (gA 39 q) s.heap H locs) {ls : Array Slot} (hl : lv_has ls 6 [(0, .ref (q (0))), (1, .int x1), (2, .int x2), (3, .int x3), (4, .int x4)]) (hp : sX9_flip_25 x1 x2 x3 x4 σ = some (r, u)) : W p l e rmX9_flip s m args below meth c H locs 0 0 (MQ below (gQi D vwCl r (gS 39 q (MX cy q) u) (gA 39 q)) args s 0 0 (gA 39 q)) (F0 m 25 ls [.ref (q (0))]) := by
  obtain ⟨hx, hb, hr, hml, hown, hts, hlocks⟩ := id C0
  unfold sX9_flip_25 at hp
  refine lv_iconst (v := (0 : Int32)) hx hb dX9_flip_25 (by decide) ?_
  exact kX9_flip_26 C0 hK hJ  hP hS hl hp
def sX9_flip_18 (x1 : Int32) (x2 : Int32) (x3 : Int32) (x4 : Int32) (sx1 : Int32) (σ : TS) : Option (Int32 × TS) := (if sx1 = 0 then sX9_flip_25 x1 x2 x3 x4 σ else sX9_flip_26 x1 x2 x3 x4 ((1 : Int32)) σ)
set_option maxHeartbeats 4000000 in
set_option maxRecDepth 100000 in
theorem kX9_flip_18 {r : Int32} {u : TS} (C0 : gC RX9 cX9_flip 6 ((some .int)) wsX9_flip p s m args meth c) (hK : va_K D vwCl (tyL cy) s) (hJ : gJ 39 q) {H : Heap} {locs : List Loc} {σ : TS} {x1 : Int32} {x2 : Int32} {x3 : Int32} {x4 : Int32} {sx1 : Int32} (hP : va_P D vwCl (gS 39 q (MX cy q) σ) H) (hS : va_S (gA 39 q) s.heap H locs) {ls : Array Slot} (hl : lv_has ls 6 [(0, .ref (q (0))), (1, .int x1), (2, .int x2), (3, .int x3), (4, .int x4)]) (hp : sX9_flip_18 x1 x2 x3 x4 sx1 σ = some (r, u)) : W p l e rmX9_flip s m args below meth c H locs 0 0 (MQ below (gQi D vwCl r (gS 39 q (MX cy q) u) (gA 39 q)) args s 0 0 (gA 39 q)) (F0 m 18 ls [.int sx1, .ref (q (0))]) := by
  obtain ⟨hx, hb, hr, hml, hown, hts, hlocks⟩ := id C0
  unfold sX9_flip_18 at hp
  refine lv_if_eq (tgt := 25) hx hb dX9_flip_18 (by decide) (fun hcd9 => ?_) (fun hcd9 => ?_)
  · have hp := o_t hp hcd9
    exact kX9_flip_25 C0 hK hJ  hP hS hl hp
  · have hp := o_f hp hcd9
    refine lv_iconst (v := (1 : Int32)) hx hb dX9_flip_21 (by decide) ?_
    refine lv_goto (tgt := 26) hx hb dX9_flip_22 (by decide) ?_
    exact kX9_flip_26 C0 hK hJ  hP hS hl hp
def sX9_flip_7 (x1 : Int32) (x2 : Int32) (x3 : Int32) (x4 : Int32) (sx1 : Int32) (σ : TS) : Option (Int32 × TS) := (if sx1 = 0 then sX9_flip_25 x1 x2 x3 x4 σ else ((sX9_in x4 ((0 : Int32)) ((15 : Int32)) σ).bind (fun z => sX9_flip_18 x1 x2 x3 x4 z.1 z.2)))
set_option maxHeartbeats 4000000 in
set_option maxRecDepth 100000 in
theorem kX9_flip_7 {r : Int32} {u : TS} (C0 : gC RX9 cX9_flip 6 ((some .int)) wsX9_flip p s m args meth c) (hK : va_K D vwCl (tyL cy) s) (hJ : gJ 39 q) {H : Heap} {locs : List Loc} {σ : TS} {x1 : Int32} {x2 : Int32} {x3 : Int32} {x4 : Int32} {sx1 : Int32} (hP : va_P D vwCl (gS 39 q (MX cy q) σ) H) (hS : va_S (gA 39 q) s.heap H locs) {ls : Array Slot} (hl : lv_has ls 6 [(0, .ref (q (0))), (1, .int x1), (2, .int x2), (3, .int x3), (4, .int x4)]) (hp : sX9_flip_7 x1 x2 x3 x4 sx1 σ = some (r, u)) : W p l e rmX9_flip s m args below meth c H locs 0 0 (MQ below (gQi D vwCl r (gS 39 q (MX cy q) u) (gA 39 q)) args s 0 0 (gA 39 q)) (F0 m 7 ls [.int sx1, .ref (q (0))]) := by
  obtain ⟨hx, hb, hr, hml, hown, hts, hlocks⟩ := id C0
  unfold sX9_flip_7 at hp
  refine lv_if_eq (tgt := 25) hx hb dX9_flip_7 (by decide) (fun hcd10 => ?_) (fun hcd10 => ?_)
  · have hp := o_t hp hcd10
    exact kX9_flip_25 C0 hK hJ  hP hS hl hp
  · have hp := o_f hp hcd10
    refine lv_iload hx hb dX9_flip_10 (lv_at hl 4 rfl) ?_
    refine lv_iconst (v := (0 : Int32)) hx hb dX9_flip_12 (by decide) ?_
    refine lv_bipush (v := (15 : Int32)) hx hb dX9_flip_13 (by decide) ?_
    obtain ⟨⟨r11, u12⟩, hq13, hp⟩ := o_b hp
    refine g_cSi (As := [.int x4, .int ((0 : Int32)), .int ((15 : Int32))]) (rest := [.ref (q (0))]) hx hb hml hown hts hK hP hS (mX9_in l hJ hq13) (va_cwS 3 hts gX9_flip_X9_in rfl rfl rfl nVX9_in ⟨Nat.le_of_ble_eq_true rfl, Nat.le_of_ble_eq_true rfl⟩) rfl hl.1 rfl (Nat.le_of_ble_eq_true rfl) dX9_flip_15 ⟨Nat.le_of_ble_eq_true rfl, Nat.le_of_ble_eq_true rfl⟩ (fun H locs hP hS => ?_)
    exact kX9_flip_18 C0 hK hJ  hP hS hl hp
def sX9_flip_0 (x1 : Int32) (x2 : Int32) (x3 : Int32) (x4 : Int32) (σ : TS) : Option (Int32 × TS) := ((sX9_isPlace x1 x2 x3 σ).bind (fun z => sX9_flip_7 x1 x2 x3 x4 z.1 z.2))
set_option maxHeartbeats 4000000 in
set_option maxRecDepth 100000 in
theorem kX9_flip_0 {r : Int32} {u : TS} (C0 : gC RX9 cX9_flip 6 ((some .int)) wsX9_flip p s m args meth c) (hK : va_K D vwCl (tyL cy) s) (hJ : gJ 39 q) {H : Heap} {locs : List Loc} {σ : TS} {x1 : Int32} {x2 : Int32} {x3 : Int32} {x4 : Int32} (hP : va_P D vwCl (gS 39 q (MX cy q) σ) H) (hS : va_S (gA 39 q) s.heap H locs) {ls : Array Slot} (hl : lv_has ls 6 [(0, .ref (q (0))), (1, .int x1), (2, .int x2), (3, .int x3), (4, .int x4)]) (hp : sX9_flip_0 x1 x2 x3 x4 σ = some (r, u)) : W p l e rmX9_flip s m args below meth c H locs 0 0 (MQ below (gQi D vwCl r (gS 39 q (MX cy q) u) (gA 39 q)) args s 0 0 (gA 39 q)) (F0 m 0 ls []) := by
  obtain ⟨hx, hb, hr, hml, hown, hts, hlocks⟩ := id C0
  unfold sX9_flip_0 at hp
  refine lv_aload_n hx hb dX9_flip_0 rfl (lv_at hl 0 rfl) ?_
  refine lv_iload_n hx hb dX9_flip_1 rfl (lv_at hl 1 rfl) ?_
  refine lv_iload_n hx hb dX9_flip_2 rfl (lv_at hl 2 rfl) ?_
  refine lv_iload_n hx hb dX9_flip_3 rfl (lv_at hl 3 rfl) ?_
  obtain ⟨⟨r14, u15⟩, hq16, hp⟩ := o_b hp
  refine g_cSi (As := [.int x1, .int x2, .int x3]) (rest := [.ref (q (0))]) hx hb hml hown hts hK hP hS (mX9_isPlace l hJ hq16) (va_cwS 3 hts gX9_flip_X9_isPlace rfl rfl rfl nVX9_isPlace ⟨Nat.le_of_ble_eq_true rfl, Nat.le_of_ble_eq_true rfl⟩) rfl hl.1 rfl (Nat.le_of_ble_eq_true rfl) dX9_flip_4 ⟨Nat.le_of_ble_eq_true rfl, Nat.le_of_ble_eq_true rfl⟩ (fun H locs hP hS => ?_)
  exact kX9_flip_7 C0 hK hJ  hP hS hl hp
def sX9_flip (x1 : Int32) (x2 : Int32) (x3 : Int32) (x4 : Int32) (σ : TS) : Option (Int32 × TS) := sX9_flip_0 x1 x2 x3 x4 σ
theorem nVX9_flip : yX9_flip.cls = RX9 ∧ yX9_flip.cls ≠ "java/lang/invoke/MethodHandle" ∧ yX9_flip.cls ≠ "java/lang/invoke/VarHandle" ∧ (parseMethodDescriptor yX9_flip.desc).map (fun d => d.parameters.length) = some 4 := by decide +kernel
set_option maxHeartbeats 4000000 in
set_option maxRecDepth 100000 in
theorem mX9_flip (l : Launch) (hJ : gJ 39 q) {x1 : Int32} {x2 : Int32} {x3 : Int32} {x4 : Int32} {σ : TS} {r : Int32} {u : TS} (hp : sX9_flip x1 x2 x3 x4 σ = some (r, u)) : Met l yX9_flip wsX9_flip rmX9_flip (va_Pc [.ref (q (0)), .int x1, .int x2, .int x3, .int x4] (gPre D vwCl (tyL cy) (gS 39 q (MX cy q) σ))) (gQi D vwCl r (gS 39 q (MX cy q) u) (gA 39 q)) 0 0 (gA 39 q) := by
  refine Met.ofW (cc := cX9_flip) (maxL := 6) (ret := (some .int)) (by decide +kernel) rfl ?_
  intro p e s m args below meth c s₁ B hml hv
  obtain ⟨rfl, hP, hK⟩ := hv
  have hl := lv_entry ([.ref (q (0)), .int x1, .int x2, .int x3, .int x4]) (n := 6) (Nat.le_of_ble_eq_true rfl)
  rw [lg_entry_eq]
  generalize (lg_sl ([.ref (q (0)), .int x1, .int x2, .int x3, .int x4]) ++ List.replicate (6 - (lg_sl ([.ref (q (0)), .int x1, .int x2, .int x3, .int x4])).length) Slot.unset).toArray = ls at hl ⊢
  have hl : lv_has ls 6 [(0, .ref (q (0))), (1, .int x1), (2, .int x2), (3, .int x3), (4, .int x4)] := hl
  exact kX9_flip_0 ⟨B.exec, B.bytes, B.returns, hml, findClass_of_methodNamed B.named, atoms_spec (ws := wsX9_flip) B.pre, B.notSynchronized⟩ hK hJ  hP va_S.rf hl hp
theorem miX9_stick_X9 : ∀ w ∈ u_ws RX9 TX9 44, w ∈ wsX9_stick := by decide +kernel
theorem mwX9_stick_0 : Cond.fieldLink RX9 60 "TriplaneModel" "stuck" "[I" ∈ wsX9_stick := by decide +kernel
theorem mwX9_stick_1 : Cond.fieldLink RX9 63 "TriplaneModel" "stuckBit" "[I" ∈ wsX9_stick := by decide +kernel
theorem mwX9_stick_2 : Cond.fieldLink RX9 66 "TriplaneModel" "isStuckSet" "[Z" ∈ wsX9_stick := by decide +kernel
theorem mwX9_stick_3 : Cond.fieldLink RX9 42 "TriplaneModel" "isTested" "[Z" ∈ wsX9_stick := by decide +kernel
abbrev rmX9_stick : Room := { frames := 2, cells := 0, slots := 0, locals := 42 }
def sX9_stick_52 (x1 : Int32) (x2 : Int32) (x3 : Int32) (x4 : Int32) (sx0 : Int32) (σ : TS) : Option (Int32 × TS) := (if vin x1 4 = true then (if zok sx0 = true then some (sx0, st2 (st2 (st2 (st2 σ 17 (x1.toNatClampNeg) (x2 + ((1 : Int32)))) 18 (x1.toNatClampNeg) x3) 19 (x1.toNatClampNeg) (vp_nar .boolean x4)) 11 (x1.toNatClampNeg) (vp_nar .boolean ((0 : Int32)))) else none) else none)
set_option maxHeartbeats 4000000 in
set_option maxRecDepth 100000 in
theorem kX9_stick_52 {r : Int32} {u : TS} (C0 : gC RX9 cX9_stick 6 ((some .boolean)) wsX9_stick p s m args meth c) (hK : va_K D vwCl (tyL cy) s) (hJ : gJ 39 q) {H : Heap} {locs : List Loc} {σ : TS} {x1 : Int32} {x2 : Int32} {x3 : Int32} {x4 : Int32} {sx0 : Int32} (hP : va_P D vwCl (gS 39 q (MX cy q) σ) H) (hS : va_S (gA 39 q) s.heap H locs) {ls : Array Slot} (hl : lv_has ls 6 [(0, .ref (q (0))), (1, .int x1), (2, .int x2), (3, .int x3), (4, .int x4)]) (hp : sX9_stick_52 x1 x2 x3 x4 sx0 σ = some (r, u)) : W p l e rmX9_stick s m args below meth c H locs 0 0 (MQ below (gQi D vwCl r (gS 39 q (MX cy q) u) (gA 39 q)) args s 0 0 (gA 39 q)) (F0 m 52 ls [.int sx0]) := by
  obtain ⟨hx, hb, hr, hml, hown, hts, hlocks⟩ := id C0
  unfold sX9_stick_52 at hp
  refine lv_istore (lv' := [(5, .int sx0), (0, .ref (q (0))), (1, .int x1), (2, .int x2), (3, .int x3), (4, .int x4)]) hx hb dX9_stick_52 hl (by decide) rfl (fun ls hl => ?_)
  refine lv_aload_n hx hb dX9_stick_54 rfl (lv_at hl 1 rfl) ?_
  refine g_get (v := .ref (q (17))) hx hb hts miX9_stick_X9 hown hK hP (kk_Mod) (ce_Mod) rfl 19 (by decide) mwX9_stick_0 rfl dX9_stick_55 ?_
  refine lv_iload_n hx hb dX9_stick_58 rfl (lv_at hl 2 rfl) ?_
  refine lv_iload_n hx hb dX9_stick_59 rfl (lv_at hl 3 rfl) ?_
  refine lv_iconst (v := (1 : Int32)) hx hb dX9_stick_60 (by decide) ?_
  refine lv_iadd hx hb dX9_stick_61 ?_
  obtain ⟨hi1, hp⟩ := o_chk hp
  refine g_iast (j := x1.toNatClampNeg) hx hb hK hJ hP hS (kk_M_stuck) (ce_M_stuck) 0 rfl (vin_of hi1) rfl dX9_stick_62 (fun H locs hP hS => ?_)
  refine lv_aload_n hx hb dX9_stick_63 rfl (lv_at hl 1 rfl) ?_
  refine g_get (v := .ref (q (18))) hx hb hts miX9_stick_X9 hown hK hP (kk_Mod) (ce_Mod) rfl 20 (by decide) mwX9_stick_1 rfl dX9_stick_64 ?_
  refine lv_iload_n hx hb dX9_stick_67 rfl (lv_at hl 2 rfl) ?_
  refine lv_iload_n hx hb dX9_stick_68 rfl (lv_at hl 4 rfl) ?_
  refine g_iast (j := x1.toNatClampNeg) hx hb hK hJ hP hS (kk_M_stuckBit) (ce_M_stuckBit) 0 rfl (vin_of hi1) rfl dX9_stick_69 (fun H locs hP hS => ?_)
  refine lv_aload_n hx hb dX9_stick_70 rfl (lv_at hl 1 rfl) ?_
  refine g_get (v := .ref (q (19))) hx hb hts miX9_stick_X9 hown hK hP (kk_Mod) (ce_Mod) rfl 21 (by decide) mwX9_stick_2 rfl dX9_stick_71 ?_
  refine lv_iload_n hx hb dX9_stick_74 rfl (lv_at hl 2 rfl) ?_
  refine lv_iload hx hb dX9_stick_75 (lv_at hl 5 rfl) ?_
  refine g_zast (j := x1.toNatClampNeg) hx hb hK hJ hP hS (kk_M_isStuckSet) (ce_M_isStuckSet) 1 rfl (vin_of hi1) rfl dX9_stick_77 (fun H locs hP hS => ?_)
  refine lv_aload_n hx hb dX9_stick_78 rfl (lv_at hl 1 rfl) ?_
  refine g_get (v := .ref (q (11))) hx hb hts miX9_stick_X9 hown hK hP (kk_Mod) (ce_Mod) rfl 13 (by decide) mwX9_stick_3 rfl dX9_stick_79 ?_
  refine lv_iload_n hx hb dX9_stick_82 rfl (lv_at hl 2 rfl) ?_
  refine lv_iconst (v := (0 : Int32)) hx hb dX9_stick_83 (by decide) ?_
  refine g_zast (j := x1.toNatClampNeg) hx hb hK hJ hP hS (kk_M_isTested) (ce_M_isTested) 1 rfl (vin_of hi1) rfl dX9_stick_84 (fun H locs hP hS => ?_)
  refine lv_iload hx hb dX9_stick_85 (lv_at hl 0 rfl) ?_
  obtain ⟨hz2, hp⟩ := o_chk hp
  obtain ⟨rfl, rfl⟩ := o_r hp
  exact W.zret (v := sx0) hx hb hr (zok_n hz2).1 (fun t ht hW => ⟨⟨sx0, (), rfl, rfl, by subst ht; exact hP⟩, hS.F ht⟩) hS.2.2 dX9_stick_87
def sX9_stick_33 (x1 : Int32) (x2 : Int32) (x3 : Int32) (x4 : Int32) (sx0 : Int32) (σ : TS) : Option (Int32 × TS) := (if sx0 = 0 then (if vin x1 4 = true then (if (σ 17 (x1.toNatClampNeg)) ≤ 0 then sX9_stick_52 x1 x2 x3 x4 ((0 : Int32)) σ else sX9_stick_52 x1 x2 x3 x4 ((1 : Int32)) σ) else none) else some ((0 : Int32), σ))
set_option maxHeartbeats 4000000 in
set_option maxRecDepth 100000 in
theorem kX9_stick_33 {r : Int32} {u : TS} (C0 : gC RX9 cX9_stick 6 ((some .boolean)) wsX9_stick p s m args meth c) (hK : va_K D vwCl (tyL cy) s) (hJ : gJ 39 q) {H : Heap} {locs : List Loc} {σ : TS} {x1 : Int32} {x2 : Int32} {x3 : Int32} {x4 : Int32} {sx0 : Int32} (hP : va_P D vwCl (gS 39 q (MX cy q) σ) H) (hS : va_S (gA 39 q) s.heap H locs) {ls : Array Slot} (hl : lv_has ls 6 [(0, .ref (q (0))), (1, .int x1), (2, .int x2), (3, .int x3), (4, .int x4)]) (hp : sX9_stick_33 x1 x2 x3 x4 sx0 σ = some (r, u)) : W p l e rmX9_stick s m args below meth c H locs 0 0 (MQ below (gQi D vwCl r (gS 39 q (MX cy q) u) (gA 39 q)) args s 0 0 (gA 39 q)) (F0 m 33 ls [.int sx0]) := by
  obtain ⟨hx, hb, hr, hml, hown, hts, hlocks⟩ := id C0
  unfold sX9_stick_33 at hp
  refine lv_if_eq (tgt := 38) hx hb dX9_stick_33 (by decide) (fun hcd3 => ?_) (fun hcd3 => ?_)
  · have hp := o_t hp hcd3
    refine lv_aload_n hx hb dX9_stick_38 rfl (lv_at hl 0 rfl) ?_
    refine g_get (v := .ref (q (17))) hx hb hts miX9_stick_X9 hown hK hP (kk_Mod) (ce_Mod) rfl 19 (by decide) mwX9_stick_0 rfl dX9_stick_39 ?_
    refine lv_iload_n hx hb dX9_stick_42 rfl (lv_at hl 1 rfl) ?_
    obtain ⟨hi4, hp⟩ := o_chk hp
    refine g_iald (j := x1.toNatClampNeg) hx hb hK hP (kk_M_stuck) (ce_M_stuck) 0 rfl (vin_of hi4) rfl dX9_stick_43 ?_
    refine lv_if_le (tgt := 51) hx hb dX9_stick_44 (by decide) (fun hcd5 => ?_) (fun hcd5 => ?_)
    · have hp := o_t hp hcd5
      refine lv_iconst (v := (0 : Int32)) hx hb dX9_stick_51 (by decide) ?_
      exact kX9_stick_52 C0 hK hJ  hP hS hl hp
    · have hp := o_f hp hcd5
      refine lv_iconst (v := (1 : Int32)) hx hb dX9_stick_47 (by decide) ?_
      refine lv_goto (tgt := 52) hx hb dX9_stick_48 (by decide) ?_
      exact kX9_stick_52 C0 hK hJ  hP hS hl hp
  · have hp := o_f hp hcd3
    refine lv_iconst (v := (0 : Int32)) hx hb dX9_stick_36 (by decide) ?_
    obtain ⟨rfl, rfl⟩ := o_r hp
    exact W.zret (v := (0 : Int32)) hx hb hr (zok_n (by decide)).1 (fun t ht hW => ⟨⟨(0 : Int32), (), rfl, rfl, by subst ht; exact hP⟩, hS.F ht⟩) hS.2.2 dX9_stick_37
def sX9_stick_30 (x1 : Int32) (x2 : Int32) (x3 : Int32) (x4 : Int32) (sx1 : Int32) (σ : TS) : Option (Int32 × TS) := ((sX9_isOut sx1 σ).bind (fun z => sX9_stick_33 x1 x2 x3 x4 z.1 z.2))
set_option maxHeartbeats 4000000 in
set_option maxRecDepth 100000 in
theorem kX9_stick_30 {r : Int32} {u : TS} (C0 : gC RX9 cX9_stick 6 ((some .boolean)) wsX9_stick p s m args meth c) (hK : va_K D vwCl (tyL cy) s) (hJ : gJ 39 q) {H : Heap} {locs : List Loc} {σ : TS} {x1 : Int32} {x2 : Int32} {x3 : Int32} {x4 : Int32} {sx1 : Int32} (hP : va_P D vwCl (gS 39 q (MX cy q) σ) H) (hS : va_S (gA 39 q) s.heap H locs) {ls : Array Slot} (hl : lv_has ls 6 [(0, .ref (q (0))), (1, .int x1), (2, .int x2), (3, .int x3), (4, .int x4)]) (hp : sX9_stick_30 x1 x2 x3 x4 sx1 σ = some (r, u)) : W p l e rmX9_stick s m args below meth c H locs 0 0 (MQ below (gQi D vwCl r (gS 39 q (MX cy q) u) (gA 39 q)) args s 0 0 (gA 39 q)) (F0 m 30 ls [.int sx1, .ref (q (0))]) := by
  obtain ⟨hx, hb, hr, hml, hown, hts, hlocks⟩ := id C0
  unfold sX9_stick_30 at hp
  obtain ⟨⟨r6, u7⟩, hq8, hp⟩ := o_b hp
  refine g_cVi (As := [.int sx1]) (rest := []) hx hb hml hown hts hK hP hS (mX9_isOut l hJ hq8) (cwV 1 hts gX9_stick_X9_isOut rfl rfl rfl nVX9_isOut ⟨Nat.le_of_ble_eq_true rfl, Nat.le_of_ble_eq_true rfl⟩) (g_recv hK hP (kk_Mod) (ce_Mod) rfl) rfl hl.1 rfl (Nat.le_of_ble_eq_true rfl) dX9_stick_30 ⟨Nat.le_of_ble_eq_true rfl, Nat.le_of_ble_eq_true rfl⟩ (fun H locs hP hS => ?_)
  exact kX9_stick_33 C0 hK hJ  hP hS hl hp
def sX9_stick_29 (x1 : Int32) (x2 : Int32) (x3 : Int32) (x4 : Int32) (σ : TS) : Option (Int32 × TS) := sX9_stick_30 x1 x2 x3 x4 ((0 : Int32)) σ
set_option maxHeartbeats 4000000 in
set_option maxRecDepth 100000 in
theorem kX9_stick_29 {r : Int32} {u : TS} (C0 : gC RX9 cX9_stick 6 ((some .boolean)) wsX9_stick p s m args meth c) (hK : va_K D vwCl (tyL cy) s) (hJ : gJ 39 q) {H : Heap} {locs : List Loc} {σ : TS} {x1 : Int32} {x2 : Int32} {x3 : Int32} {x4 : Int32} (hP : va_P D vwCl (gS 39 q (MX cy q) σ) H) (hS : va_S (gA 39 q) s.heap H locs) {ls : Array Slot} (hl : lv_has ls 6 [(0, .ref (q (0))), (1, .int x1), (2, .int x2), (3, .int x3), (4, .int x4)]) (hp : sX9_stick_29 x1 x2 x3 x4 σ = some (r, u)) : W p l e rmX9_stick s m args below meth c H locs 0 0 (MQ below (gQi D vwCl r (gS 39 q (MX cy q) u) (gA 39 q)) args s 0 0 (gA 39 q)) (F0 m 29 ls [.ref (q (0))]) := by
  obtain ⟨hx, hb, hr, hml, hown, hts, hlocks⟩ := id C0
  unfold sX9_stick_29 at hp
  refine lv_iconst (v := (0 : Int32)) hx hb dX9_stick_29 (by decide) ?_
  exact kX9_stick_30 C0 hK hJ  hP hS hl hp
def sX9_stick_22 (x1 : Int32) (x2 : Int32) (x3 : Int32) (x4 : Int32) (sx1 : Int32) (σ : TS) : Option (Int32 × TS) := (if sx1 = 0 then sX9_stick_29 x1 x2 x3 x4 σ else sX9_stick_30 x1 x2 x3 x4 ((1 : Int32)) σ)
set_option maxHeartbeats 4000000 in
set_option maxRecDepth 100000 in
theorem kX9_stick_22 {r : Int32} {u : TS} (C0 : gC RX9 cX9_stick 6 ((some .boolean)) wsX9_stick p s m args meth c) (hK : va_K D vwCl (tyL cy) s) (hJ : gJ 39 q) {H : Heap} {locs : List Loc} {σ : TS} {x1 : Int32} {x2 : Int32} {x3 : Int32} {x4 : Int32} {sx1 : Int32} (hP : va_P D vwCl (gS 39 q (MX cy q) σ) H) (hS : va_S (gA 39 q) s.heap H locs) {ls : Array Slot} (hl : lv_has ls 6 [(0, .ref (q (0))), (1, .int x1), (2, .int x2), (3, .int x3), (4, .int x4)]) (hp : sX9_stick_22 x1 x2 x3 x4 sx1 σ = some (r, u)) : W p l e rmX9_stick s m args below meth c H locs 0 0 (MQ below (gQi D vwCl r (gS 39 q (MX cy q) u) (gA 39 q)) args s 0 0 (gA 39 q)) (F0 m 22 ls [.int sx1, .ref (q (0))]) := by
  obtain ⟨hx, hb, hr, hml, hown, hts, hlocks⟩ := id C0
  unfold sX9_stick_22 at hp
  refine lv_if_eq (tgt := 29) hx hb dX9_stick_22 (by decide) (fun hcd9 => ?_) (fun hcd9 => ?_)
  · have hp := o_t hp hcd9
    exact kX9_stick_29 C0 hK hJ  hP hS hl hp
  · have hp := o_f hp hcd9
    refine lv_iconst (v := (1 : Int32)) hx hb dX9_stick_25 (by decide) ?_
    refine lv_goto (tgt := 30) hx hb dX9_stick_26 (by decide) ?_
    exact kX9_stick_30 C0 hK hJ  hP hS hl hp
def sX9_stick_12 (x1 : Int32) (x2 : Int32) (x3 : Int32) (x4 : Int32) (sx1 : Int32) (σ : TS) : Option (Int32 × TS) := (if sx1 = 0 then sX9_stick_29 x1 x2 x3 x4 σ else ((sX9_in x3 ((0 : Int32)) ((15 : Int32)) σ).bind (fun z => sX9_stick_22 x1 x2 x3 x4 z.1 z.2)))
set_option maxHeartbeats 4000000 in
set_option maxRecDepth 100000 in
theorem kX9_stick_12 {r : Int32} {u : TS} (C0 : gC RX9 cX9_stick 6 ((some .boolean)) wsX9_stick p s m args meth c) (hK : va_K D vwCl (tyL cy) s) (hJ : gJ 39 q) {H : Heap} {locs : List Loc} {σ : TS} {x1 : Int32} {x2 : Int32} {x3 : Int32} {x4 : Int32} {sx1 : Int32} (hP : va_P D vwCl (gS 39 q (MX cy q) σ) H) (hS : va_S (gA 39 q) s.heap H locs) {ls : Array Slot} (hl : lv_has ls 6 [(0, .ref (q (0))), (1, .int x1), (2, .int x2), (3, .int x3), (4, .int x4)]) (hp : sX9_stick_12 x1 x2 x3 x4 sx1 σ = some (r, u)) : W p l e rmX9_stick s m args below meth c H locs 0 0 (MQ below (gQi D vwCl r (gS 39 q (MX cy q) u) (gA 39 q)) args s 0 0 (gA 39 q)) (F0 m 12 ls [.int sx1, .ref (q (0))]) := by
  obtain ⟨hx, hb, hr, hml, hown, hts, hlocks⟩ := id C0
  unfold sX9_stick_12 at hp
  refine lv_if_eq (tgt := 29) hx hb dX9_stick_12 (by decide) (fun hcd10 => ?_) (fun hcd10 => ?_)
  · have hp := o_t hp hcd10
    exact kX9_stick_29 C0 hK hJ  hP hS hl hp
  · have hp := o_f hp hcd10
    refine lv_iload_n hx hb dX9_stick_15 rfl (lv_at hl 3 rfl) ?_
    refine lv_iconst (v := (0 : Int32)) hx hb dX9_stick_16 (by decide) ?_
    refine lv_bipush (v := (15 : Int32)) hx hb dX9_stick_17 (by decide) ?_
    obtain ⟨⟨r11, u12⟩, hq13, hp⟩ := o_b hp
    refine g_cSi (As := [.int x3, .int ((0 : Int32)), .int ((15 : Int32))]) (rest := [.ref (q (0))]) hx hb hml hown hts hK hP hS (mX9_in l hJ hq13) (va_cwS 3 hts gX9_stick_X9_in rfl rfl rfl nVX9_in ⟨Nat.le_of_ble_eq_true rfl, Nat.le_of_ble_eq_true rfl⟩) rfl hl.1 rfl (Nat.le_of_ble_eq_true rfl) dX9_stick_19 ⟨Nat.le_of_ble_eq_true rfl, Nat.le_of_ble_eq_true rfl⟩ (fun H locs hP hS => ?_)
    exact kX9_stick_22 C0 hK hJ  hP hS hl hp
def sX9_stick_5 (x1 : Int32) (x2 : Int32) (x3 : Int32) (x4 : Int32) (sx1 : Int32) (σ : TS) : Option (Int32 × TS) := (if sx1 = 0 then sX9_stick_29 x1 x2 x3 x4 σ else ((sX9_isFour x2 σ).bind (fun z => sX9_stick_12 x1 x2 x3 x4 z.1 z.2)))
set_option maxHeartbeats 4000000 in
set_option maxRecDepth 100000 in
theorem kX9_stick_5 {r : Int32} {u : TS} (C0 : gC RX9 cX9_stick 6 ((some .boolean)) wsX9_stick p s m args meth c) (hK : va_K D vwCl (tyL cy) s) (hJ : gJ 39 q) {H : Heap} {locs : List Loc} {σ : TS} {x1 : Int32} {x2 : Int32} {x3 : Int32} {x4 : Int32} {sx1 : Int32} (hP : va_P D vwCl (gS 39 q (MX cy q) σ) H) (hS : va_S (gA 39 q) s.heap H locs) {ls : Array Slot} (hl : lv_has ls 6 [(0, .ref (q (0))), (1, .int x1), (2, .int x2), (3, .int x3), (4, .int x4)]) (hp : sX9_stick_5 x1 x2 x3 x4 sx1 σ = some (r, u)) : W p l e rmX9_stick s m args below meth c H locs 0 0 (MQ below (gQi D vwCl r (gS 39 q (MX cy q) u) (gA 39 q)) args s 0 0 (gA 39 q)) (F0 m 5 ls [.int sx1, .ref (q (0))]) := by
  obtain ⟨hx, hb, hr, hml, hown, hts, hlocks⟩ := id C0
  unfold sX9_stick_5 at hp
  refine lv_if_eq (tgt := 29) hx hb dX9_stick_5 (by decide) (fun hcd14 => ?_) (fun hcd14 => ?_)
  · have hp := o_t hp hcd14
    exact kX9_stick_29 C0 hK hJ  hP hS hl hp
  · have hp := o_f hp hcd14
    refine lv_iload_n hx hb dX9_stick_8 rfl (lv_at hl 2 rfl) ?_
    obtain ⟨⟨r15, u16⟩, hq17, hp⟩ := o_b hp
    refine g_cSi (As := [.int x2]) (rest := [.ref (q (0))]) hx hb hml hown hts hK hP hS (mX9_isFour l hJ hq17) (va_cwS 1 hts gX9_stick_X9_isFour rfl rfl rfl nVX9_isFour ⟨Nat.le_of_ble_eq_true rfl, Nat.le_of_ble_eq_true rfl⟩) rfl hl.1 rfl (Nat.le_of_ble_eq_true rfl) dX9_stick_9 ⟨Nat.le_of_ble_eq_true rfl, Nat.le_of_ble_eq_true rfl⟩ (fun H locs hP hS => ?_)
    exact kX9_stick_12 C0 hK hJ  hP hS hl hp
def sX9_stick_0 (x1 : Int32) (x2 : Int32) (x3 : Int32) (x4 : Int32) (σ : TS) : Option (Int32 × TS) := ((sX9_isThree x1 σ).bind (fun z => sX9_stick_5 x1 x2 x3 x4 z.1 z.2))
set_option maxHeartbeats 4000000 in
set_option maxRecDepth 100000 in
theorem kX9_stick_0 {r : Int32} {u : TS} (C0 : gC RX9 cX9_stick 6 ((some .boolean)) wsX9_stick p s m args meth c) (hK : va_K D vwCl (tyL cy) s) (hJ : gJ 39 q) {H : Heap} {locs : List Loc} {σ : TS} {x1 : Int32} {x2 : Int32} {x3 : Int32} {x4 : Int32} (hP : va_P D vwCl (gS 39 q (MX cy q) σ) H) (hS : va_S (gA 39 q) s.heap H locs) {ls : Array Slot} (hl : lv_has ls 6 [(0, .ref (q (0))), (1, .int x1), (2, .int x2), (3, .int x3), (4, .int x4)]) (hp : sX9_stick_0 x1 x2 x3 x4 σ = some (r, u)) : W p l e rmX9_stick s m args below meth c H locs 0 0 (MQ below (gQi D vwCl r (gS 39 q (MX cy q) u) (gA 39 q)) args s 0 0 (gA 39 q)) (F0 m 0 ls []) := by
  obtain ⟨hx, hb, hr, hml, hown, hts, hlocks⟩ := id C0
  unfold sX9_stick_0 at hp
  refine lv_aload_n hx hb dX9_stick_0 rfl (lv_at hl 0 rfl) ?_
  refine lv_iload_n hx hb dX9_stick_1 rfl (lv_at hl 1 rfl) ?_
  obtain ⟨⟨r18, u19⟩, hq20, hp⟩ := o_b hp
  refine g_cSi (As := [.int x1]) (rest := [.ref (q (0))]) hx hb hml hown hts hK hP hS (mX9_isThree l hJ hq20) (va_cwS 1 hts gX9_stick_X9_isThree rfl rfl rfl nVX9_isThree ⟨Nat.le_of_ble_eq_true rfl, Nat.le_of_ble_eq_true rfl⟩) rfl hl.1 rfl (Nat.le_of_ble_eq_true rfl) dX9_stick_2 ⟨Nat.le_of_ble_eq_true rfl, Nat.le_of_ble_eq_true rfl⟩ (fun H locs hP hS => ?_)
  exact kX9_stick_5 C0 hK hJ  hP hS hl hp
def sX9_stick (x1 : Int32) (x2 : Int32) (x3 : Int32) (x4 : Int32) (σ : TS) : Option (Int32 × TS) := sX9_stick_0 x1 x2 x3 x4 σ
theorem nVX9_stick : yX9_stick.cls = RX9 ∧ yX9_stick.cls ≠ "java/lang/invoke/MethodHandle" ∧ yX9_stick.cls ≠ "java/lang/invoke/VarHandle" ∧ (parseMethodDescriptor yX9_stick.desc).map (fun d => d.parameters.length) = some 4 := by decide +kernel
set_option maxHeartbeats 4000000 in
set_option maxRecDepth 100000 in
theorem mX9_stick (l : Launch) (hJ : gJ 39 q) {x1 : Int32} {x2 : Int32} {x3 : Int32} {x4 : Int32} {σ : TS} {r : Int32} {u : TS} (hp : sX9_stick x1 x2 x3 x4 σ = some (r, u)) : Met l yX9_stick wsX9_stick rmX9_stick (va_Pc [.ref (q (0)), .int x1, .int x2, .int x3, .int x4] (gPre D vwCl (tyL cy) (gS 39 q (MX cy q) σ))) (gQi D vwCl r (gS 39 q (MX cy q) u) (gA 39 q)) 0 0 (gA 39 q) := by
  refine Met.ofW (cc := cX9_stick) (maxL := 6) (ret := (some .boolean)) (by decide +kernel) rfl ?_
  intro p e s m args below meth c s₁ B hml hv
  obtain ⟨rfl, hP, hK⟩ := hv
  have hl := lv_entry ([.ref (q (0)), .int x1, .int x2, .int x3, .int x4]) (n := 6) (Nat.le_of_ble_eq_true rfl)
  rw [lg_entry_eq]
  generalize (lg_sl ([.ref (q (0)), .int x1, .int x2, .int x3, .int x4]) ++ List.replicate (6 - (lg_sl ([.ref (q (0)), .int x1, .int x2, .int x3, .int x4])).length) Slot.unset).toArray = ls at hl ⊢
  have hl : lv_has ls 6 [(0, .ref (q (0))), (1, .int x1), (2, .int x2), (3, .int x3), (4, .int x4)] := hl
  exact kX9_stick_0 ⟨B.exec, B.bytes, B.returns, hml, findClass_of_methodNamed B.named, atoms_spec (ws := wsX9_stick) B.pre, B.notSynchronized⟩ hK hJ  hP va_S.rf hl hp
theorem miX9_fix_X9 : ∀ w ∈ u_ws RX9 TX9 44, w ∈ wsX9_fix := by decide +kernel
theorem mwX9_fix_0 : Cond.fieldLink RX9 60 "TriplaneModel" "stuck" "[I" ∈ wsX9_fix := by decide +kernel
abbrev rmX9_fix : Room := { frames := 2, cells := 0, slots := 0, locals := 42 }
def sX9_fix_27 (x1 : Int32) (sx0 : Int32) (σ : TS) : Option (Int32 × TS) := (if vin x1 4 = true then (if zok sx0 = true then some (sx0, st2 σ 17 (x1.toNatClampNeg) ((0 : Int32))) else none) else none)
set_option maxHeartbeats 4000000 in
set_option maxRecDepth 100000 in
theorem kX9_fix_27 {r : Int32} {u : TS} (C0 : gC RX9 cX9_fix 3 ((some .boolean)) wsX9_fix p s m args meth c) (hK : va_K D vwCl (tyL cy) s) (hJ : gJ 39 q) {H : Heap} {locs : List Loc} {σ : TS} {x1 : Int32} {sx0 : Int32} (hP : va_P D vwCl (gS 39 q (MX cy q) σ) H) (hS : va_S (gA 39 q) s.heap H locs) {ls : Array Slot} (hl : lv_has ls 3 [(0, .ref (q (0))), (1, .int x1)]) (hp : sX9_fix_27 x1 sx0 σ = some (r, u)) : W p l e rmX9_fix s m args below meth c H locs 0 0 (MQ below (gQi D vwCl r (gS 39 q (MX cy q) u) (gA 39 q)) args s 0 0 (gA 39 q)) (F0 m 27 ls [.int sx0]) := by
  obtain ⟨hx, hb, hr, hml, hown, hts, hlocks⟩ := id C0
  unfold sX9_fix_27 at hp
  refine lv_istore_n (lv' := [(2, .int sx0), (0, .ref (q (0))), (1, .int x1)]) hx hb dX9_fix_27 rfl hl (by decide) rfl (fun ls hl => ?_)
  refine lv_aload_n hx hb dX9_fix_28 rfl (lv_at hl 1 rfl) ?_
  refine g_get (v := .ref (q (17))) hx hb hts miX9_fix_X9 hown hK hP (kk_Mod) (ce_Mod) rfl 19 (by decide) mwX9_fix_0 rfl dX9_fix_29 ?_
  refine lv_iload_n hx hb dX9_fix_32 rfl (lv_at hl 2 rfl) ?_
  refine lv_iconst (v := (0 : Int32)) hx hb dX9_fix_33 (by decide) ?_
  obtain ⟨hi1, hp⟩ := o_chk hp
  refine g_iast (j := x1.toNatClampNeg) hx hb hK hJ hP hS (kk_M_stuck) (ce_M_stuck) 0 rfl (vin_of hi1) rfl dX9_fix_34 (fun H locs hP hS => ?_)
  refine lv_iload_n hx hb dX9_fix_35 rfl (lv_at hl 0 rfl) ?_
  obtain ⟨hz2, hp⟩ := o_chk hp
  obtain ⟨rfl, rfl⟩ := o_r hp
  exact W.zret (v := sx0) hx hb hr (zok_n hz2).1 (fun t ht hW => ⟨⟨sx0, (), rfl, rfl, by subst ht; exact hP⟩, hS.F ht⟩) hS.2.2 dX9_fix_36
def sX9_fix_8 (x1 : Int32) (sx0 : Int32) (σ : TS) : Option (Int32 × TS) := (if sx0 = 0 then (if vin x1 4 = true then (if (σ 17 (x1.toNatClampNeg)) ≤ 0 then sX9_fix_27 x1 ((0 : Int32)) σ else sX9_fix_27 x1 ((1 : Int32)) σ) else none) else some ((0 : Int32), σ))
set_option maxHeartbeats 4000000 in
set_option maxRecDepth 100000 in
theorem kX9_fix_8 {r : Int32} {u : TS} (C0 : gC RX9 cX9_fix 3 ((some .boolean)) wsX9_fix p s m args meth c) (hK : va_K D vwCl (tyL cy) s) (hJ : gJ 39 q) {H : Heap} {locs : List Loc} {σ : TS} {x1 : Int32} {sx0 : Int32} (hP : va_P D vwCl (gS 39 q (MX cy q) σ) H) (hS : va_S (gA 39 q) s.heap H locs) {ls : Array Slot} (hl : lv_has ls 3 [(0, .ref (q (0))), (1, .int x1)]) (hp : sX9_fix_8 x1 sx0 σ = some (r, u)) : W p l e rmX9_fix s m args below meth c H locs 0 0 (MQ below (gQi D vwCl r (gS 39 q (MX cy q) u) (gA 39 q)) args s 0 0 (gA 39 q)) (F0 m 8 ls [.int sx0]) := by
  obtain ⟨hx, hb, hr, hml, hown, hts, hlocks⟩ := id C0
  unfold sX9_fix_8 at hp
  refine lv_if_eq (tgt := 13) hx hb dX9_fix_8 (by decide) (fun hcd3 => ?_) (fun hcd3 => ?_)
  · have hp := o_t hp hcd3
    refine lv_aload_n hx hb dX9_fix_13 rfl (lv_at hl 0 rfl) ?_
    refine g_get (v := .ref (q (17))) hx hb hts miX9_fix_X9 hown hK hP (kk_Mod) (ce_Mod) rfl 19 (by decide) mwX9_fix_0 rfl dX9_fix_14 ?_
    refine lv_iload_n hx hb dX9_fix_17 rfl (lv_at hl 1 rfl) ?_
    obtain ⟨hi4, hp⟩ := o_chk hp
    refine g_iald (j := x1.toNatClampNeg) hx hb hK hP (kk_M_stuck) (ce_M_stuck) 0 rfl (vin_of hi4) rfl dX9_fix_18 ?_
    refine lv_if_le (tgt := 26) hx hb dX9_fix_19 (by decide) (fun hcd5 => ?_) (fun hcd5 => ?_)
    · have hp := o_t hp hcd5
      refine lv_iconst (v := (0 : Int32)) hx hb dX9_fix_26 (by decide) ?_
      exact kX9_fix_27 C0 hK hJ  hP hS hl hp
    · have hp := o_f hp hcd5
      refine lv_iconst (v := (1 : Int32)) hx hb dX9_fix_22 (by decide) ?_
      refine lv_goto (tgt := 27) hx hb dX9_fix_23 (by decide) ?_
      exact kX9_fix_27 C0 hK hJ  hP hS hl hp
  · have hp := o_f hp hcd3
    refine lv_iconst (v := (0 : Int32)) hx hb dX9_fix_11 (by decide) ?_
    obtain ⟨rfl, rfl⟩ := o_r hp
    exact W.zret (v := (0 : Int32)) hx hb hr (zok_n (by decide)).1 (fun t ht hW => ⟨⟨(0 : Int32), (), rfl, rfl, by subst ht; exact hP⟩, hS.F ht⟩) hS.2.2 dX9_fix_12
def sX9_fix_5 (x1 : Int32) (sx1 : Int32) (σ : TS) : Option (Int32 × TS) := ((sX9_isOut sx1 σ).bind (fun z => sX9_fix_8 x1 z.1 z.2))
set_option maxHeartbeats 4000000 in
set_option maxRecDepth 100000 in
theorem kX9_fix_5 {r : Int32} {u : TS} (C0 : gC RX9 cX9_fix 3 ((some .boolean)) wsX9_fix p s m args meth c) (hK : va_K D vwCl (tyL cy) s) (hJ : gJ 39 q) {H : Heap} {locs : List Loc} {σ : TS} {x1 : Int32} {sx1 : Int32} (hP : va_P D vwCl (gS 39 q (MX cy q) σ) H) (hS : va_S (gA 39 q) s.heap H locs) {ls : Array Slot} (hl : lv_has ls 3 [(0, .ref (q (0))), (1, .int x1)]) (hp : sX9_fix_5 x1 sx1 σ = some (r, u)) : W p l e rmX9_fix s m args below meth c H locs 0 0 (MQ below (gQi D vwCl r (gS 39 q (MX cy q) u) (gA 39 q)) args s 0 0 (gA 39 q)) (F0 m 5 ls [.int sx1, .ref (q (0))]) := by
  obtain ⟨hx, hb, hr, hml, hown, hts, hlocks⟩ := id C0
  unfold sX9_fix_5 at hp
  obtain ⟨⟨r6, u7⟩, hq8, hp⟩ := o_b hp
  refine g_cVi (As := [.int sx1]) (rest := []) hx hb hml hown hts hK hP hS (mX9_isOut l hJ hq8) (cwV 1 hts gX9_fix_X9_isOut rfl rfl rfl nVX9_isOut ⟨Nat.le_of_ble_eq_true rfl, Nat.le_of_ble_eq_true rfl⟩) (g_recv hK hP (kk_Mod) (ce_Mod) rfl) rfl hl.1 rfl (Nat.le_of_ble_eq_true rfl) dX9_fix_5 ⟨Nat.le_of_ble_eq_true rfl, Nat.le_of_ble_eq_true rfl⟩ (fun H locs hP hS => ?_)
  exact kX9_fix_8 C0 hK hJ  hP hS hl hp
def sX9_fix_0 (x1 : Int32) (σ : TS) : Option (Int32 × TS) := ((sX9_isThree x1 σ).bind (fun z => sX9_fix_5 x1 z.1 z.2))
set_option maxHeartbeats 4000000 in
set_option maxRecDepth 100000 in
theorem kX9_fix_0 {r : Int32} {u : TS} (C0 : gC RX9 cX9_fix 3 ((some .boolean)) wsX9_fix p s m args meth c) (hK : va_K D vwCl (tyL cy) s) (hJ : gJ 39 q) {H : Heap} {locs : List Loc} {σ : TS} {x1 : Int32} (hP : va_P D vwCl (gS 39 q (MX cy q) σ) H) (hS : va_S (gA 39 q) s.heap H locs) {ls : Array Slot} (hl : lv_has ls 3 [(0, .ref (q (0))), (1, .int x1)]) (hp : sX9_fix_0 x1 σ = some (r, u)) : W p l e rmX9_fix s m args below meth c H locs 0 0 (MQ below (gQi D vwCl r (gS 39 q (MX cy q) u) (gA 39 q)) args s 0 0 (gA 39 q)) (F0 m 0 ls []) := by
  obtain ⟨hx, hb, hr, hml, hown, hts, hlocks⟩ := id C0
  unfold sX9_fix_0 at hp
  refine lv_aload_n hx hb dX9_fix_0 rfl (lv_at hl 0 rfl) ?_
  refine lv_iload_n hx hb dX9_fix_1 rfl (lv_at hl 1 rfl) ?_
  obtain ⟨⟨r9, u10⟩, hq11, hp⟩ := o_b hp
  refine g_cSi (As := [.int x1]) (rest := [.ref (q (0))]) hx hb hml hown hts hK hP hS (mX9_isThree l hJ hq11) (va_cwS 1 hts gX9_fix_X9_isThree rfl rfl rfl nVX9_isThree ⟨Nat.le_of_ble_eq_true rfl, Nat.le_of_ble_eq_true rfl⟩) rfl hl.1 rfl (Nat.le_of_ble_eq_true rfl) dX9_fix_2 ⟨Nat.le_of_ble_eq_true rfl, Nat.le_of_ble_eq_true rfl⟩ (fun H locs hP hS => ?_)
  exact kX9_fix_5 C0 hK hJ  hP hS hl hp
def sX9_fix (x1 : Int32) (σ : TS) : Option (Int32 × TS) := sX9_fix_0 x1 σ
theorem nVX9_fix : yX9_fix.cls = RX9 ∧ yX9_fix.cls ≠ "java/lang/invoke/MethodHandle" ∧ yX9_fix.cls ≠ "java/lang/invoke/VarHandle" ∧ (parseMethodDescriptor yX9_fix.desc).map (fun d => d.parameters.length) = some 1 := by decide +kernel
set_option maxHeartbeats 4000000 in
set_option maxRecDepth 100000 in
theorem mX9_fix (l : Launch) (hJ : gJ 39 q) {x1 : Int32} {σ : TS} {r : Int32} {u : TS} (hp : sX9_fix x1 σ = some (r, u)) : Met l yX9_fix wsX9_fix rmX9_fix (va_Pc [.ref (q (0)), .int x1] (gPre D vwCl (tyL cy) (gS 39 q (MX cy q) σ))) (gQi D vwCl r (gS 39 q (MX cy q) u) (gA 39 q)) 0 0 (gA 39 q) := by
  refine Met.ofW (cc := cX9_fix) (maxL := 3) (ret := (some .boolean)) (by decide +kernel) rfl ?_
  intro p e s m args below meth c s₁ B hml hv
  obtain ⟨rfl, hP, hK⟩ := hv
  have hl := lv_entry ([.ref (q (0)), .int x1]) (n := 3) (Nat.le_of_ble_eq_true rfl)
  rw [lg_entry_eq]
  generalize (lg_sl ([.ref (q (0)), .int x1]) ++ List.replicate (3 - (lg_sl ([.ref (q (0)), .int x1])).length) Slot.unset).toArray = ls at hl ⊢
  have hl : lv_has ls 3 [(0, .ref (q (0))), (1, .int x1)] := hl
  exact kX9_fix_0 ⟨B.exec, B.bytes, B.returns, hml, findClass_of_methodNamed B.named, atoms_spec (ws := wsX9_fix) B.pre, B.notSynchronized⟩ hK hJ  hP va_S.rf hl hp
theorem miX9_isOn_X9 : ∀ w ∈ u_ws RX9 TX9 44, w ∈ wsX9_isOn := by decide +kernel
theorem mwX9_isOn_0 : Cond.fieldLink RX9 38 "TriplaneModel" "isOff" "[Z" ∈ wsX9_isOn := by decide +kernel
abbrev rmX9_isOn : Room := { frames := 2, cells := 0, slots := 0, locals := 42 }
def sX9_isOn_25 (sx0 : Int32) (σ : TS) : Option (Int32 × TS) := (if zok sx0 = true then some (sx0, σ) else none)
set_option maxHeartbeats 4000000 in
set_option maxRecDepth 100000 in
theorem kX9_isOn_25 {r : Int32} {u : TS} (C0 : gC RX9 cX9_isOn 2 ((some .boolean)) wsX9_isOn p s m args meth c) (hK : va_K D vwCl (tyL cy) s) (hJ : gJ 39 q) {H : Heap} {locs : List Loc} {σ : TS} {sx0 : Int32} (hP : va_P D vwCl (gS 39 q (MX cy q) σ) H) (hS : va_S (gA 39 q) s.heap H locs) {ls : Array Slot} (hl : lv_has ls 2 []) (hp : sX9_isOn_25 sx0 σ = some (r, u)) : W p l e rmX9_isOn s m args below meth c H locs 0 0 (MQ below (gQi D vwCl r (gS 39 q (MX cy q) u) (gA 39 q)) args s 0 0 (gA 39 q)) (F0 m 25 ls [.int sx0]) := by
  obtain ⟨hx, hb, hr, hml, hown, hts, hlocks⟩ := id C0
  unfold sX9_isOn_25 at hp
  obtain ⟨hz1, hp⟩ := o_chk hp
  obtain ⟨rfl, rfl⟩ := o_r hp
  exact W.zret (v := sx0) hx hb hr (zok_n hz1).1 (fun t ht hW => ⟨⟨sx0, (), rfl, rfl, by subst ht; exact hP⟩, hS.F ht⟩) hS.2.2 dX9_isOn_25
def sX9_isOn_24 (σ : TS) : Option (Int32 × TS) := sX9_isOn_25 ((0 : Int32)) σ
set_option maxHeartbeats 4000000 in
set_option maxRecDepth 100000 in
theorem kX9_isOn_24 {r : Int32} {u : TS} (C0 : gC RX9 cX9_isOn 2 ((some .boolean)) wsX9_isOn p s m args meth c) (hK : va_K D vwCl (tyL cy) s) (hJ : gJ 39 q) {H : Heap} {locs : List Loc} {σ : TS} (hP : va_P D vwCl (gS 39 q (MX cy q) σ) H) (hS : va_S (gA 39 q) s.heap H locs) {ls : Array Slot} (hl : lv_has ls 2 []) (hp : sX9_isOn_24 σ = some (r, u)) : W p l e rmX9_isOn s m args below meth c H locs 0 0 (MQ below (gQi D vwCl r (gS 39 q (MX cy q) u) (gA 39 q)) args s 0 0 (gA 39 q)) (F0 m 24 ls []) := by
  obtain ⟨hx, hb, hr, hml, hown, hts, hlocks⟩ := id C0
  unfold sX9_isOn_24 at hp
  refine lv_iconst (v := (0 : Int32)) hx hb dX9_isOn_24 (by decide) ?_
  exact kX9_isOn_25 C0 hK hJ  hP hS hl hp
def sX9_isOn_8 (x1 : Int32) (sx0 : Int32) (σ : TS) : Option (Int32 × TS) := (if sx0 = 0 then (if vin x1 4 = true then (if (σ 10 (x1.toNatClampNeg)) = 0 then sX9_isOn_25 ((1 : Int32)) σ else sX9_isOn_24 σ) else none) else sX9_isOn_24 σ)
set_option maxHeartbeats 4000000 in
set_option maxRecDepth 100000 in
theorem kX9_isOn_8 {r : Int32} {u : TS} (C0 : gC RX9 cX9_isOn 2 ((some .boolean)) wsX9_isOn p s m args meth c) (hK : va_K D vwCl (tyL cy) s) (hJ : gJ 39 q) {H : Heap} {locs : List Loc} {σ : TS} {x1 : Int32} {sx0 : Int32} (hP : va_P D vwCl (gS 39 q (MX cy q) σ) H) (hS : va_S (gA 39 q) s.heap H locs) {ls : Array Slot} (hl : lv_has ls 2 [(0, .ref (q (0))), (1, .int x1)]) (hp : sX9_isOn_8 x1 sx0 σ = some (r, u)) : W p l e rmX9_isOn s m args below meth c H locs 0 0 (MQ below (gQi D vwCl r (gS 39 q (MX cy q) u) (gA 39 q)) args s 0 0 (gA 39 q)) (F0 m 8 ls [.int sx0]) := by
  obtain ⟨hx, hb, hr, hml, hown, hts, hlocks⟩ := id C0
  unfold sX9_isOn_8 at hp
  refine lv_if_ne (tgt := 24) hx hb dX9_isOn_8 (by decide) (fun hcd2 => ?_) (fun hcd2 => ?_)
  · have hp := o_f hp hcd2
    exact kX9_isOn_24 C0 hK hJ  hP hS (lv_sub hl [] rfl) hp
  · have hp := o_t hp hcd2
    refine lv_aload_n hx hb dX9_isOn_11 rfl (lv_at hl 0 rfl) ?_
    refine g_get (v := .ref (q (10))) hx hb hts miX9_isOn_X9 hown hK hP (kk_Mod) (ce_Mod) rfl 12 (by decide) mwX9_isOn_0 rfl dX9_isOn_12 ?_
    refine lv_iload_n hx hb dX9_isOn_15 rfl (lv_at hl 1 rfl) ?_
    obtain ⟨hi3, hp⟩ := o_chk hp
    refine g_zald (j := x1.toNatClampNeg) hx hb hK hP (kk_M_isOff) (ce_M_isOff) 1 rfl (vin_of hi3) rfl dX9_isOn_16 ?_
    refine lv_if_ne (tgt := 24) hx hb dX9_isOn_17 (by decide) (fun hcd4 => ?_) (fun hcd4 => ?_)
    · have hp := o_f hp hcd4
      exact kX9_isOn_24 C0 hK hJ  hP hS (lv_sub hl [] rfl) hp
    · have hp := o_t hp hcd4
      refine lv_iconst (v := (1 : Int32)) hx hb dX9_isOn_20 (by decide) ?_
      refine lv_goto (tgt := 25) hx hb dX9_isOn_21 (by decide) ?_
      exact kX9_isOn_25 C0 hK hJ  hP hS (lv_sub hl [] rfl) hp
def sX9_isOn_5 (x1 : Int32) (sx1 : Int32) (σ : TS) : Option (Int32 × TS) := ((sX9_isOut sx1 σ).bind (fun z => sX9_isOn_8 x1 z.1 z.2))
set_option maxHeartbeats 4000000 in
set_option maxRecDepth 100000 in
theorem kX9_isOn_5 {r : Int32} {u : TS} (C0 : gC RX9 cX9_isOn 2 ((some .boolean)) wsX9_isOn p s m args meth c) (hK : va_K D vwCl (tyL cy) s) (hJ : gJ 39 q) {H : Heap} {locs : List Loc} {σ : TS} {x1 : Int32} {sx1 : Int32} (hP : va_P D vwCl (gS 39 q (MX cy q) σ) H) (hS : va_S (gA 39 q) s.heap H locs) {ls : Array Slot} (hl : lv_has ls 2 [(0, .ref (q (0))), (1, .int x1)]) (hp : sX9_isOn_5 x1 sx1 σ = some (r, u)) : W p l e rmX9_isOn s m args below meth c H locs 0 0 (MQ below (gQi D vwCl r (gS 39 q (MX cy q) u) (gA 39 q)) args s 0 0 (gA 39 q)) (F0 m 5 ls [.int sx1, .ref (q (0))]) := by
  obtain ⟨hx, hb, hr, hml, hown, hts, hlocks⟩ := id C0
  unfold sX9_isOn_5 at hp
  obtain ⟨⟨r5, u6⟩, hq7, hp⟩ := o_b hp
  refine g_cVi (As := [.int sx1]) (rest := []) hx hb hml hown hts hK hP hS (mX9_isOut l hJ hq7) (cwV 1 hts gX9_isOn_X9_isOut rfl rfl rfl nVX9_isOut ⟨Nat.le_of_ble_eq_true rfl, Nat.le_of_ble_eq_true rfl⟩) (g_recv hK hP (kk_Mod) (ce_Mod) rfl) rfl hl.1 rfl (Nat.le_of_ble_eq_true rfl) dX9_isOn_5 ⟨Nat.le_of_ble_eq_true rfl, Nat.le_of_ble_eq_true rfl⟩ (fun H locs hP hS => ?_)
  exact kX9_isOn_8 C0 hK hJ  hP hS hl hp
def sX9_isOn_0 (x1 : Int32) (σ : TS) : Option (Int32 × TS) := ((sX9_isThree x1 σ).bind (fun z => sX9_isOn_5 x1 z.1 z.2))
set_option maxHeartbeats 4000000 in
set_option maxRecDepth 100000 in
theorem kX9_isOn_0 {r : Int32} {u : TS} (C0 : gC RX9 cX9_isOn 2 ((some .boolean)) wsX9_isOn p s m args meth c) (hK : va_K D vwCl (tyL cy) s) (hJ : gJ 39 q) {H : Heap} {locs : List Loc} {σ : TS} {x1 : Int32} (hP : va_P D vwCl (gS 39 q (MX cy q) σ) H) (hS : va_S (gA 39 q) s.heap H locs) {ls : Array Slot} (hl : lv_has ls 2 [(0, .ref (q (0))), (1, .int x1)]) (hp : sX9_isOn_0 x1 σ = some (r, u)) : W p l e rmX9_isOn s m args below meth c H locs 0 0 (MQ below (gQi D vwCl r (gS 39 q (MX cy q) u) (gA 39 q)) args s 0 0 (gA 39 q)) (F0 m 0 ls []) := by
  obtain ⟨hx, hb, hr, hml, hown, hts, hlocks⟩ := id C0
  unfold sX9_isOn_0 at hp
  refine lv_aload_n hx hb dX9_isOn_0 rfl (lv_at hl 0 rfl) ?_
  refine lv_iload_n hx hb dX9_isOn_1 rfl (lv_at hl 1 rfl) ?_
  obtain ⟨⟨r8, u9⟩, hq10, hp⟩ := o_b hp
  refine g_cSi (As := [.int x1]) (rest := [.ref (q (0))]) hx hb hml hown hts hK hP hS (mX9_isThree l hJ hq10) (va_cwS 1 hts gX9_isOn_X9_isThree rfl rfl rfl nVX9_isThree ⟨Nat.le_of_ble_eq_true rfl, Nat.le_of_ble_eq_true rfl⟩) rfl hl.1 rfl (Nat.le_of_ble_eq_true rfl) dX9_isOn_2 ⟨Nat.le_of_ble_eq_true rfl, Nat.le_of_ble_eq_true rfl⟩ (fun H locs hP hS => ?_)
  exact kX9_isOn_5 C0 hK hJ  hP hS hl hp
def sX9_isOn (x1 : Int32) (σ : TS) : Option (Int32 × TS) := sX9_isOn_0 x1 σ
theorem nVX9_isOn : yX9_isOn.cls = RX9 ∧ yX9_isOn.cls ≠ "java/lang/invoke/MethodHandle" ∧ yX9_isOn.cls ≠ "java/lang/invoke/VarHandle" ∧ (parseMethodDescriptor yX9_isOn.desc).map (fun d => d.parameters.length) = some 1 := by decide +kernel
set_option maxHeartbeats 4000000 in
set_option maxRecDepth 100000 in
theorem mX9_isOn (l : Launch) (hJ : gJ 39 q) {x1 : Int32} {σ : TS} {r : Int32} {u : TS} (hp : sX9_isOn x1 σ = some (r, u)) : Met l yX9_isOn wsX9_isOn rmX9_isOn (va_Pc [.ref (q (0)), .int x1] (gPre D vwCl (tyL cy) (gS 39 q (MX cy q) σ))) (gQi D vwCl r (gS 39 q (MX cy q) u) (gA 39 q)) 0 0 (gA 39 q) := by
  refine Met.ofW (cc := cX9_isOn) (maxL := 2) (ret := (some .boolean)) (by decide +kernel) rfl ?_
  intro p e s m args below meth c s₁ B hml hv
  obtain ⟨rfl, hP, hK⟩ := hv
  have hl := lv_entry ([.ref (q (0)), .int x1]) (n := 2) (Nat.le_of_ble_eq_true rfl)
  rw [lg_entry_eq]
  generalize (lg_sl ([.ref (q (0)), .int x1]) ++ List.replicate (2 - (lg_sl ([.ref (q (0)), .int x1])).length) Slot.unset).toArray = ls at hl ⊢
  have hl : lv_has ls 2 [(0, .ref (q (0))), (1, .int x1)] := hl
  exact kX9_isOn_0 ⟨B.exec, B.bytes, B.returns, hml, findClass_of_methodNamed B.named, atoms_spec (ws := wsX9_isOn) B.pre, B.notSynchronized⟩ hK hJ  hP va_S.rf hl hp
theorem miX9_strikes_X9 : ∀ w ∈ u_ws RX9 TX9 44, w ∈ wsX9_strikes := by decide +kernel
theorem mwX9_strikes_0 : Cond.fieldLink RX9 45 "TriplaneModel" "strikes" "[I" ∈ wsX9_strikes := by decide +kernel
abbrev rmX9_strikes : Room := { frames := 2, cells := 0, slots := 0, locals := 42 }
def sX9_strikes_21 (sx0 : Int32) (σ : TS) : Option (Int32 × TS) := some (sx0, σ)
set_option maxHeartbeats 4000000 in
set_option maxRecDepth 100000 in
theorem kX9_strikes_21 {r : Int32} {u : TS} (C0 : gC RX9 cX9_strikes 2 ((some .int)) wsX9_strikes p s m args meth c) (hK : va_K D vwCl (tyL cy) s) (hJ : gJ 39 q) {H : Heap} {locs : List Loc} {σ : TS} {sx0 : Int32} (hP : va_P D vwCl (gS 39 q (MX cy q) σ) H) (hS : va_S (gA 39 q) s.heap H locs) {ls : Array Slot} (hl : lv_has ls 2 []) (hp : sX9_strikes_21 sx0 σ = some (r, u)) : W p l e rmX9_strikes s m args below meth c H locs 0 0 (MQ below (gQi D vwCl r (gS 39 q (MX cy q) u) (gA 39 q)) args s 0 0 (gA 39 q)) (F0 m 21 ls [.int sx0]) := by
  obtain ⟨hx, hb, hr, hml, hown, hts, hlocks⟩ := id C0
  unfold sX9_strikes_21 at hp
  obtain ⟨rfl, rfl⟩ := o_r hp
  exact W.iret (v := sx0) hx hb hr (fun t ht hW => ⟨⟨sx0, (), rfl, rfl, by subst ht; exact hP⟩, hS.F ht⟩) hS.2.2 dX9_strikes_21
def sX9_strikes_8 (x1 : Int32) (sx0 : Int32) (σ : TS) : Option (Int32 × TS) := (if sx0 = 0 then (if vin x1 4 = true then sX9_strikes_21 (σ 12 (x1.toNatClampNeg)) σ else none) else sX9_strikes_21 ((0 : Int32)) σ)
set_option maxHeartbeats 4000000 in
set_option maxRecDepth 100000 in
theorem kX9_strikes_8 {r : Int32} {u : TS} (C0 : gC RX9 cX9_strikes 2 ((some .int)) wsX9_strikes p s m args meth c) (hK : va_K D vwCl (tyL cy) s) (hJ : gJ 39 q) {H : Heap} {locs : List Loc} {σ : TS} {x1 : Int32} {sx0 : Int32} (hP : va_P D vwCl (gS 39 q (MX cy q) σ) H) (hS : va_S (gA 39 q) s.heap H locs) {ls : Array Slot} (hl : lv_has ls 2 [(0, .ref (q (0))), (1, .int x1)]) (hp : sX9_strikes_8 x1 sx0 σ = some (r, u)) : W p l e rmX9_strikes s m args below meth c H locs 0 0 (MQ below (gQi D vwCl r (gS 39 q (MX cy q) u) (gA 39 q)) args s 0 0 (gA 39 q)) (F0 m 8 ls [.int sx0]) := by
  obtain ⟨hx, hb, hr, hml, hown, hts, hlocks⟩ := id C0
  unfold sX9_strikes_8 at hp
  refine lv_if_eq (tgt := 15) hx hb dX9_strikes_8 (by decide) (fun hcd1 => ?_) (fun hcd1 => ?_)
  · have hp := o_t hp hcd1
    refine lv_aload_n hx hb dX9_strikes_15 rfl (lv_at hl 0 rfl) ?_
    refine g_get (v := .ref (q (12))) hx hb hts miX9_strikes_X9 hown hK hP (kk_Mod) (ce_Mod) rfl 14 (by decide) mwX9_strikes_0 rfl dX9_strikes_16 ?_
    refine lv_iload_n hx hb dX9_strikes_19 rfl (lv_at hl 1 rfl) ?_
    obtain ⟨hi2, hp⟩ := o_chk hp
    refine g_iald (j := x1.toNatClampNeg) hx hb hK hP (kk_M_strikes) (ce_M_strikes) 0 rfl (vin_of hi2) rfl dX9_strikes_20 ?_
    exact kX9_strikes_21 C0 hK hJ  hP hS (lv_sub hl [] rfl) hp
  · have hp := o_f hp hcd1
    refine lv_iconst (v := (0 : Int32)) hx hb dX9_strikes_11 (by decide) ?_
    refine lv_goto (tgt := 21) hx hb dX9_strikes_12 (by decide) ?_
    exact kX9_strikes_21 C0 hK hJ  hP hS (lv_sub hl [] rfl) hp
def sX9_strikes_5 (x1 : Int32) (sx1 : Int32) (σ : TS) : Option (Int32 × TS) := ((sX9_isOut sx1 σ).bind (fun z => sX9_strikes_8 x1 z.1 z.2))
set_option maxHeartbeats 4000000 in
set_option maxRecDepth 100000 in
theorem kX9_strikes_5 {r : Int32} {u : TS} (C0 : gC RX9 cX9_strikes 2 ((some .int)) wsX9_strikes p s m args meth c) (hK : va_K D vwCl (tyL cy) s) (hJ : gJ 39 q) {H : Heap} {locs : List Loc} {σ : TS} {x1 : Int32} {sx1 : Int32} (hP : va_P D vwCl (gS 39 q (MX cy q) σ) H) (hS : va_S (gA 39 q) s.heap H locs) {ls : Array Slot} (hl : lv_has ls 2 [(0, .ref (q (0))), (1, .int x1)]) (hp : sX9_strikes_5 x1 sx1 σ = some (r, u)) : W p l e rmX9_strikes s m args below meth c H locs 0 0 (MQ below (gQi D vwCl r (gS 39 q (MX cy q) u) (gA 39 q)) args s 0 0 (gA 39 q)) (F0 m 5 ls [.int sx1, .ref (q (0))]) := by
  obtain ⟨hx, hb, hr, hml, hown, hts, hlocks⟩ := id C0
  unfold sX9_strikes_5 at hp
  obtain ⟨⟨r3, u4⟩, hq5, hp⟩ := o_b hp
  refine g_cVi (As := [.int sx1]) (rest := []) hx hb hml hown hts hK hP hS (mX9_isOut l hJ hq5) (cwV 1 hts gX9_strikes_X9_isOut rfl rfl rfl nVX9_isOut ⟨Nat.le_of_ble_eq_true rfl, Nat.le_of_ble_eq_true rfl⟩) (g_recv hK hP (kk_Mod) (ce_Mod) rfl) rfl hl.1 rfl (Nat.le_of_ble_eq_true rfl) dX9_strikes_5 ⟨Nat.le_of_ble_eq_true rfl, Nat.le_of_ble_eq_true rfl⟩ (fun H locs hP hS => ?_)
  exact kX9_strikes_8 C0 hK hJ  hP hS hl hp
def sX9_strikes_0 (x1 : Int32) (σ : TS) : Option (Int32 × TS) := ((sX9_isThree x1 σ).bind (fun z => sX9_strikes_5 x1 z.1 z.2))
set_option maxHeartbeats 4000000 in
set_option maxRecDepth 100000 in
theorem kX9_strikes_0 {r : Int32} {u : TS} (C0 : gC RX9 cX9_strikes 2 ((some .int)) wsX9_strikes p s m args meth c) (hK : va_K D vwCl (tyL cy) s) (hJ : gJ 39 q) {H : Heap} {locs : List Loc} {σ : TS} {x1 : Int32} (hP : va_P D vwCl (gS 39 q (MX cy q) σ) H) (hS : va_S (gA 39 q) s.heap H locs) {ls : Array Slot} (hl : lv_has ls 2 [(0, .ref (q (0))), (1, .int x1)]) (hp : sX9_strikes_0 x1 σ = some (r, u)) : W p l e rmX9_strikes s m args below meth c H locs 0 0 (MQ below (gQi D vwCl r (gS 39 q (MX cy q) u) (gA 39 q)) args s 0 0 (gA 39 q)) (F0 m 0 ls []) := by
  obtain ⟨hx, hb, hr, hml, hown, hts, hlocks⟩ := id C0
  unfold sX9_strikes_0 at hp
  refine lv_aload_n hx hb dX9_strikes_0 rfl (lv_at hl 0 rfl) ?_
  refine lv_iload_n hx hb dX9_strikes_1 rfl (lv_at hl 1 rfl) ?_
  obtain ⟨⟨r6, u7⟩, hq8, hp⟩ := o_b hp
  refine g_cSi (As := [.int x1]) (rest := [.ref (q (0))]) hx hb hml hown hts hK hP hS (mX9_isThree l hJ hq8) (va_cwS 1 hts gX9_strikes_X9_isThree rfl rfl rfl nVX9_isThree ⟨Nat.le_of_ble_eq_true rfl, Nat.le_of_ble_eq_true rfl⟩) rfl hl.1 rfl (Nat.le_of_ble_eq_true rfl) dX9_strikes_2 ⟨Nat.le_of_ble_eq_true rfl, Nat.le_of_ble_eq_true rfl⟩ (fun H locs hP hS => ?_)
  exact kX9_strikes_5 C0 hK hJ  hP hS hl hp
def sX9_strikes (x1 : Int32) (σ : TS) : Option (Int32 × TS) := sX9_strikes_0 x1 σ
theorem nVX9_strikes : yX9_strikes.cls = RX9 ∧ yX9_strikes.cls ≠ "java/lang/invoke/MethodHandle" ∧ yX9_strikes.cls ≠ "java/lang/invoke/VarHandle" ∧ (parseMethodDescriptor yX9_strikes.desc).map (fun d => d.parameters.length) = some 1 := by decide +kernel
set_option maxHeartbeats 4000000 in
set_option maxRecDepth 100000 in
theorem mX9_strikes (l : Launch) (hJ : gJ 39 q) {x1 : Int32} {σ : TS} {r : Int32} {u : TS} (hp : sX9_strikes x1 σ = some (r, u)) : Met l yX9_strikes wsX9_strikes rmX9_strikes (va_Pc [.ref (q (0)), .int x1] (gPre D vwCl (tyL cy) (gS 39 q (MX cy q) σ))) (gQi D vwCl r (gS 39 q (MX cy q) u) (gA 39 q)) 0 0 (gA 39 q) := by
  refine Met.ofW (cc := cX9_strikes) (maxL := 2) (ret := (some .int)) (by decide +kernel) rfl ?_
  intro p e s m args below meth c s₁ B hml hv
  obtain ⟨rfl, hP, hK⟩ := hv
  have hl := lv_entry ([.ref (q (0)), .int x1]) (n := 2) (Nat.le_of_ble_eq_true rfl)
  rw [lg_entry_eq]
  generalize (lg_sl ([.ref (q (0)), .int x1]) ++ List.replicate (2 - (lg_sl ([.ref (q (0)), .int x1])).length) Slot.unset).toArray = ls at hl ⊢
  have hl : lv_has ls 2 [(0, .ref (q (0))), (1, .int x1)] := hl
  exact kX9_strikes_0 ⟨B.exec, B.bytes, B.returns, hml, findClass_of_methodNamed B.named, atoms_spec (ws := wsX9_strikes) B.pre, B.notSynchronized⟩ hK hJ  hP va_S.rf hl hp
theorem miX9_shut_X9 : ∀ w ∈ u_ws RX9 TX9 44, w ∈ wsX9_shut := by decide +kernel
theorem mwX9_shut_0 : Cond.fieldLink RX9 130 "TriplaneModel" "thrown" "I" ∈ wsX9_shut := by decide +kernel
theorem mwX9_shut_1 : Cond.fieldLink RX9 38 "TriplaneModel" "isOff" "[Z" ∈ wsX9_shut := by decide +kernel
abbrev rmX9_shut : Room := { frames := 2, cells := 0, slots := 0, locals := 44 }
def sX9_shut_51 (sx0 : Int32) (σ : TS) : Option (Int32 × TS) := some (sx0, σ)
set_option maxHeartbeats 4000000 in
set_option maxRecDepth 100000 in
theorem kX9_shut_51 {r : Int32} {u : TS} (C0 : gC RX9 cX9_shut 2 ((some .int)) wsX9_shut p s m args meth c) (hK : va_K D vwCl (tyL cy) s) (hJ : gJ 39 q) {H : Heap} {locs : List Loc} {σ : TS} {sx0 : Int32} (hP : va_P D vwCl (gS 39 q (MX cy q) σ) H) (hS : va_S (gA 39 q) s.heap H locs) {ls : Array Slot} (hl : lv_has ls 2 []) (hp : sX9_shut_51 sx0 σ = some (r, u)) : W p l e rmX9_shut s m args below meth c H locs 0 0 (MQ below (gQi D vwCl r (gS 39 q (MX cy q) u) (gA 39 q)) args s 0 0 (gA 39 q)) (F0 m 51 ls [.int sx0]) := by
  obtain ⟨hx, hb, hr, hml, hown, hts, hlocks⟩ := id C0
  unfold sX9_shut_51 at hp
  obtain ⟨rfl, rfl⟩ := o_r hp
  exact W.iret (v := sx0) hx hb hr (fun t ht hW => ⟨⟨sx0, (), rfl, rfl, by subst ht; exact hP⟩, hS.F ht⟩) hS.2.2 dX9_shut_51
def sX9_shut_47 (σ : TS) : Option (Int32 × TS) := ((sX9_on σ).bind (fun z => sX9_shut_51 z.1 z.2))
set_option maxHeartbeats 4000000 in
set_option maxRecDepth 100000 in
theorem kX9_shut_47 {r : Int32} {u : TS} (C0 : gC RX9 cX9_shut 2 ((some .int)) wsX9_shut p s m args meth c) (hK : va_K D vwCl (tyL cy) s) (hJ : gJ 39 q) {H : Heap} {locs : List Loc} {σ : TS} (hP : va_P D vwCl (gS 39 q (MX cy q) σ) H) (hS : va_S (gA 39 q) s.heap H locs) {ls : Array Slot} (hl : lv_has ls 2 [(0, .ref (q (0)))]) (hp : sX9_shut_47 σ = some (r, u)) : W p l e rmX9_shut s m args below meth c H locs 0 0 (MQ below (gQi D vwCl r (gS 39 q (MX cy q) u) (gA 39 q)) args s 0 0 (gA 39 q)) (F0 m 47 ls []) := by
  obtain ⟨hx, hb, hr, hml, hown, hts, hlocks⟩ := id C0
  unfold sX9_shut_47 at hp
  refine lv_aload_n hx hb dX9_shut_47 rfl (lv_at hl 0 rfl) ?_
  obtain ⟨⟨r1, u2⟩, hq3, hp⟩ := o_b hp
  refine g_cVi (As := []) (rest := []) hx hb hml hown hts hK hP hS (mX9_on l hJ hq3) (cwV 0 hts gX9_shut_X9_on rfl rfl rfl nVX9_on ⟨Nat.le_of_ble_eq_true rfl, Nat.le_of_ble_eq_true rfl⟩) (g_recv hK hP (kk_Mod) (ce_Mod) rfl) rfl hl.1 rfl (Nat.le_of_ble_eq_true rfl) dX9_shut_48 ⟨Nat.le_of_ble_eq_true rfl, Nat.le_of_ble_eq_true rfl⟩ (fun H locs hP hS => ?_)
  exact kX9_shut_51 C0 hK hJ  hP hS (lv_sub hl [] rfl) hp
def sX9_shut_28 (x1 : Int32) (sx1 : Int32) (σ : TS) : Option (Int32 × TS) := (if ((st2 σ 0 0 sx1) 0 0) ≤ 0 then ((sX9_off x1 ((104 : Int32)) (st2 σ 0 0 sx1)).bind (fun z => sX9_shut_47 z.2)) else some ((0 : Int32), st2 σ 0 0 sx1))
set_option maxHeartbeats 4000000 in
set_option maxRecDepth 100000 in
theorem kX9_shut_28 {r : Int32} {u : TS} (C0 : gC RX9 cX9_shut 2 ((some .int)) wsX9_shut p s m args meth c) (hK : va_K D vwCl (tyL cy) s) (hJ : gJ 39 q) {H : Heap} {locs : List Loc} {σ : TS} {x1 : Int32} {sx1 : Int32} (hP : va_P D vwCl (gS 39 q (MX cy q) σ) H) (hS : va_S (gA 39 q) s.heap H locs) {ls : Array Slot} (hl : lv_has ls 2 [(0, .ref (q (0))), (1, .int x1)]) (hp : sX9_shut_28 x1 sx1 σ = some (r, u)) : W p l e rmX9_shut s m args below meth c H locs 0 0 (MQ below (gQi D vwCl r (gS 39 q (MX cy q) u) (gA 39 q)) args s 0 0 (gA 39 q)) (F0 m 28 ls [.int sx1, .ref (q (0))]) := by
  obtain ⟨hx, hb, hr, hml, hown, hts, hlocks⟩ := id C0
  unfold sX9_shut_28 at hp
  refine g_put (v := sx1) hx hb hts miX9_shut_X9 tyX9 tyX9_ok nmX9 hown hK hJ hP hS (kk_Mod) (ce_Mod) rfl 0 (by decide) mwX9_shut_0 rfl rfl rfl (Nat.le_of_ble_eq_true rfl) rfl dX9_shut_28 (fun H locs hP hS => ?_)
  refine lv_aload_n hx hb dX9_shut_31 rfl (lv_at hl 0 rfl) ?_
  refine g_get (v := .int ((st2 σ 0 0 sx1) 0 0)) hx hb hts miX9_shut_X9 hown hK hP (kk_Mod) (ce_Mod) rfl 0 (by decide) mwX9_shut_0 rfl dX9_shut_32 ?_
  refine lv_if_le (tgt := 40) hx hb dX9_shut_35 (by decide) (fun hcd4 => ?_) (fun hcd4 => ?_)
  · have hp := o_t hp hcd4
    refine lv_aload_n hx hb dX9_shut_40 rfl (lv_at hl 0 rfl) ?_
    refine lv_iload_n hx hb dX9_shut_41 rfl (lv_at hl 1 rfl) ?_
    refine lv_bipush (v := (104 : Int32)) hx hb dX9_shut_42 (by decide) ?_
    obtain ⟨⟨r5, u6⟩, hq7, hp⟩ := o_b hp
    refine g_cVv (As := [.int x1, .int ((104 : Int32))]) (rest := []) hx hb hml hown hts hK hP hS (mX9_off l hJ hq7) (cwV 2 hts gX9_shut_X9_off rfl rfl rfl nVX9_off ⟨Nat.le_of_ble_eq_true rfl, Nat.le_of_ble_eq_true rfl⟩) (g_recv hK hP (kk_Mod) (ce_Mod) rfl) rfl hl.1 rfl (Nat.le_of_ble_eq_true rfl) dX9_shut_44 ⟨Nat.le_of_ble_eq_true rfl, Nat.le_of_ble_eq_true rfl⟩ (fun H locs hP hS => ?_)
    exact kX9_shut_47 C0 hK hJ  hP hS (lv_sub hl [0] rfl) hp
  · have hp := o_f hp hcd4
    refine lv_iconst (v := (0 : Int32)) hx hb dX9_shut_38 (by decide) ?_
    obtain ⟨rfl, rfl⟩ := o_r hp
    exact W.iret (v := (0 : Int32)) hx hb hr (fun t ht hW => ⟨⟨(0 : Int32), (), rfl, rfl, by subst ht; exact hP⟩, hS.F ht⟩) hS.2.2 dX9_shut_39
def sX9_shut_8 (x1 : Int32) (sx0 : Int32) (σ : TS) : Option (Int32 × TS) := (if sx0 = 0 then (if vin x1 4 = true then (if (σ 10 (x1.toNatClampNeg)) = 0 then sX9_shut_28 x1 ((0 : Int32)) σ else sX9_shut_28 x1 ((2 : Int32)) σ) else none) else some ((0 : Int32), σ))
set_option maxHeartbeats 4000000 in
set_option maxRecDepth 100000 in
theorem kX9_shut_8 {r : Int32} {u : TS} (C0 : gC RX9 cX9_shut 2 ((some .int)) wsX9_shut p s m args meth c) (hK : va_K D vwCl (tyL cy) s) (hJ : gJ 39 q) {H : Heap} {locs : List Loc} {σ : TS} {x1 : Int32} {sx0 : Int32} (hP : va_P D vwCl (gS 39 q (MX cy q) σ) H) (hS : va_S (gA 39 q) s.heap H locs) {ls : Array Slot} (hl : lv_has ls 2 [(0, .ref (q (0))), (1, .int x1)]) (hp : sX9_shut_8 x1 sx0 σ = some (r, u)) : W p l e rmX9_shut s m args below meth c H locs 0 0 (MQ below (gQi D vwCl r (gS 39 q (MX cy q) u) (gA 39 q)) args s 0 0 (gA 39 q)) (F0 m 8 ls [.int sx0]) := by
  obtain ⟨hx, hb, hr, hml, hown, hts, hlocks⟩ := id C0
  unfold sX9_shut_8 at hp
  refine lv_if_eq (tgt := 13) hx hb dX9_shut_8 (by decide) (fun hcd8 => ?_) (fun hcd8 => ?_)
  · have hp := o_t hp hcd8
    refine lv_aload_n hx hb dX9_shut_13 rfl (lv_at hl 0 rfl) ?_
    refine lv_aload_n hx hb dX9_shut_14 rfl (lv_at hl 0 rfl) ?_
    refine g_get (v := .ref (q (10))) hx hb hts miX9_shut_X9 hown hK hP (kk_Mod) (ce_Mod) rfl 12 (by decide) mwX9_shut_1 rfl dX9_shut_15 ?_
    refine lv_iload_n hx hb dX9_shut_18 rfl (lv_at hl 1 rfl) ?_
    obtain ⟨hi9, hp⟩ := o_chk hp
    refine g_zald (j := x1.toNatClampNeg) hx hb hK hP (kk_M_isOff) (ce_M_isOff) 1 rfl (vin_of hi9) rfl dX9_shut_19 ?_
    refine lv_if_eq (tgt := 27) hx hb dX9_shut_20 (by decide) (fun hcd10 => ?_) (fun hcd10 => ?_)
    · have hp := o_t hp hcd10
      refine lv_iconst (v := (0 : Int32)) hx hb dX9_shut_27 (by decide) ?_
      exact kX9_shut_28 C0 hK hJ  hP hS hl hp
    · have hp := o_f hp hcd10
      refine lv_iconst (v := (2 : Int32)) hx hb dX9_shut_23 (by decide) ?_
      refine lv_goto (tgt := 28) hx hb dX9_shut_24 (by decide) ?_
      exact kX9_shut_28 C0 hK hJ  hP hS hl hp
  · have hp := o_f hp hcd8
    refine lv_iconst (v := (0 : Int32)) hx hb dX9_shut_11 (by decide) ?_
    obtain ⟨rfl, rfl⟩ := o_r hp
    exact W.iret (v := (0 : Int32)) hx hb hr (fun t ht hW => ⟨⟨(0 : Int32), (), rfl, rfl, by subst ht; exact hP⟩, hS.F ht⟩) hS.2.2 dX9_shut_12
def sX9_shut_5 (x1 : Int32) (sx1 : Int32) (σ : TS) : Option (Int32 × TS) := ((sX9_isOut sx1 σ).bind (fun z => sX9_shut_8 x1 z.1 z.2))
set_option maxHeartbeats 4000000 in
set_option maxRecDepth 100000 in
theorem kX9_shut_5 {r : Int32} {u : TS} (C0 : gC RX9 cX9_shut 2 ((some .int)) wsX9_shut p s m args meth c) (hK : va_K D vwCl (tyL cy) s) (hJ : gJ 39 q) {H : Heap} {locs : List Loc} {σ : TS} {x1 : Int32} {sx1 : Int32} (hP : va_P D vwCl (gS 39 q (MX cy q) σ) H) (hS : va_S (gA 39 q) s.heap H locs) {ls : Array Slot} (hl : lv_has ls 2 [(0, .ref (q (0))), (1, .int x1)]) (hp : sX9_shut_5 x1 sx1 σ = some (r, u)) : W p l e rmX9_shut s m args below meth c H locs 0 0 (MQ below (gQi D vwCl r (gS 39 q (MX cy q) u) (gA 39 q)) args s 0 0 (gA 39 q)) (F0 m 5 ls [.int sx1, .ref (q (0))]) := by
  obtain ⟨hx, hb, hr, hml, hown, hts, hlocks⟩ := id C0
  unfold sX9_shut_5 at hp
  obtain ⟨⟨r11, u12⟩, hq13, hp⟩ := o_b hp
  refine g_cVi (As := [.int sx1]) (rest := []) hx hb hml hown hts hK hP hS (mX9_isOut l hJ hq13) (cwV 1 hts gX9_shut_X9_isOut rfl rfl rfl nVX9_isOut ⟨Nat.le_of_ble_eq_true rfl, Nat.le_of_ble_eq_true rfl⟩) (g_recv hK hP (kk_Mod) (ce_Mod) rfl) rfl hl.1 rfl (Nat.le_of_ble_eq_true rfl) dX9_shut_5 ⟨Nat.le_of_ble_eq_true rfl, Nat.le_of_ble_eq_true rfl⟩ (fun H locs hP hS => ?_)
  exact kX9_shut_8 C0 hK hJ  hP hS hl hp
def sX9_shut_0 (x1 : Int32) (σ : TS) : Option (Int32 × TS) := ((sX9_isThree x1 σ).bind (fun z => sX9_shut_5 x1 z.1 z.2))
set_option maxHeartbeats 4000000 in
set_option maxRecDepth 100000 in
theorem kX9_shut_0 {r : Int32} {u : TS} (C0 : gC RX9 cX9_shut 2 ((some .int)) wsX9_shut p s m args meth c) (hK : va_K D vwCl (tyL cy) s) (hJ : gJ 39 q) {H : Heap} {locs : List Loc} {σ : TS} {x1 : Int32} (hP : va_P D vwCl (gS 39 q (MX cy q) σ) H) (hS : va_S (gA 39 q) s.heap H locs) {ls : Array Slot} (hl : lv_has ls 2 [(0, .ref (q (0))), (1, .int x1)]) (hp : sX9_shut_0 x1 σ = some (r, u)) : W p l e rmX9_shut s m args below meth c H locs 0 0 (MQ below (gQi D vwCl r (gS 39 q (MX cy q) u) (gA 39 q)) args s 0 0 (gA 39 q)) (F0 m 0 ls []) := by
  obtain ⟨hx, hb, hr, hml, hown, hts, hlocks⟩ := id C0
  unfold sX9_shut_0 at hp
  refine lv_aload_n hx hb dX9_shut_0 rfl (lv_at hl 0 rfl) ?_
  refine lv_iload_n hx hb dX9_shut_1 rfl (lv_at hl 1 rfl) ?_
  obtain ⟨⟨r14, u15⟩, hq16, hp⟩ := o_b hp
  refine g_cSi (As := [.int x1]) (rest := [.ref (q (0))]) hx hb hml hown hts hK hP hS (mX9_isThree l hJ hq16) (va_cwS 1 hts gX9_shut_X9_isThree rfl rfl rfl nVX9_isThree ⟨Nat.le_of_ble_eq_true rfl, Nat.le_of_ble_eq_true rfl⟩) rfl hl.1 rfl (Nat.le_of_ble_eq_true rfl) dX9_shut_2 ⟨Nat.le_of_ble_eq_true rfl, Nat.le_of_ble_eq_true rfl⟩ (fun H locs hP hS => ?_)
  exact kX9_shut_5 C0 hK hJ  hP hS hl hp
def sX9_shut (x1 : Int32) (σ : TS) : Option (Int32 × TS) := sX9_shut_0 x1 σ
theorem nVX9_shut : yX9_shut.cls = RX9 ∧ yX9_shut.cls ≠ "java/lang/invoke/MethodHandle" ∧ yX9_shut.cls ≠ "java/lang/invoke/VarHandle" ∧ (parseMethodDescriptor yX9_shut.desc).map (fun d => d.parameters.length) = some 1 := by decide +kernel
set_option maxHeartbeats 4000000 in
set_option maxRecDepth 100000 in
theorem mX9_shut (l : Launch) (hJ : gJ 39 q) {x1 : Int32} {σ : TS} {r : Int32} {u : TS} (hp : sX9_shut x1 σ = some (r, u)) : Met l yX9_shut wsX9_shut rmX9_shut (va_Pc [.ref (q (0)), .int x1] (gPre D vwCl (tyL cy) (gS 39 q (MX cy q) σ))) (gQi D vwCl r (gS 39 q (MX cy q) u) (gA 39 q)) 0 0 (gA 39 q) := by
  refine Met.ofW (cc := cX9_shut) (maxL := 2) (ret := (some .int)) (by decide +kernel) rfl ?_
  intro p e s m args below meth c s₁ B hml hv
  obtain ⟨rfl, hP, hK⟩ := hv
  have hl := lv_entry ([.ref (q (0)), .int x1]) (n := 2) (Nat.le_of_ble_eq_true rfl)
  rw [lg_entry_eq]
  generalize (lg_sl ([.ref (q (0)), .int x1]) ++ List.replicate (2 - (lg_sl ([.ref (q (0)), .int x1])).length) Slot.unset).toArray = ls at hl ⊢
  have hl : lv_has ls 2 [(0, .ref (q (0))), (1, .int x1)] := hl
  exact kX9_shut_0 ⟨B.exec, B.bytes, B.returns, hml, findClass_of_methodNamed B.named, atoms_spec (ws := wsX9_shut) B.pre, B.notSynchronized⟩ hK hJ  hP va_S.rf hl hp
theorem miX9_test_X9 : ∀ w ∈ u_ws RX9 TX9 44, w ∈ wsX9_test := by decide +kernel
theorem mwX9_test_0 : Cond.fieldLink RX9 42 "TriplaneModel" "isTested" "[Z" ∈ wsX9_test := by decide +kernel
theorem mwX9_test_1 : Cond.fieldLink RX9 130 "TriplaneModel" "thrown" "I" ∈ wsX9_test := by decide +kernel
theorem mwX9_test_2 : Cond.fieldLink RX9 60 "TriplaneModel" "stuck" "[I" ∈ wsX9_test := by decide +kernel
theorem mwX9_test_3 : Cond.fieldLink RX9 38 "TriplaneModel" "isOff" "[Z" ∈ wsX9_test := by decide +kernel
abbrev rmX9_test : Room := { frames := 2, cells := 0, slots := 0, locals := 42 }
def sX9_test_59 (x1 : Int32) (sx1 : Int32) (sx2 : Int32) (σ : TS) : Option (Int32 × TS) := (if vin sx1 4 = true then (if vin x1 4 = true then (if zok ((st2 σ 11 (sx1.toNatClampNeg) (vp_nar .boolean sx2)) 11 (x1.toNatClampNeg)) = true then some ((st2 σ 11 (sx1.toNatClampNeg) (vp_nar .boolean sx2)) 11 (x1.toNatClampNeg), st2 σ 11 (sx1.toNatClampNeg) (vp_nar .boolean sx2)) else none) else none) else none)
set_option maxHeartbeats 4000000 in
set_option maxRecDepth 100000 in
theorem kX9_test_59 {r : Int32} {u : TS} (C0 : gC RX9 cX9_test 2 ((some .boolean)) wsX9_test p s m args meth c) (hK : va_K D vwCl (tyL cy) s) (hJ : gJ 39 q) {H : Heap} {locs : List Loc} {σ : TS} {x1 : Int32} {sx1 : Int32} {sx2 : Int32} (hP : va_P D vwCl (gS 39 q (MX cy q) σ) H) (hS : va_S (gA 39 q) s.heap H locs) {ls : Array Slot} (hl : lv_has ls 2 [(0, .ref (q (0))), (1, .int x1)]) (hp : sX9_test_59 x1 sx1 sx2 σ = some (r, u)) : W p l e rmX9_test s m args below meth c H locs 0 0 (MQ below (gQi D vwCl r (gS 39 q (MX cy q) u) (gA 39 q)) args s 0 0 (gA 39 q)) (F0 m 59 ls [.int sx2, .int sx1, .ref (q (11))]) := by
  obtain ⟨hx, hb, hr, hml, hown, hts, hlocks⟩ := id C0
  unfold sX9_test_59 at hp
  obtain ⟨hi1, hp⟩ := o_chk hp
  refine g_zast (j := sx1.toNatClampNeg) hx hb hK hJ hP hS (kk_M_isTested) (ce_M_isTested) 1 rfl (vin_of hi1) rfl dX9_test_59 (fun H locs hP hS => ?_)
  refine lv_aload_n hx hb dX9_test_60 rfl (lv_at hl 0 rfl) ?_
  refine g_get (v := .ref (q (11))) hx hb hts miX9_test_X9 hown hK hP (kk_Mod) (ce_Mod) rfl 13 (by decide) mwX9_test_0 rfl dX9_test_61 ?_
  refine lv_iload_n hx hb dX9_test_64 rfl (lv_at hl 1 rfl) ?_
  obtain ⟨hi2, hp⟩ := o_chk hp
  refine g_zald (j := x1.toNatClampNeg) hx hb hK hP (kk_M_isTested) (ce_M_isTested) 1 rfl (vin_of hi2) rfl dX9_test_65 ?_
  obtain ⟨hz3, hp⟩ := o_chk hp
  obtain ⟨rfl, rfl⟩ := o_r hp
  exact W.zret (v := (st2 σ 11 (sx1.toNatClampNeg) (vp_nar .boolean sx2)) 11 (x1.toNatClampNeg)) hx hb hr (zok_n hz3).1 (fun t ht hW => ⟨⟨(st2 σ 11 (sx1.toNatClampNeg) (vp_nar .boolean sx2)) 11 (x1.toNatClampNeg), (), rfl, rfl, by subst ht; exact hP⟩, hS.F ht⟩) hS.2.2 dX9_test_66
def sX9_test_28 (x1 : Int32) (sx1 : Int32) (σ : TS) : Option (Int32 × TS) := (if ((st2 σ 0 0 sx1) 0 0) ≤ 0 then (if vin x1 4 = true then (if ((st2 σ 0 0 sx1) 17 (x1.toNatClampNeg)) = 0 then sX9_test_59 x1 x1 ((1 : Int32)) (st2 σ 0 0 sx1) else sX9_test_59 x1 x1 ((0 : Int32)) (st2 σ 0 0 sx1)) else none) else some ((0 : Int32), st2 σ 0 0 sx1))
set_option maxHeartbeats 4000000 in
set_option maxRecDepth 100000 in
theorem kX9_test_28 {r : Int32} {u : TS} (C0 : gC RX9 cX9_test 2 ((some .boolean)) wsX9_test p s m args meth c) (hK : va_K D vwCl (tyL cy) s) (hJ : gJ 39 q) {H : Heap} {locs : List Loc} {σ : TS} {x1 : Int32} {sx1 : Int32} (hP : va_P D vwCl (gS 39 q (MX cy q) σ) H) (hS : va_S (gA 39 q) s.heap H locs) {ls : Array Slot} (hl : lv_has ls 2 [(0, .ref (q (0))), (1, .int x1)]) (hp : sX9_test_28 x1 sx1 σ = some (r, u)) : W p l e rmX9_test s m args below meth c H locs 0 0 (MQ below (gQi D vwCl r (gS 39 q (MX cy q) u) (gA 39 q)) args s 0 0 (gA 39 q)) (F0 m 28 ls [.int sx1, .ref (q (0))]) := by
  obtain ⟨hx, hb, hr, hml, hown, hts, hlocks⟩ := id C0
  unfold sX9_test_28 at hp
  refine g_put (v := sx1) hx hb hts miX9_test_X9 tyX9 tyX9_ok nmX9 hown hK hJ hP hS (kk_Mod) (ce_Mod) rfl 0 (by decide) mwX9_test_1 rfl rfl rfl (Nat.le_of_ble_eq_true rfl) rfl dX9_test_28 (fun H locs hP hS => ?_)
  refine lv_aload_n hx hb dX9_test_31 rfl (lv_at hl 0 rfl) ?_
  refine g_get (v := .int ((st2 σ 0 0 sx1) 0 0)) hx hb hts miX9_test_X9 hown hK hP (kk_Mod) (ce_Mod) rfl 0 (by decide) mwX9_test_1 rfl dX9_test_32 ?_
  refine lv_if_le (tgt := 40) hx hb dX9_test_35 (by decide) (fun hcd4 => ?_) (fun hcd4 => ?_)
  · have hp := o_t hp hcd4
    refine lv_aload_n hx hb dX9_test_40 rfl (lv_at hl 0 rfl) ?_
    refine g_get (v := .ref (q (11))) hx hb hts miX9_test_X9 hown hK hP (kk_Mod) (ce_Mod) rfl 13 (by decide) mwX9_test_0 rfl dX9_test_41 ?_
    refine lv_iload_n hx hb dX9_test_44 rfl (lv_at hl 1 rfl) ?_
    refine lv_aload_n hx hb dX9_test_45 rfl (lv_at hl 0 rfl) ?_
    refine g_get (v := .ref (q (17))) hx hb hts miX9_test_X9 hown hK hP (kk_Mod) (ce_Mod) rfl 19 (by decide) mwX9_test_2 rfl dX9_test_46 ?_
    refine lv_iload_n hx hb dX9_test_49 rfl (lv_at hl 1 rfl) ?_
    obtain ⟨hi5, hp⟩ := o_chk hp
    refine g_iald (j := x1.toNatClampNeg) hx hb hK hP (kk_M_stuck) (ce_M_stuck) 0 rfl (vin_of hi5) rfl dX9_test_50 ?_
    refine lv_if_ne (tgt := 58) hx hb dX9_test_51 (by decide) (fun hcd6 => ?_) (fun hcd6 => ?_)
    · have hp := o_f hp hcd6
      refine lv_iconst (v := (0 : Int32)) hx hb dX9_test_58 (by decide) ?_
      exact kX9_test_59 C0 hK hJ  hP hS hl hp
    · have hp := o_t hp hcd6
      refine lv_iconst (v := (1 : Int32)) hx hb dX9_test_54 (by decide) ?_
      refine lv_goto (tgt := 59) hx hb dX9_test_55 (by decide) ?_
      exact kX9_test_59 C0 hK hJ  hP hS hl hp
  · have hp := o_f hp hcd4
    refine lv_iconst (v := (0 : Int32)) hx hb dX9_test_38 (by decide) ?_
    obtain ⟨rfl, rfl⟩ := o_r hp
    exact W.zret (v := (0 : Int32)) hx hb hr (zok_n (by decide)).1 (fun t ht hW => ⟨⟨(0 : Int32), (), rfl, rfl, by subst ht; exact hP⟩, hS.F ht⟩) hS.2.2 dX9_test_39
def sX9_test_8 (x1 : Int32) (sx0 : Int32) (σ : TS) : Option (Int32 × TS) := (if sx0 = 0 then (if vin x1 4 = true then (if (σ 10 (x1.toNatClampNeg)) = 0 then sX9_test_28 x1 ((2 : Int32)) σ else sX9_test_28 x1 ((0 : Int32)) σ) else none) else some ((0 : Int32), σ))
set_option maxHeartbeats 4000000 in
set_option maxRecDepth 100000 in
theorem kX9_test_8 {r : Int32} {u : TS} (C0 : gC RX9 cX9_test 2 ((some .boolean)) wsX9_test p s m args meth c) (hK : va_K D vwCl (tyL cy) s) (hJ : gJ 39 q) {H : Heap} {locs : List Loc} {σ : TS} {x1 : Int32} {sx0 : Int32} (hP : va_P D vwCl (gS 39 q (MX cy q) σ) H) (hS : va_S (gA 39 q) s.heap H locs) {ls : Array Slot} (hl : lv_has ls 2 [(0, .ref (q (0))), (1, .int x1)]) (hp : sX9_test_8 x1 sx0 σ = some (r, u)) : W p l e rmX9_test s m args below meth c H locs 0 0 (MQ below (gQi D vwCl r (gS 39 q (MX cy q) u) (gA 39 q)) args s 0 0 (gA 39 q)) (F0 m 8 ls [.int sx0]) := by
  obtain ⟨hx, hb, hr, hml, hown, hts, hlocks⟩ := id C0
  unfold sX9_test_8 at hp
  refine lv_if_eq (tgt := 13) hx hb dX9_test_8 (by decide) (fun hcd7 => ?_) (fun hcd7 => ?_)
  · have hp := o_t hp hcd7
    refine lv_aload_n hx hb dX9_test_13 rfl (lv_at hl 0 rfl) ?_
    refine lv_aload_n hx hb dX9_test_14 rfl (lv_at hl 0 rfl) ?_
    refine g_get (v := .ref (q (10))) hx hb hts miX9_test_X9 hown hK hP (kk_Mod) (ce_Mod) rfl 12 (by decide) mwX9_test_3 rfl dX9_test_15 ?_
    refine lv_iload_n hx hb dX9_test_18 rfl (lv_at hl 1 rfl) ?_
    obtain ⟨hi8, hp⟩ := o_chk hp
    refine g_zald (j := x1.toNatClampNeg) hx hb hK hP (kk_M_isOff) (ce_M_isOff) 1 rfl (vin_of hi8) rfl dX9_test_19 ?_
    refine lv_if_eq (tgt := 27) hx hb dX9_test_20 (by decide) (fun hcd9 => ?_) (fun hcd9 => ?_)
    · have hp := o_t hp hcd9
      refine lv_iconst (v := (2 : Int32)) hx hb dX9_test_27 (by decide) ?_
      exact kX9_test_28 C0 hK hJ  hP hS hl hp
    · have hp := o_f hp hcd9
      refine lv_iconst (v := (0 : Int32)) hx hb dX9_test_23 (by decide) ?_
      refine lv_goto (tgt := 28) hx hb dX9_test_24 (by decide) ?_
      exact kX9_test_28 C0 hK hJ  hP hS hl hp
  · have hp := o_f hp hcd7
    refine lv_iconst (v := (0 : Int32)) hx hb dX9_test_11 (by decide) ?_
    obtain ⟨rfl, rfl⟩ := o_r hp
    exact W.zret (v := (0 : Int32)) hx hb hr (zok_n (by decide)).1 (fun t ht hW => ⟨⟨(0 : Int32), (), rfl, rfl, by subst ht; exact hP⟩, hS.F ht⟩) hS.2.2 dX9_test_12
def sX9_test_5 (x1 : Int32) (sx1 : Int32) (σ : TS) : Option (Int32 × TS) := ((sX9_isOut sx1 σ).bind (fun z => sX9_test_8 x1 z.1 z.2))
set_option maxHeartbeats 4000000 in
set_option maxRecDepth 100000 in
theorem kX9_test_5 {r : Int32} {u : TS} (C0 : gC RX9 cX9_test 2 ((some .boolean)) wsX9_test p s m args meth c) (hK : va_K D vwCl (tyL cy) s) (hJ : gJ 39 q) {H : Heap} {locs : List Loc} {σ : TS} {x1 : Int32} {sx1 : Int32} (hP : va_P D vwCl (gS 39 q (MX cy q) σ) H) (hS : va_S (gA 39 q) s.heap H locs) {ls : Array Slot} (hl : lv_has ls 2 [(0, .ref (q (0))), (1, .int x1)]) (hp : sX9_test_5 x1 sx1 σ = some (r, u)) : W p l e rmX9_test s m args below meth c H locs 0 0 (MQ below (gQi D vwCl r (gS 39 q (MX cy q) u) (gA 39 q)) args s 0 0 (gA 39 q)) (F0 m 5 ls [.int sx1, .ref (q (0))]) := by
  obtain ⟨hx, hb, hr, hml, hown, hts, hlocks⟩ := id C0
  unfold sX9_test_5 at hp
  obtain ⟨⟨r10, u11⟩, hq12, hp⟩ := o_b hp
  refine g_cVi (As := [.int sx1]) (rest := []) hx hb hml hown hts hK hP hS (mX9_isOut l hJ hq12) (cwV 1 hts gX9_test_X9_isOut rfl rfl rfl nVX9_isOut ⟨Nat.le_of_ble_eq_true rfl, Nat.le_of_ble_eq_true rfl⟩) (g_recv hK hP (kk_Mod) (ce_Mod) rfl) rfl hl.1 rfl (Nat.le_of_ble_eq_true rfl) dX9_test_5 ⟨Nat.le_of_ble_eq_true rfl, Nat.le_of_ble_eq_true rfl⟩ (fun H locs hP hS => ?_)
  exact kX9_test_8 C0 hK hJ  hP hS hl hp
def sX9_test_0 (x1 : Int32) (σ : TS) : Option (Int32 × TS) := ((sX9_isThree x1 σ).bind (fun z => sX9_test_5 x1 z.1 z.2))
set_option maxHeartbeats 4000000 in
set_option maxRecDepth 100000 in
theorem kX9_test_0 {r : Int32} {u : TS} (C0 : gC RX9 cX9_test 2 ((some .boolean)) wsX9_test p s m args meth c) (hK : va_K D vwCl (tyL cy) s) (hJ : gJ 39 q) {H : Heap} {locs : List Loc} {σ : TS} {x1 : Int32} (hP : va_P D vwCl (gS 39 q (MX cy q) σ) H) (hS : va_S (gA 39 q) s.heap H locs) {ls : Array Slot} (hl : lv_has ls 2 [(0, .ref (q (0))), (1, .int x1)]) (hp : sX9_test_0 x1 σ = some (r, u)) : W p l e rmX9_test s m args below meth c H locs 0 0 (MQ below (gQi D vwCl r (gS 39 q (MX cy q) u) (gA 39 q)) args s 0 0 (gA 39 q)) (F0 m 0 ls []) := by
  obtain ⟨hx, hb, hr, hml, hown, hts, hlocks⟩ := id C0
  unfold sX9_test_0 at hp
  refine lv_aload_n hx hb dX9_test_0 rfl (lv_at hl 0 rfl) ?_
  refine lv_iload_n hx hb dX9_test_1 rfl (lv_at hl 1 rfl) ?_
  obtain ⟨⟨r13, u14⟩, hq15, hp⟩ := o_b hp
  refine g_cSi (As := [.int x1]) (rest := [.ref (q (0))]) hx hb hml hown hts hK hP hS (mX9_isThree l hJ hq15) (va_cwS 1 hts gX9_test_X9_isThree rfl rfl rfl nVX9_isThree ⟨Nat.le_of_ble_eq_true rfl, Nat.le_of_ble_eq_true rfl⟩) rfl hl.1 rfl (Nat.le_of_ble_eq_true rfl) dX9_test_2 ⟨Nat.le_of_ble_eq_true rfl, Nat.le_of_ble_eq_true rfl⟩ (fun H locs hP hS => ?_)
  exact kX9_test_5 C0 hK hJ  hP hS hl hp
def sX9_test (x1 : Int32) (σ : TS) : Option (Int32 × TS) := sX9_test_0 x1 σ
theorem nVX9_test : yX9_test.cls = RX9 ∧ yX9_test.cls ≠ "java/lang/invoke/MethodHandle" ∧ yX9_test.cls ≠ "java/lang/invoke/VarHandle" ∧ (parseMethodDescriptor yX9_test.desc).map (fun d => d.parameters.length) = some 1 := by decide +kernel
set_option maxHeartbeats 4000000 in
set_option maxRecDepth 100000 in
theorem mX9_test (l : Launch) (hJ : gJ 39 q) {x1 : Int32} {σ : TS} {r : Int32} {u : TS} (hp : sX9_test x1 σ = some (r, u)) : Met l yX9_test wsX9_test rmX9_test (va_Pc [.ref (q (0)), .int x1] (gPre D vwCl (tyL cy) (gS 39 q (MX cy q) σ))) (gQi D vwCl r (gS 39 q (MX cy q) u) (gA 39 q)) 0 0 (gA 39 q) := by
  refine Met.ofW (cc := cX9_test) (maxL := 2) (ret := (some .boolean)) (by decide +kernel) rfl ?_
  intro p e s m args below meth c s₁ B hml hv
  obtain ⟨rfl, hP, hK⟩ := hv
  have hl := lv_entry ([.ref (q (0)), .int x1]) (n := 2) (Nat.le_of_ble_eq_true rfl)
  rw [lg_entry_eq]
  generalize (lg_sl ([.ref (q (0)), .int x1]) ++ List.replicate (2 - (lg_sl ([.ref (q (0)), .int x1])).length) Slot.unset).toArray = ls at hl ⊢
  have hl : lv_has ls 2 [(0, .ref (q (0))), (1, .int x1)] := hl
  exact kX9_test_0 ⟨B.exec, B.bytes, B.returns, hml, findClass_of_methodNamed B.named, atoms_spec (ws := wsX9_test) B.pre, B.notSynchronized⟩ hK hJ  hP va_S.rf hl hp
theorem miX9_back_X9 : ∀ w ∈ u_ws RX9 TX9 44, w ∈ wsX9_back := by decide +kernel
theorem mwX9_back_0 : Cond.fieldLink RX9 45 "TriplaneModel" "strikes" "[I" ∈ wsX9_back := by decide +kernel
theorem mwX9_back_1 : Cond.fieldLink RX9 48 "TriplaneModel" "clocks" "[I" ∈ wsX9_back := by decide +kernel
theorem mwX9_back_2 : Cond.fieldLink RX9 38 "TriplaneModel" "isOff" "[Z" ∈ wsX9_back := by decide +kernel
theorem mwX9_back_3 : Cond.fieldLink RX9 42 "TriplaneModel" "isTested" "[Z" ∈ wsX9_back := by decide +kernel
theorem mwX9_back_4 : Cond.fieldLink RX9 26 "TriplaneModel" "words" "[I" ∈ wsX9_back := by decide +kernel
theorem mwX9_back_5 : Cond.fieldLink RX9 29 "TriplaneModel" "flips" "[I" ∈ wsX9_back := by decide +kernel
theorem mwX9_back_6 : Cond.fieldLink RX9 130 "TriplaneModel" "thrown" "I" ∈ wsX9_back := by decide +kernel
abbrev rmX9_back : Room := { frames := 2, cells := 0, slots := 0, locals := 42 }
def sX9_back_151 (sx0 : Int32) (σ : TS) : Option (Int32 × TS) := some (sx0, σ)
set_option maxHeartbeats 4000000 in
set_option maxRecDepth 100000 in
theorem kX9_back_151 {r : Int32} {u : TS} (C0 : gC RX9 cX9_back 4 ((some .int)) wsX9_back p s m args meth c) (hK : va_K D vwCl (tyL cy) s) (hJ : gJ 39 q) {H : Heap} {locs : List Loc} {σ : TS} {sx0 : Int32} (hP : va_P D vwCl (gS 39 q (MX cy q) σ) H) (hS : va_S (gA 39 q) s.heap H locs) {ls : Array Slot} (hl : lv_has ls 4 []) (hp : sX9_back_151 sx0 σ = some (r, u)) : W p l e rmX9_back s m args below meth c H locs 0 0 (MQ below (gQi D vwCl r (gS 39 q (MX cy q) u) (gA 39 q)) args s 0 0 (gA 39 q)) (F0 m 151 ls [.int sx0]) := by
  obtain ⟨hx, hb, hr, hml, hown, hts, hlocks⟩ := id C0
  unfold sX9_back_151 at hp
  obtain ⟨rfl, rfl⟩ := o_r hp
  exact W.iret (v := sx0) hx hb hr (fun t ht hW => ⟨⟨sx0, (), rfl, rfl, by subst ht; exact hP⟩, hS.F ht⟩) hS.2.2 dX9_back_151
def sX9_back_147 (σ : TS) : Option (Int32 × TS) := ((sX9_on σ).bind (fun z => sX9_back_151 z.1 z.2))
set_option maxHeartbeats 4000000 in
set_option maxRecDepth 100000 in
theorem kX9_back_147 {r : Int32} {u : TS} (C0 : gC RX9 cX9_back 4 ((some .int)) wsX9_back p s m args meth c) (hK : va_K D vwCl (tyL cy) s) (hJ : gJ 39 q) {H : Heap} {locs : List Loc} {σ : TS} (hP : va_P D vwCl (gS 39 q (MX cy q) σ) H) (hS : va_S (gA 39 q) s.heap H locs) {ls : Array Slot} (hl : lv_has ls 4 [(0, .ref (q (0)))]) (hp : sX9_back_147 σ = some (r, u)) : W p l e rmX9_back s m args below meth c H locs 0 0 (MQ below (gQi D vwCl r (gS 39 q (MX cy q) u) (gA 39 q)) args s 0 0 (gA 39 q)) (F0 m 147 ls []) := by
  obtain ⟨hx, hb, hr, hml, hown, hts, hlocks⟩ := id C0
  unfold sX9_back_147 at hp
  refine lv_aload_n hx hb dX9_back_147 rfl (lv_at hl 0 rfl) ?_
  obtain ⟨⟨r1, u2⟩, hq3, hp⟩ := o_b hp
  refine g_cVi (As := []) (rest := []) hx hb hml hown hts hK hP hS (mX9_on l hJ hq3) (cwV 0 hts gX9_back_X9_on rfl rfl rfl nVX9_on ⟨Nat.le_of_ble_eq_true rfl, Nat.le_of_ble_eq_true rfl⟩) (g_recv hK hP (kk_Mod) (ce_Mod) rfl) rfl hl.1 rfl (Nat.le_of_ble_eq_true rfl) dX9_back_148 ⟨Nat.le_of_ble_eq_true rfl, Nat.le_of_ble_eq_true rfl⟩ (fun H locs hP hS => ?_)
  exact kX9_back_151 C0 hK hJ  hP hS (lv_sub hl [] rfl) hp
def sX9_back_61 : Nat → Int32 → Int32 → Int32 → TS → Option (Int32 × TS)
  | 0, _, _, _, _ => none
  | n + 1, x1, x2, x3, σ => (if ((18 : Int32)) ≤ x3 then (if vin x1 4 = true then (if vin x2 4 = true then ((sX9_logs x1 ((98 : Int32)) (st2 (st2 (st2 (st2 σ 12 (x1.toNatClampNeg) ((0 : Int32))) 13 (x1.toNatClampNeg) ((st2 σ 12 (x1.toNatClampNeg) ((0 : Int32))) 13 (x2.toNatClampNeg))) 10 (x1.toNatClampNeg) (vp_nar .boolean ((0 : Int32)))) 11 (x1.toNatClampNeg) (vp_nar .boolean ((0 : Int32))))).bind (fun z => sX9_back_147 z.2)) else none) else none) else (if vin ((x2 * ((18 : Int32))) + x3) 72 = true then (if vin ((x1 * ((18 : Int32))) + x3) 72 = true then sX9_back_61 n x1 x2 (x3 + (1 : Int32)) (st2 (st2 σ 6 (((x1 * ((18 : Int32))) + x3).toNatClampNeg) (σ 6 (((x2 * ((18 : Int32))) + x3).toNatClampNeg))) 7 (((x1 * ((18 : Int32))) + x3).toNatClampNeg) ((0 : Int32))) else none) else none))
set_option maxHeartbeats 4000000 in
set_option maxRecDepth 100000 in
theorem kX9_back_61 {r : Int32} {u : TS} (C0 : gC RX9 cX9_back 4 ((some .int)) wsX9_back p s m args meth c) (hK : va_K D vwCl (tyL cy) s) (hJ : gJ 39 q) : ∀ (n : Nat) (H : Heap) (locs : List Loc) (σ : TS) (x1 : Int32) (x2 : Int32) (x3 : Int32) (hP : va_P D vwCl (gS 39 q (MX cy q) σ) H) (hS : va_S (gA 39 q) s.heap H locs) (ls : Array Slot) (hl : lv_has ls 4 [(0, .ref (q (0))), (1, .int x1), (2, .int x2), (3, .int x3)]) (hp : sX9_back_61 n x1 x2 x3 σ = some (r, u)), W p l e rmX9_back s m args below meth c H locs 0 0 (MQ below (gQi D vwCl r (gS 39 q (MX cy q) u) (gA 39 q)) args s 0 0 (gA 39 q)) (F0 m 61 ls []) := by
  obtain ⟨hx, hb, hr, hml, hown, hts, hlocks⟩ := id C0
  intro n
  induction n with
  | zero =>
    intro H locs σ x1 x2 x3 hP hS ls hl hp
    cases hp
  | succ n ih =>
    intro H locs σ x1 x2 x3 hP hS ls hl hp
    unfold sX9_back_61 at hp
    refine lv_iload_n hx hb dX9_back_61 rfl (lv_at hl 3 rfl) ?_
    refine lv_bipush (v := (18 : Int32)) hx hb dX9_back_62 (by decide) ?_
    refine lv_icmp_ge (tgt := 107) hx hb dX9_back_64 (by decide) (fun hcd4 => ?_) (fun hcd4 => ?_)
    · have hp := o_t hp hcd4
      refine lv_aload_n hx hb dX9_back_107 rfl (lv_at hl 0 rfl) ?_
      refine g_get (v := .ref (q (12))) hx hb hts miX9_back_X9 hown hK hP (kk_Mod) (ce_Mod) rfl 14 (by decide) mwX9_back_0 rfl dX9_back_108 ?_
      refine lv_iload_n hx hb dX9_back_111 rfl (lv_at hl 1 rfl) ?_
      refine lv_iconst (v := (0 : Int32)) hx hb dX9_back_112 (by decide) ?_
      obtain ⟨hi5, hp⟩ := o_chk hp
      refine g_iast (j := x1.toNatClampNeg) hx hb hK hJ hP hS (kk_M_strikes) (ce_M_strikes) 0 rfl (vin_of hi5) rfl dX9_back_113 (fun H locs hP hS => ?_)
      refine lv_aload_n hx hb dX9_back_114 rfl (lv_at hl 0 rfl) ?_
      refine g_get (v := .ref (q (13))) hx hb hts miX9_back_X9 hown hK hP (kk_Mod) (ce_Mod) rfl 15 (by decide) mwX9_back_1 rfl dX9_back_115 ?_
      refine lv_iload_n hx hb dX9_back_118 rfl (lv_at hl 1 rfl) ?_
      refine lv_aload_n hx hb dX9_back_119 rfl (lv_at hl 0 rfl) ?_
      refine g_get (v := .ref (q (13))) hx hb hts miX9_back_X9 hown hK hP (kk_Mod) (ce_Mod) rfl 15 (by decide) mwX9_back_1 rfl dX9_back_120 ?_
      refine lv_iload_n hx hb dX9_back_123 rfl (lv_at hl 2 rfl) ?_
      obtain ⟨hi6, hp⟩ := o_chk hp
      refine g_iald (j := x2.toNatClampNeg) hx hb hK hP (kk_M_clocks) (ce_M_clocks) 0 rfl (vin_of hi6) rfl dX9_back_124 ?_
      refine g_iast (j := x1.toNatClampNeg) hx hb hK hJ hP hS (kk_M_clocks) (ce_M_clocks) 0 rfl (vin_of hi5) rfl dX9_back_125 (fun H locs hP hS => ?_)
      refine lv_aload_n hx hb dX9_back_126 rfl (lv_at hl 0 rfl) ?_
      refine g_get (v := .ref (q (10))) hx hb hts miX9_back_X9 hown hK hP (kk_Mod) (ce_Mod) rfl 12 (by decide) mwX9_back_2 rfl dX9_back_127 ?_
      refine lv_iload_n hx hb dX9_back_130 rfl (lv_at hl 1 rfl) ?_
      refine lv_iconst (v := (0 : Int32)) hx hb dX9_back_131 (by decide) ?_
      refine g_zast (j := x1.toNatClampNeg) hx hb hK hJ hP hS (kk_M_isOff) (ce_M_isOff) 1 rfl (vin_of hi5) rfl dX9_back_132 (fun H locs hP hS => ?_)
      refine lv_aload_n hx hb dX9_back_133 rfl (lv_at hl 0 rfl) ?_
      refine g_get (v := .ref (q (11))) hx hb hts miX9_back_X9 hown hK hP (kk_Mod) (ce_Mod) rfl 13 (by decide) mwX9_back_3 rfl dX9_back_134 ?_
      refine lv_iload_n hx hb dX9_back_137 rfl (lv_at hl 1 rfl) ?_
      refine lv_iconst (v := (0 : Int32)) hx hb dX9_back_138 (by decide) ?_
      refine g_zast (j := x1.toNatClampNeg) hx hb hK hJ hP hS (kk_M_isTested) (ce_M_isTested) 1 rfl (vin_of hi5) rfl dX9_back_139 (fun H locs hP hS => ?_)
      refine lv_aload_n hx hb dX9_back_140 rfl (lv_at hl 0 rfl) ?_
      refine lv_iload_n hx hb dX9_back_141 rfl (lv_at hl 1 rfl) ?_
      refine lv_bipush (v := (98 : Int32)) hx hb dX9_back_142 (by decide) ?_
      obtain ⟨⟨r7, u8⟩, hq9, hp⟩ := o_b hp
      refine g_cVv (As := [.int x1, .int ((98 : Int32))]) (rest := []) hx hb hml hown hts hK hP hS (mX9_logs l hJ hq9) (cwV 2 hts gX9_back_X9_logs rfl rfl rfl nVX9_logs ⟨Nat.le_of_ble_eq_true rfl, Nat.le_of_ble_eq_true rfl⟩) (g_recv hK hP (kk_Mod) (ce_Mod) rfl) rfl hl.1 rfl (Nat.le_of_ble_eq_true rfl) dX9_back_144 ⟨Nat.le_of_ble_eq_true rfl, Nat.le_of_ble_eq_true rfl⟩ (fun H locs hP hS => ?_)
      exact kX9_back_147 C0 hK hJ  hP hS (lv_sub hl [0] rfl) hp
    · have hp := o_f hp hcd4
      refine lv_aload_n hx hb dX9_back_67 rfl (lv_at hl 0 rfl) ?_
      refine g_get (v := .ref (q (6))) hx hb hts miX9_back_X9 hown hK hP (kk_Mod) (ce_Mod) rfl 8 (by decide) mwX9_back_4 rfl dX9_back_68 ?_
      refine lv_iload_n hx hb dX9_back_71 rfl (lv_at hl 1 rfl) ?_
      refine lv_bipush (v := (18 : Int32)) hx hb dX9_back_72 (by decide) ?_
      refine lv_imul hx hb dX9_back_74 ?_
      refine lv_iload_n hx hb dX9_back_75 rfl (lv_at hl 3 rfl) ?_
      refine lv_iadd hx hb dX9_back_76 ?_
      refine lv_aload_n hx hb dX9_back_77 rfl (lv_at hl 0 rfl) ?_
      refine g_get (v := .ref (q (6))) hx hb hts miX9_back_X9 hown hK hP (kk_Mod) (ce_Mod) rfl 8 (by decide) mwX9_back_4 rfl dX9_back_78 ?_
      refine lv_iload_n hx hb dX9_back_81 rfl (lv_at hl 2 rfl) ?_
      refine lv_bipush (v := (18 : Int32)) hx hb dX9_back_82 (by decide) ?_
      refine lv_imul hx hb dX9_back_84 ?_
      refine lv_iload_n hx hb dX9_back_85 rfl (lv_at hl 3 rfl) ?_
      refine lv_iadd hx hb dX9_back_86 ?_
      obtain ⟨hi10, hp⟩ := o_chk hp
      refine g_iald (j := ((x2 * ((18 : Int32))) + x3).toNatClampNeg) hx hb hK hP (kk_M_words) (ce_M_words) 0 rfl (vin_of hi10) rfl dX9_back_87 ?_
      obtain ⟨hi11, hp⟩ := o_chk hp
      refine g_iast (j := ((x1 * ((18 : Int32))) + x3).toNatClampNeg) hx hb hK hJ hP hS (kk_M_words) (ce_M_words) 0 rfl (vin_of hi11) rfl dX9_back_88 (fun H locs hP hS => ?_)
      refine lv_aload_n hx hb dX9_back_89 rfl (lv_at hl 0 rfl) ?_
      refine g_get (v := .ref (q (7))) hx hb hts miX9_back_X9 hown hK hP (kk_Mod) (ce_Mod) rfl 9 (by decide) mwX9_back_5 rfl dX9_back_90 ?_
      refine lv_iload_n hx hb dX9_back_93 rfl (lv_at hl 1 rfl) ?_
      refine lv_bipush (v := (18 : Int32)) hx hb dX9_back_94 (by decide) ?_
      refine lv_imul hx hb dX9_back_96 ?_
      refine lv_iload_n hx hb dX9_back_97 rfl (lv_at hl 3 rfl) ?_
      refine lv_iadd hx hb dX9_back_98 ?_
      refine lv_iconst (v := (0 : Int32)) hx hb dX9_back_99 (by decide) ?_
      refine g_iast (j := ((x1 * ((18 : Int32))) + x3).toNatClampNeg) hx hb hK hJ hP hS (kk_M_flips) (ce_M_flips) 0 rfl (vin_of hi11) rfl dX9_back_100 (fun H locs hP hS => ?_)
      refine lv_iinc (v := x3 + (1 : Int32)) (lv' := [(3, .int (x3 + (1 : Int32))), (0, .ref (q (0))), (1, .int x1), (2, .int x2)]) hx hb dX9_back_101 hl (k := 3) rfl rfl (by decide) rfl (fun ls hl => ?_)
      refine lv_goto (tgt := 61) hx hb dX9_back_104 (by decide) ?_
      exact ih _ _ _ _ _ _  hP hS _ (lv_sub hl [1, 2, 3, 0] rfl) hp
def sX9_back_47 (x1 : Int32) (x2 : Int32) (sx1 : Int32) (σ : TS) : Option (Int32 × TS) := (if ((st2 σ 0 0 sx1) 0 0) ≤ 0 then sX9_back_61 19 x1 x2 ((0 : Int32)) (st2 σ 0 0 sx1) else some ((0 : Int32), st2 σ 0 0 sx1))
set_option maxHeartbeats 4000000 in
set_option maxRecDepth 100000 in
theorem kX9_back_47 {r : Int32} {u : TS} (C0 : gC RX9 cX9_back 4 ((some .int)) wsX9_back p s m args meth c) (hK : va_K D vwCl (tyL cy) s) (hJ : gJ 39 q) {H : Heap} {locs : List Loc} {σ : TS} {x1 : Int32} {x2 : Int32} {sx1 : Int32} (hP : va_P D vwCl (gS 39 q (MX cy q) σ) H) (hS : va_S (gA 39 q) s.heap H locs) {ls : Array Slot} (hl : lv_has ls 4 [(0, .ref (q (0))), (1, .int x1), (2, .int x2)]) (hp : sX9_back_47 x1 x2 sx1 σ = some (r, u)) : W p l e rmX9_back s m args below meth c H locs 0 0 (MQ below (gQi D vwCl r (gS 39 q (MX cy q) u) (gA 39 q)) args s 0 0 (gA 39 q)) (F0 m 47 ls [.int sx1, .ref (q (0))]) := by
  obtain ⟨hx, hb, hr, hml, hown, hts, hlocks⟩ := id C0
  unfold sX9_back_47 at hp
  refine g_put (v := sx1) hx hb hts miX9_back_X9 tyX9 tyX9_ok nmX9 hown hK hJ hP hS (kk_Mod) (ce_Mod) rfl 0 (by decide) mwX9_back_6 rfl rfl rfl (Nat.le_of_ble_eq_true rfl) rfl dX9_back_47 (fun H locs hP hS => ?_)
  refine lv_aload_n hx hb dX9_back_50 rfl (lv_at hl 0 rfl) ?_
  refine g_get (v := .int ((st2 σ 0 0 sx1) 0 0)) hx hb hts miX9_back_X9 hown hK hP (kk_Mod) (ce_Mod) rfl 0 (by decide) mwX9_back_6 rfl dX9_back_51 ?_
  refine lv_if_le (tgt := 59) hx hb dX9_back_54 (by decide) (fun hcd12 => ?_) (fun hcd12 => ?_)
  · have hp := o_t hp hcd12
    refine lv_iconst (v := (0 : Int32)) hx hb dX9_back_59 (by decide) ?_
    refine lv_istore_n (lv' := [(3, .int ((0 : Int32))), (0, .ref (q (0))), (1, .int x1), (2, .int x2)]) hx hb dX9_back_60 rfl hl (by decide) rfl (fun ls hl => ?_)
    exact kX9_back_61 C0 hK hJ _ _ _ _ _ _ _  hP hS _ (lv_sub hl [1, 2, 3, 0] rfl) hp
  · have hp := o_f hp hcd12
    refine lv_iconst (v := (0 : Int32)) hx hb dX9_back_57 (by decide) ?_
    obtain ⟨rfl, rfl⟩ := o_r hp
    exact W.iret (v := (0 : Int32)) hx hb hr (fun t ht hW => ⟨⟨(0 : Int32), (), rfl, rfl, by subst ht; exact hP⟩, hS.F ht⟩) hS.2.2 dX9_back_58
def sX9_back_42 (x1 : Int32) (x2 : Int32) (σ : TS) : Option (Int32 × TS) := sX9_back_47 x1 x2 ((2 : Int32)) σ
set_option maxHeartbeats 4000000 in
set_option maxRecDepth 100000 in
theorem kX9_back_42 {r : Int32} {u : TS} (C0 : gC RX9 cX9_back 4 ((some .int)) wsX9_back p s m args meth c) (hK : va_K D vwCl (tyL cy) s) (hJ : gJ 39 q) {H : Heap} {locs : List Loc} {σ : TS} {x1 : Int32} {x2 : Int32} (hP : va_P D vwCl (gS 39 q (MX cy q) σ) H) (hS : va_S (gA 39 q) s.heap H locs) {ls : Array Slot} (hl : lv_has ls 4 [(0, .ref (q (0))), (1, .int x1), (2, .int x2)]) (hp : sX9_back_42 x1 x2 σ = some (r, u)) : W p l e rmX9_back s m args below meth c H locs 0 0 (MQ below (gQi D vwCl r (gS 39 q (MX cy q) u) (gA 39 q)) args s 0 0 (gA 39 q)) (F0 m 42 ls [.ref (q (0))]) := by
  obtain ⟨hx, hb, hr, hml, hown, hts, hlocks⟩ := id C0
  unfold sX9_back_42 at hp
  refine lv_iconst (v := (2 : Int32)) hx hb dX9_back_42 (by decide) ?_
  refine lv_goto (tgt := 47) hx hb dX9_back_43 (by decide) ?_
  exact kX9_back_47 C0 hK hJ  hP hS hl hp
def sX9_back_17 (x1 : Int32) (sx0 : Int32) (σ : TS) : Option (Int32 × TS) := (if vin x1 4 = true then (if (σ 10 (x1.toNatClampNeg)) = 0 then sX9_back_42 x1 sx0 σ else (if (σ 11 (x1.toNatClampNeg)) = 0 then sX9_back_42 x1 sx0 σ else (if sx0 = ((-1 : Int32)) then sX9_back_42 x1 sx0 σ else sX9_back_47 x1 sx0 ((0 : Int32)) σ))) else none)
set_option maxHeartbeats 4000000 in
set_option maxRecDepth 100000 in
theorem kX9_back_17 {r : Int32} {u : TS} (C0 : gC RX9 cX9_back 4 ((some .int)) wsX9_back p s m args meth c) (hK : va_K D vwCl (tyL cy) s) (hJ : gJ 39 q) {H : Heap} {locs : List Loc} {σ : TS} {x1 : Int32} {sx0 : Int32} (hP : va_P D vwCl (gS 39 q (MX cy q) σ) H) (hS : va_S (gA 39 q) s.heap H locs) {ls : Array Slot} (hl : lv_has ls 4 [(0, .ref (q (0))), (1, .int x1)]) (hp : sX9_back_17 x1 sx0 σ = some (r, u)) : W p l e rmX9_back s m args below meth c H locs 0 0 (MQ below (gQi D vwCl r (gS 39 q (MX cy q) u) (gA 39 q)) args s 0 0 (gA 39 q)) (F0 m 17 ls [.int sx0]) := by
  obtain ⟨hx, hb, hr, hml, hown, hts, hlocks⟩ := id C0
  unfold sX9_back_17 at hp
  refine lv_istore_n (lv' := [(2, .int sx0), (0, .ref (q (0))), (1, .int x1)]) hx hb dX9_back_17 rfl hl (by decide) rfl (fun ls hl => ?_)
  refine lv_aload_n hx hb dX9_back_18 rfl (lv_at hl 1 rfl) ?_
  refine lv_aload_n hx hb dX9_back_19 rfl (lv_at hl 1 rfl) ?_
  refine g_get (v := .ref (q (10))) hx hb hts miX9_back_X9 hown hK hP (kk_Mod) (ce_Mod) rfl 12 (by decide) mwX9_back_2 rfl dX9_back_20 ?_
  refine lv_iload_n hx hb dX9_back_23 rfl (lv_at hl 2 rfl) ?_
  obtain ⟨hi13, hp⟩ := o_chk hp
  refine g_zald (j := x1.toNatClampNeg) hx hb hK hP (kk_M_isOff) (ce_M_isOff) 1 rfl (vin_of hi13) rfl dX9_back_24 ?_
  refine lv_if_eq (tgt := 42) hx hb dX9_back_25 (by decide) (fun hcd14 => ?_) (fun hcd14 => ?_)
  · have hp := o_t hp hcd14
    exact kX9_back_42 C0 hK hJ  hP hS (lv_sub hl [1, 2, 0] rfl) hp
  · have hp := o_f hp hcd14
    refine lv_aload_n hx hb dX9_back_28 rfl (lv_at hl 1 rfl) ?_
    refine g_get (v := .ref (q (11))) hx hb hts miX9_back_X9 hown hK hP (kk_Mod) (ce_Mod) rfl 13 (by decide) mwX9_back_3 rfl dX9_back_29 ?_
    refine lv_iload_n hx hb dX9_back_32 rfl (lv_at hl 2 rfl) ?_
    refine g_zald (j := x1.toNatClampNeg) hx hb hK hP (kk_M_isTested) (ce_M_isTested) 1 rfl (vin_of hi13) rfl dX9_back_33 ?_
    refine lv_if_eq (tgt := 42) hx hb dX9_back_34 (by decide) (fun hcd15 => ?_) (fun hcd15 => ?_)
    · have hp := o_t hp hcd15
      exact kX9_back_42 C0 hK hJ  hP hS (lv_sub hl [1, 2, 0] rfl) hp
    · have hp := o_f hp hcd15
      refine lv_iload_n hx hb dX9_back_37 rfl (lv_at hl 0 rfl) ?_
      refine lv_iconst (v := (-1 : Int32)) hx hb dX9_back_38 (by decide) ?_
      refine lv_icmp_ne (tgt := 46) hx hb dX9_back_39 (by decide) (fun hcd16 => ?_) (fun hcd16 => ?_)
      · have hp := o_f hp hcd16
        refine lv_iconst (v := (0 : Int32)) hx hb dX9_back_46 (by decide) ?_
        exact kX9_back_47 C0 hK hJ  hP hS (lv_sub hl [1, 2, 0] rfl) hp
      · have hp := o_t hp hcd16
        exact kX9_back_42 C0 hK hJ  hP hS (lv_sub hl [1, 2, 0] rfl) hp
def sX9_back_8 (x1 : Int32) (sx0 : Int32) (σ : TS) : Option (Int32 × TS) := (if sx0 = 0 then ((sX9_lowest σ).bind (fun z => sX9_back_17 x1 z.1 z.2)) else some ((0 : Int32), σ))
set_option maxHeartbeats 4000000 in
set_option maxRecDepth 100000 in
theorem kX9_back_8 {r : Int32} {u : TS} (C0 : gC RX9 cX9_back 4 ((some .int)) wsX9_back p s m args meth c) (hK : va_K D vwCl (tyL cy) s) (hJ : gJ 39 q) {H : Heap} {locs : List Loc} {σ : TS} {x1 : Int32} {sx0 : Int32} (hP : va_P D vwCl (gS 39 q (MX cy q) σ) H) (hS : va_S (gA 39 q) s.heap H locs) {ls : Array Slot} (hl : lv_has ls 4 [(0, .ref (q (0))), (1, .int x1)]) (hp : sX9_back_8 x1 sx0 σ = some (r, u)) : W p l e rmX9_back s m args below meth c H locs 0 0 (MQ below (gQi D vwCl r (gS 39 q (MX cy q) u) (gA 39 q)) args s 0 0 (gA 39 q)) (F0 m 8 ls [.int sx0]) := by
  obtain ⟨hx, hb, hr, hml, hown, hts, hlocks⟩ := id C0
  unfold sX9_back_8 at hp
  refine lv_if_eq (tgt := 13) hx hb dX9_back_8 (by decide) (fun hcd17 => ?_) (fun hcd17 => ?_)
  · have hp := o_t hp hcd17
    refine lv_aload_n hx hb dX9_back_13 rfl (lv_at hl 0 rfl) ?_
    obtain ⟨⟨r18, u19⟩, hq20, hp⟩ := o_b hp
    refine g_cVi (As := []) (rest := []) hx hb hml hown hts hK hP hS (mX9_lowest l hJ hq20) (cwV 0 hts gX9_back_X9_lowest rfl rfl rfl nVX9_lowest ⟨Nat.le_of_ble_eq_true rfl, Nat.le_of_ble_eq_true rfl⟩) (g_recv hK hP (kk_Mod) (ce_Mod) rfl) rfl hl.1 rfl (Nat.le_of_ble_eq_true rfl) dX9_back_14 ⟨Nat.le_of_ble_eq_true rfl, Nat.le_of_ble_eq_true rfl⟩ (fun H locs hP hS => ?_)
    exact kX9_back_17 C0 hK hJ  hP hS hl hp
  · have hp := o_f hp hcd17
    refine lv_iconst (v := (0 : Int32)) hx hb dX9_back_11 (by decide) ?_
    obtain ⟨rfl, rfl⟩ := o_r hp
    exact W.iret (v := (0 : Int32)) hx hb hr (fun t ht hW => ⟨⟨(0 : Int32), (), rfl, rfl, by subst ht; exact hP⟩, hS.F ht⟩) hS.2.2 dX9_back_12
def sX9_back_5 (x1 : Int32) (sx1 : Int32) (σ : TS) : Option (Int32 × TS) := ((sX9_isOut sx1 σ).bind (fun z => sX9_back_8 x1 z.1 z.2))
set_option maxHeartbeats 4000000 in
set_option maxRecDepth 100000 in
theorem kX9_back_5 {r : Int32} {u : TS} (C0 : gC RX9 cX9_back 4 ((some .int)) wsX9_back p s m args meth c) (hK : va_K D vwCl (tyL cy) s) (hJ : gJ 39 q) {H : Heap} {locs : List Loc} {σ : TS} {x1 : Int32} {sx1 : Int32} (hP : va_P D vwCl (gS 39 q (MX cy q) σ) H) (hS : va_S (gA 39 q) s.heap H locs) {ls : Array Slot} (hl : lv_has ls 4 [(0, .ref (q (0))), (1, .int x1)]) (hp : sX9_back_5 x1 sx1 σ = some (r, u)) : W p l e rmX9_back s m args below meth c H locs 0 0 (MQ below (gQi D vwCl r (gS 39 q (MX cy q) u) (gA 39 q)) args s 0 0 (gA 39 q)) (F0 m 5 ls [.int sx1, .ref (q (0))]) := by
  obtain ⟨hx, hb, hr, hml, hown, hts, hlocks⟩ := id C0
  unfold sX9_back_5 at hp
  obtain ⟨⟨r21, u22⟩, hq23, hp⟩ := o_b hp
  refine g_cVi (As := [.int sx1]) (rest := []) hx hb hml hown hts hK hP hS (mX9_isOut l hJ hq23) (cwV 1 hts gX9_back_X9_isOut rfl rfl rfl nVX9_isOut ⟨Nat.le_of_ble_eq_true rfl, Nat.le_of_ble_eq_true rfl⟩) (g_recv hK hP (kk_Mod) (ce_Mod) rfl) rfl hl.1 rfl (Nat.le_of_ble_eq_true rfl) dX9_back_5 ⟨Nat.le_of_ble_eq_true rfl, Nat.le_of_ble_eq_true rfl⟩ (fun H locs hP hS => ?_)
  exact kX9_back_8 C0 hK hJ  hP hS hl hp
def sX9_back_0 (x1 : Int32) (σ : TS) : Option (Int32 × TS) := ((sX9_isThree x1 σ).bind (fun z => sX9_back_5 x1 z.1 z.2))
set_option maxHeartbeats 4000000 in
set_option maxRecDepth 100000 in
theorem kX9_back_0 {r : Int32} {u : TS} (C0 : gC RX9 cX9_back 4 ((some .int)) wsX9_back p s m args meth c) (hK : va_K D vwCl (tyL cy) s) (hJ : gJ 39 q) {H : Heap} {locs : List Loc} {σ : TS} {x1 : Int32} (hP : va_P D vwCl (gS 39 q (MX cy q) σ) H) (hS : va_S (gA 39 q) s.heap H locs) {ls : Array Slot} (hl : lv_has ls 4 [(0, .ref (q (0))), (1, .int x1)]) (hp : sX9_back_0 x1 σ = some (r, u)) : W p l e rmX9_back s m args below meth c H locs 0 0 (MQ below (gQi D vwCl r (gS 39 q (MX cy q) u) (gA 39 q)) args s 0 0 (gA 39 q)) (F0 m 0 ls []) := by
  obtain ⟨hx, hb, hr, hml, hown, hts, hlocks⟩ := id C0
  unfold sX9_back_0 at hp
  refine lv_aload_n hx hb dX9_back_0 rfl (lv_at hl 0 rfl) ?_
  refine lv_iload_n hx hb dX9_back_1 rfl (lv_at hl 1 rfl) ?_
  obtain ⟨⟨r24, u25⟩, hq26, hp⟩ := o_b hp
  refine g_cSi (As := [.int x1]) (rest := [.ref (q (0))]) hx hb hml hown hts hK hP hS (mX9_isThree l hJ hq26) (va_cwS 1 hts gX9_back_X9_isThree rfl rfl rfl nVX9_isThree ⟨Nat.le_of_ble_eq_true rfl, Nat.le_of_ble_eq_true rfl⟩) rfl hl.1 rfl (Nat.le_of_ble_eq_true rfl) dX9_back_2 ⟨Nat.le_of_ble_eq_true rfl, Nat.le_of_ble_eq_true rfl⟩ (fun H locs hP hS => ?_)
  exact kX9_back_5 C0 hK hJ  hP hS hl hp
def sX9_back (x1 : Int32) (σ : TS) : Option (Int32 × TS) := sX9_back_0 x1 σ
theorem nVX9_back : yX9_back.cls = RX9 ∧ yX9_back.cls ≠ "java/lang/invoke/MethodHandle" ∧ yX9_back.cls ≠ "java/lang/invoke/VarHandle" ∧ (parseMethodDescriptor yX9_back.desc).map (fun d => d.parameters.length) = some 1 := by decide +kernel
set_option maxHeartbeats 4000000 in
set_option maxRecDepth 100000 in
theorem mX9_back (l : Launch) (hJ : gJ 39 q) {x1 : Int32} {σ : TS} {r : Int32} {u : TS} (hp : sX9_back x1 σ = some (r, u)) : Met l yX9_back wsX9_back rmX9_back (va_Pc [.ref (q (0)), .int x1] (gPre D vwCl (tyL cy) (gS 39 q (MX cy q) σ))) (gQi D vwCl r (gS 39 q (MX cy q) u) (gA 39 q)) 0 0 (gA 39 q) := by
  refine Met.ofW (cc := cX9_back) (maxL := 4) (ret := (some .int)) (by decide +kernel) rfl ?_
  intro p e s m args below meth c s₁ B hml hv
  obtain ⟨rfl, hP, hK⟩ := hv
  have hl := lv_entry ([.ref (q (0)), .int x1]) (n := 4) (Nat.le_of_ble_eq_true rfl)
  rw [lg_entry_eq]
  generalize (lg_sl ([.ref (q (0)), .int x1]) ++ List.replicate (4 - (lg_sl ([.ref (q (0)), .int x1])).length) Slot.unset).toArray = ls at hl ⊢
  have hl : lv_has ls 4 [(0, .ref (q (0))), (1, .int x1)] := hl
  exact kX9_back_0 ⟨B.exec, B.bytes, B.returns, hml, findClass_of_methodNamed B.named, atoms_spec (ws := wsX9_back) B.pre, B.notSynchronized⟩ hK hJ  hP va_S.rf hl hp
theorem miX9_mended_X9 : ∀ w ∈ u_ws RX9 TX9 44, w ∈ wsX9_mended := by decide +kernel
theorem mwX9_mended_0 : Cond.fieldLink RX9 57 "TriplaneModel" "mended" "[I" ∈ wsX9_mended := by decide +kernel
abbrev rmX9_mended : Room := { frames := 2, cells := 0, slots := 0, locals := 42 }
def sX9_mended_21 (sx0 : Int32) (σ : TS) : Option (Int32 × TS) := some (sx0, σ)
set_option maxHeartbeats 4000000 in
set_option maxRecDepth 100000 in
theorem kX9_mended_21 {r : Int32} {u : TS} (C0 : gC RX9 cX9_mended 2 ((some .int)) wsX9_mended p s m args meth c) (hK : va_K D vwCl (tyL cy) s) (hJ : gJ 39 q) {H : Heap} {locs : List Loc} {σ : TS} {sx0 : Int32} (hP : va_P D vwCl (gS 39 q (MX cy q) σ) H) (hS : va_S (gA 39 q) s.heap H locs) {ls : Array Slot} (hl : lv_has ls 2 []) (hp : sX9_mended_21 sx0 σ = some (r, u)) : W p l e rmX9_mended s m args below meth c H locs 0 0 (MQ below (gQi D vwCl r (gS 39 q (MX cy q) u) (gA 39 q)) args s 0 0 (gA 39 q)) (F0 m 21 ls [.int sx0]) := by
  obtain ⟨hx, hb, hr, hml, hown, hts, hlocks⟩ := id C0
  unfold sX9_mended_21 at hp
  obtain ⟨rfl, rfl⟩ := o_r hp
  exact W.iret (v := sx0) hx hb hr (fun t ht hW => ⟨⟨sx0, (), rfl, rfl, by subst ht; exact hP⟩, hS.F ht⟩) hS.2.2 dX9_mended_21
def sX9_mended_8 (x1 : Int32) (sx0 : Int32) (σ : TS) : Option (Int32 × TS) := (if sx0 = 0 then (if vin x1 4 = true then sX9_mended_21 (σ 16 (x1.toNatClampNeg)) σ else none) else sX9_mended_21 ((0 : Int32)) σ)
set_option maxHeartbeats 4000000 in
set_option maxRecDepth 100000 in
theorem kX9_mended_8 {r : Int32} {u : TS} (C0 : gC RX9 cX9_mended 2 ((some .int)) wsX9_mended p s m args meth c) (hK : va_K D vwCl (tyL cy) s) (hJ : gJ 39 q) {H : Heap} {locs : List Loc} {σ : TS} {x1 : Int32} {sx0 : Int32} (hP : va_P D vwCl (gS 39 q (MX cy q) σ) H) (hS : va_S (gA 39 q) s.heap H locs) {ls : Array Slot} (hl : lv_has ls 2 [(0, .ref (q (0))), (1, .int x1)]) (hp : sX9_mended_8 x1 sx0 σ = some (r, u)) : W p l e rmX9_mended s m args below meth c H locs 0 0 (MQ below (gQi D vwCl r (gS 39 q (MX cy q) u) (gA 39 q)) args s 0 0 (gA 39 q)) (F0 m 8 ls [.int sx0]) := by
  obtain ⟨hx, hb, hr, hml, hown, hts, hlocks⟩ := id C0
  unfold sX9_mended_8 at hp
  refine lv_if_eq (tgt := 15) hx hb dX9_mended_8 (by decide) (fun hcd1 => ?_) (fun hcd1 => ?_)
  · have hp := o_t hp hcd1
    refine lv_aload_n hx hb dX9_mended_15 rfl (lv_at hl 0 rfl) ?_
    refine g_get (v := .ref (q (16))) hx hb hts miX9_mended_X9 hown hK hP (kk_Mod) (ce_Mod) rfl 18 (by decide) mwX9_mended_0 rfl dX9_mended_16 ?_
    refine lv_iload_n hx hb dX9_mended_19 rfl (lv_at hl 1 rfl) ?_
    obtain ⟨hi2, hp⟩ := o_chk hp
    refine g_iald (j := x1.toNatClampNeg) hx hb hK hP (kk_M_mended) (ce_M_mended) 0 rfl (vin_of hi2) rfl dX9_mended_20 ?_
    exact kX9_mended_21 C0 hK hJ  hP hS (lv_sub hl [] rfl) hp
  · have hp := o_f hp hcd1
    refine lv_iconst (v := (0 : Int32)) hx hb dX9_mended_11 (by decide) ?_
    refine lv_goto (tgt := 21) hx hb dX9_mended_12 (by decide) ?_
    exact kX9_mended_21 C0 hK hJ  hP hS (lv_sub hl [] rfl) hp
def sX9_mended_5 (x1 : Int32) (sx1 : Int32) (σ : TS) : Option (Int32 × TS) := ((sX9_isOut sx1 σ).bind (fun z => sX9_mended_8 x1 z.1 z.2))
set_option maxHeartbeats 4000000 in
set_option maxRecDepth 100000 in
theorem kX9_mended_5 {r : Int32} {u : TS} (C0 : gC RX9 cX9_mended 2 ((some .int)) wsX9_mended p s m args meth c) (hK : va_K D vwCl (tyL cy) s) (hJ : gJ 39 q) {H : Heap} {locs : List Loc} {σ : TS} {x1 : Int32} {sx1 : Int32} (hP : va_P D vwCl (gS 39 q (MX cy q) σ) H) (hS : va_S (gA 39 q) s.heap H locs) {ls : Array Slot} (hl : lv_has ls 2 [(0, .ref (q (0))), (1, .int x1)]) (hp : sX9_mended_5 x1 sx1 σ = some (r, u)) : W p l e rmX9_mended s m args below meth c H locs 0 0 (MQ below (gQi D vwCl r (gS 39 q (MX cy q) u) (gA 39 q)) args s 0 0 (gA 39 q)) (F0 m 5 ls [.int sx1, .ref (q (0))]) := by
  obtain ⟨hx, hb, hr, hml, hown, hts, hlocks⟩ := id C0
  unfold sX9_mended_5 at hp
  obtain ⟨⟨r3, u4⟩, hq5, hp⟩ := o_b hp
  refine g_cVi (As := [.int sx1]) (rest := []) hx hb hml hown hts hK hP hS (mX9_isOut l hJ hq5) (cwV 1 hts gX9_mended_X9_isOut rfl rfl rfl nVX9_isOut ⟨Nat.le_of_ble_eq_true rfl, Nat.le_of_ble_eq_true rfl⟩) (g_recv hK hP (kk_Mod) (ce_Mod) rfl) rfl hl.1 rfl (Nat.le_of_ble_eq_true rfl) dX9_mended_5 ⟨Nat.le_of_ble_eq_true rfl, Nat.le_of_ble_eq_true rfl⟩ (fun H locs hP hS => ?_)
  exact kX9_mended_8 C0 hK hJ  hP hS hl hp
def sX9_mended_0 (x1 : Int32) (σ : TS) : Option (Int32 × TS) := ((sX9_isThree x1 σ).bind (fun z => sX9_mended_5 x1 z.1 z.2))
set_option maxHeartbeats 4000000 in
set_option maxRecDepth 100000 in
theorem kX9_mended_0 {r : Int32} {u : TS} (C0 : gC RX9 cX9_mended 2 ((some .int)) wsX9_mended p s m args meth c) (hK : va_K D vwCl (tyL cy) s) (hJ : gJ 39 q) {H : Heap} {locs : List Loc} {σ : TS} {x1 : Int32} (hP : va_P D vwCl (gS 39 q (MX cy q) σ) H) (hS : va_S (gA 39 q) s.heap H locs) {ls : Array Slot} (hl : lv_has ls 2 [(0, .ref (q (0))), (1, .int x1)]) (hp : sX9_mended_0 x1 σ = some (r, u)) : W p l e rmX9_mended s m args below meth c H locs 0 0 (MQ below (gQi D vwCl r (gS 39 q (MX cy q) u) (gA 39 q)) args s 0 0 (gA 39 q)) (F0 m 0 ls []) := by
  obtain ⟨hx, hb, hr, hml, hown, hts, hlocks⟩ := id C0
  unfold sX9_mended_0 at hp
  refine lv_aload_n hx hb dX9_mended_0 rfl (lv_at hl 0 rfl) ?_
  refine lv_iload_n hx hb dX9_mended_1 rfl (lv_at hl 1 rfl) ?_
  obtain ⟨⟨r6, u7⟩, hq8, hp⟩ := o_b hp
  refine g_cSi (As := [.int x1]) (rest := [.ref (q (0))]) hx hb hml hown hts hK hP hS (mX9_isThree l hJ hq8) (va_cwS 1 hts gX9_mended_X9_isThree rfl rfl rfl nVX9_isThree ⟨Nat.le_of_ble_eq_true rfl, Nat.le_of_ble_eq_true rfl⟩) rfl hl.1 rfl (Nat.le_of_ble_eq_true rfl) dX9_mended_2 ⟨Nat.le_of_ble_eq_true rfl, Nat.le_of_ble_eq_true rfl⟩ (fun H locs hP hS => ?_)
  exact kX9_mended_5 C0 hK hJ  hP hS hl hp
def sX9_mended (x1 : Int32) (σ : TS) : Option (Int32 × TS) := sX9_mended_0 x1 σ
theorem nVX9_mended : yX9_mended.cls = RX9 ∧ yX9_mended.cls ≠ "java/lang/invoke/MethodHandle" ∧ yX9_mended.cls ≠ "java/lang/invoke/VarHandle" ∧ (parseMethodDescriptor yX9_mended.desc).map (fun d => d.parameters.length) = some 1 := by decide +kernel
set_option maxHeartbeats 4000000 in
set_option maxRecDepth 100000 in
theorem mX9_mended (l : Launch) (hJ : gJ 39 q) {x1 : Int32} {σ : TS} {r : Int32} {u : TS} (hp : sX9_mended x1 σ = some (r, u)) : Met l yX9_mended wsX9_mended rmX9_mended (va_Pc [.ref (q (0)), .int x1] (gPre D vwCl (tyL cy) (gS 39 q (MX cy q) σ))) (gQi D vwCl r (gS 39 q (MX cy q) u) (gA 39 q)) 0 0 (gA 39 q) := by
  refine Met.ofW (cc := cX9_mended) (maxL := 2) (ret := (some .int)) (by decide +kernel) rfl ?_
  intro p e s m args below meth c s₁ B hml hv
  obtain ⟨rfl, hP, hK⟩ := hv
  have hl := lv_entry ([.ref (q (0)), .int x1]) (n := 2) (Nat.le_of_ble_eq_true rfl)
  rw [lg_entry_eq]
  generalize (lg_sl ([.ref (q (0)), .int x1]) ++ List.replicate (2 - (lg_sl ([.ref (q (0)), .int x1])).length) Slot.unset).toArray = ls at hl ⊢
  have hl : lv_has ls 2 [(0, .ref (q (0))), (1, .int x1)] := hl
  exact kX9_mended_0 ⟨B.exec, B.bytes, B.returns, hml, findClass_of_methodNamed B.named, atoms_spec (ws := wsX9_mended) B.pre, B.notSynchronized⟩ hK hJ  hP va_S.rf hl hp
theorem miX9_overruns_X9 : ∀ w ∈ u_ws RX9 TX9 44, w ∈ wsX9_overruns := by decide +kernel
theorem mwX9_overruns_0 : Cond.fieldLink RX9 81 "TriplaneModel" "overruns" "[I" ∈ wsX9_overruns := by decide +kernel
abbrev rmX9_overruns : Room := { frames := 2, cells := 0, slots := 0, locals := 42 }
def sX9_overruns_21 (sx0 : Int32) (σ : TS) : Option (Int32 × TS) := some (sx0, σ)
set_option maxHeartbeats 4000000 in
set_option maxRecDepth 100000 in
theorem kX9_overruns_21 {r : Int32} {u : TS} (C0 : gC RX9 cX9_overruns 2 ((some .int)) wsX9_overruns p s m args meth c) (hK : va_K D vwCl (tyL cy) s) (hJ : gJ 39 q) {H : Heap} {locs : List Loc} {σ : TS} {sx0 : Int32} (hP : va_P D vwCl (gS 39 q (MX cy q) σ) H) (hS : va_S (gA 39 q) s.heap H locs) {ls : Array Slot} (hl : lv_has ls 2 []) (hp : sX9_overruns_21 sx0 σ = some (r, u)) : W p l e rmX9_overruns s m args below meth c H locs 0 0 (MQ below (gQi D vwCl r (gS 39 q (MX cy q) u) (gA 39 q)) args s 0 0 (gA 39 q)) (F0 m 21 ls [.int sx0]) := by
  obtain ⟨hx, hb, hr, hml, hown, hts, hlocks⟩ := id C0
  unfold sX9_overruns_21 at hp
  obtain ⟨rfl, rfl⟩ := o_r hp
  exact W.iret (v := sx0) hx hb hr (fun t ht hW => ⟨⟨sx0, (), rfl, rfl, by subst ht; exact hP⟩, hS.F ht⟩) hS.2.2 dX9_overruns_21
def sX9_overruns_8 (x1 : Int32) (sx0 : Int32) (σ : TS) : Option (Int32 × TS) := (if sx0 = 0 then (if vin x1 3 = true then sX9_overruns_21 (σ 24 (x1.toNatClampNeg)) σ else none) else sX9_overruns_21 ((0 : Int32)) σ)
set_option maxHeartbeats 4000000 in
set_option maxRecDepth 100000 in
theorem kX9_overruns_8 {r : Int32} {u : TS} (C0 : gC RX9 cX9_overruns 2 ((some .int)) wsX9_overruns p s m args meth c) (hK : va_K D vwCl (tyL cy) s) (hJ : gJ 39 q) {H : Heap} {locs : List Loc} {σ : TS} {x1 : Int32} {sx0 : Int32} (hP : va_P D vwCl (gS 39 q (MX cy q) σ) H) (hS : va_S (gA 39 q) s.heap H locs) {ls : Array Slot} (hl : lv_has ls 2 [(0, .ref (q (0))), (1, .int x1)]) (hp : sX9_overruns_8 x1 sx0 σ = some (r, u)) : W p l e rmX9_overruns s m args below meth c H locs 0 0 (MQ below (gQi D vwCl r (gS 39 q (MX cy q) u) (gA 39 q)) args s 0 0 (gA 39 q)) (F0 m 8 ls [.int sx0]) := by
  obtain ⟨hx, hb, hr, hml, hown, hts, hlocks⟩ := id C0
  unfold sX9_overruns_8 at hp
  refine lv_if_eq (tgt := 15) hx hb dX9_overruns_8 (by decide) (fun hcd1 => ?_) (fun hcd1 => ?_)
  · have hp := o_t hp hcd1
    refine lv_aload_n hx hb dX9_overruns_15 rfl (lv_at hl 0 rfl) ?_
    refine g_get (v := .ref (q (24))) hx hb hts miX9_overruns_X9 hown hK hP (kk_Mod) (ce_Mod) rfl 26 (by decide) mwX9_overruns_0 rfl dX9_overruns_16 ?_
    refine lv_iload_n hx hb dX9_overruns_19 rfl (lv_at hl 1 rfl) ?_
    obtain ⟨hi2, hp⟩ := o_chk hp
    refine g_iald (j := x1.toNatClampNeg) hx hb hK hP (kk_M_overruns) (ce_M_overruns) 0 rfl (vin_of hi2) rfl dX9_overruns_20 ?_
    exact kX9_overruns_21 C0 hK hJ  hP hS (lv_sub hl [] rfl) hp
  · have hp := o_f hp hcd1
    refine lv_iconst (v := (0 : Int32)) hx hb dX9_overruns_11 (by decide) ?_
    refine lv_goto (tgt := 21) hx hb dX9_overruns_12 (by decide) ?_
    exact kX9_overruns_21 C0 hK hJ  hP hS (lv_sub hl [] rfl) hp
def sX9_overruns_5 (x1 : Int32) (sx1 : Int32) (σ : TS) : Option (Int32 × TS) := ((sX9_isOut sx1 σ).bind (fun z => sX9_overruns_8 x1 z.1 z.2))
set_option maxHeartbeats 4000000 in
set_option maxRecDepth 100000 in
theorem kX9_overruns_5 {r : Int32} {u : TS} (C0 : gC RX9 cX9_overruns 2 ((some .int)) wsX9_overruns p s m args meth c) (hK : va_K D vwCl (tyL cy) s) (hJ : gJ 39 q) {H : Heap} {locs : List Loc} {σ : TS} {x1 : Int32} {sx1 : Int32} (hP : va_P D vwCl (gS 39 q (MX cy q) σ) H) (hS : va_S (gA 39 q) s.heap H locs) {ls : Array Slot} (hl : lv_has ls 2 [(0, .ref (q (0))), (1, .int x1)]) (hp : sX9_overruns_5 x1 sx1 σ = some (r, u)) : W p l e rmX9_overruns s m args below meth c H locs 0 0 (MQ below (gQi D vwCl r (gS 39 q (MX cy q) u) (gA 39 q)) args s 0 0 (gA 39 q)) (F0 m 5 ls [.int sx1, .ref (q (0))]) := by
  obtain ⟨hx, hb, hr, hml, hown, hts, hlocks⟩ := id C0
  unfold sX9_overruns_5 at hp
  obtain ⟨⟨r3, u4⟩, hq5, hp⟩ := o_b hp
  refine g_cVi (As := [.int sx1]) (rest := []) hx hb hml hown hts hK hP hS (mX9_isOut l hJ hq5) (cwV 1 hts gX9_overruns_X9_isOut rfl rfl rfl nVX9_isOut ⟨Nat.le_of_ble_eq_true rfl, Nat.le_of_ble_eq_true rfl⟩) (g_recv hK hP (kk_Mod) (ce_Mod) rfl) rfl hl.1 rfl (Nat.le_of_ble_eq_true rfl) dX9_overruns_5 ⟨Nat.le_of_ble_eq_true rfl, Nat.le_of_ble_eq_true rfl⟩ (fun H locs hP hS => ?_)
  exact kX9_overruns_8 C0 hK hJ  hP hS hl hp
def sX9_overruns_0 (x1 : Int32) (σ : TS) : Option (Int32 × TS) := ((sX9_isThree x1 σ).bind (fun z => sX9_overruns_5 x1 z.1 z.2))
set_option maxHeartbeats 4000000 in
set_option maxRecDepth 100000 in
theorem kX9_overruns_0 {r : Int32} {u : TS} (C0 : gC RX9 cX9_overruns 2 ((some .int)) wsX9_overruns p s m args meth c) (hK : va_K D vwCl (tyL cy) s) (hJ : gJ 39 q) {H : Heap} {locs : List Loc} {σ : TS} {x1 : Int32} (hP : va_P D vwCl (gS 39 q (MX cy q) σ) H) (hS : va_S (gA 39 q) s.heap H locs) {ls : Array Slot} (hl : lv_has ls 2 [(0, .ref (q (0))), (1, .int x1)]) (hp : sX9_overruns_0 x1 σ = some (r, u)) : W p l e rmX9_overruns s m args below meth c H locs 0 0 (MQ below (gQi D vwCl r (gS 39 q (MX cy q) u) (gA 39 q)) args s 0 0 (gA 39 q)) (F0 m 0 ls []) := by
  obtain ⟨hx, hb, hr, hml, hown, hts, hlocks⟩ := id C0
  unfold sX9_overruns_0 at hp
  refine lv_aload_n hx hb dX9_overruns_0 rfl (lv_at hl 0 rfl) ?_
  refine lv_iload_n hx hb dX9_overruns_1 rfl (lv_at hl 1 rfl) ?_
  obtain ⟨⟨r6, u7⟩, hq8, hp⟩ := o_b hp
  refine g_cSi (As := [.int x1]) (rest := [.ref (q (0))]) hx hb hml hown hts hK hP hS (mX9_isThree l hJ hq8) (va_cwS 1 hts gX9_overruns_X9_isThree rfl rfl rfl nVX9_isThree ⟨Nat.le_of_ble_eq_true rfl, Nat.le_of_ble_eq_true rfl⟩) rfl hl.1 rfl (Nat.le_of_ble_eq_true rfl) dX9_overruns_2 ⟨Nat.le_of_ble_eq_true rfl, Nat.le_of_ble_eq_true rfl⟩ (fun H locs hP hS => ?_)
  exact kX9_overruns_5 C0 hK hJ  hP hS hl hp
def sX9_overruns (x1 : Int32) (σ : TS) : Option (Int32 × TS) := sX9_overruns_0 x1 σ
theorem nVX9_overruns : yX9_overruns.cls = RX9 ∧ yX9_overruns.cls ≠ "java/lang/invoke/MethodHandle" ∧ yX9_overruns.cls ≠ "java/lang/invoke/VarHandle" ∧ (parseMethodDescriptor yX9_overruns.desc).map (fun d => d.parameters.length) = some 1 := by decide +kernel
set_option maxHeartbeats 4000000 in
set_option maxRecDepth 100000 in
theorem mX9_overruns (l : Launch) (hJ : gJ 39 q) {x1 : Int32} {σ : TS} {r : Int32} {u : TS} (hp : sX9_overruns x1 σ = some (r, u)) : Met l yX9_overruns wsX9_overruns rmX9_overruns (va_Pc [.ref (q (0)), .int x1] (gPre D vwCl (tyL cy) (gS 39 q (MX cy q) σ))) (gQi D vwCl r (gS 39 q (MX cy q) u) (gA 39 q)) 0 0 (gA 39 q) := by
  refine Met.ofW (cc := cX9_overruns) (maxL := 2) (ret := (some .int)) (by decide +kernel) rfl ?_
  intro p e s m args below meth c s₁ B hml hv
  obtain ⟨rfl, hP, hK⟩ := hv
  have hl := lv_entry ([.ref (q (0)), .int x1]) (n := 2) (Nat.le_of_ble_eq_true rfl)
  rw [lg_entry_eq]
  generalize (lg_sl ([.ref (q (0)), .int x1]) ++ List.replicate (2 - (lg_sl ([.ref (q (0)), .int x1])).length) Slot.unset).toArray = ls at hl ⊢
  have hl : lv_has ls 2 [(0, .ref (q (0))), (1, .int x1)] := hl
  exact kX9_overruns_0 ⟨B.exec, B.bytes, B.returns, hml, findClass_of_methodNamed B.named, atoms_spec (ws := wsX9_overruns) B.pre, B.notSynchronized⟩ hK hJ  hP va_S.rf hl hp
abbrev rmX9_isNumber : Room := { frames := 1, cells := 0, slots := 0, locals := 22 }
def sX9_isNumber_10 (sx0 : Int32) (σ : TS) : Option (Int32 × TS) := (if zok sx0 = true then some (sx0, σ) else none)
set_option maxHeartbeats 4000000 in
set_option maxRecDepth 100000 in
theorem kX9_isNumber_10 {r : Int32} {u : TS} (C0 : gC RX9 cX9_isNumber 1 ((some .boolean)) wsX9_isNumber p s m args meth c) (hK : va_K D vwCl (tyL cy) s) (hJ : gJ 39 q) {H : Heap} {locs : List Loc} {σ : TS} {sx0 : Int32} (hP : va_P D vwCl (gS 39 q (MX cy q) σ) H) (hS : va_S (gA 39 q) s.heap H locs) {ls : Array Slot} (hl : lv_has ls 1 []) (hp : sX9_isNumber_10 sx0 σ = some (r, u)) : W p l e rmX9_isNumber s m args below meth c H locs 0 0 (MQ below (gQi D vwCl r (gS 39 q (MX cy q) u) (gA 39 q)) args s 0 0 (gA 39 q)) (F0 m 10 ls [.int sx0]) := by
  obtain ⟨hx, hb, hr, hml, hown, hts, hlocks⟩ := id C0
  unfold sX9_isNumber_10 at hp
  obtain ⟨hz1, hp⟩ := o_chk hp
  obtain ⟨rfl, rfl⟩ := o_r hp
  exact W.zret (v := sx0) hx hb hr (zok_n hz1).1 (fun t ht hW => ⟨⟨sx0, (), rfl, rfl, by subst ht; exact hP⟩, hS.F ht⟩) hS.2.2 dX9_isNumber_10
def sX9_isNumber_0 (x0 : Int32) (σ : TS) : Option (Int32 × TS) := ((sX9_in x0 ((-32768 : Int32)) ((32767 : Int32)) σ).bind (fun z => sX9_isNumber_10 z.1 z.2))
set_option maxHeartbeats 4000000 in
set_option maxRecDepth 100000 in
theorem kX9_isNumber_0 {r : Int32} {u : TS} (C0 : gC RX9 cX9_isNumber 1 ((some .boolean)) wsX9_isNumber p s m args meth c) (hK : va_K D vwCl (tyL cy) s) (hJ : gJ 39 q) {H : Heap} {locs : List Loc} {σ : TS} {x0 : Int32} (hP : va_P D vwCl (gS 39 q (MX cy q) σ) H) (hS : va_S (gA 39 q) s.heap H locs) {ls : Array Slot} (hl : lv_has ls 1 [(0, .int x0)]) (hp : sX9_isNumber_0 x0 σ = some (r, u)) : W p l e rmX9_isNumber s m args below meth c H locs 0 0 (MQ below (gQi D vwCl r (gS 39 q (MX cy q) u) (gA 39 q)) args s 0 0 (gA 39 q)) (F0 m 0 ls []) := by
  obtain ⟨hx, hb, hr, hml, hown, hts, hlocks⟩ := id C0
  unfold sX9_isNumber_0 at hp
  refine lv_iload_n hx hb dX9_isNumber_0 rfl (lv_at hl 0 rfl) ?_
  refine lv_sipush (v := (-32768 : Int32)) hx hb dX9_isNumber_1 (by decide) ?_
  refine lv_sipush (v := (32767 : Int32)) hx hb dX9_isNumber_4 (by decide) ?_
  obtain ⟨⟨r2, u3⟩, hq4, hp⟩ := o_b hp
  refine g_cSi (As := [.int x0, .int ((-32768 : Int32)), .int ((32767 : Int32))]) (rest := []) hx hb hml hown hts hK hP hS (mX9_in l hJ hq4) (va_cwS 3 hts gX9_isNumber_X9_in rfl rfl rfl nVX9_in ⟨Nat.le_of_ble_eq_true rfl, Nat.le_of_ble_eq_true rfl⟩) rfl hl.1 rfl (Nat.le_of_ble_eq_true rfl) dX9_isNumber_7 ⟨Nat.le_of_ble_eq_true rfl, Nat.le_of_ble_eq_true rfl⟩ (fun H locs hP hS => ?_)
  exact kX9_isNumber_10 C0 hK hJ  hP hS (lv_sub hl [] rfl) hp
def sX9_isNumber (x0 : Int32) (σ : TS) : Option (Int32 × TS) := sX9_isNumber_0 x0 σ
theorem nVX9_isNumber : yX9_isNumber.cls ≠ "java/lang/invoke/MethodHandle" ∧ yX9_isNumber.cls ≠ "java/lang/invoke/VarHandle" ∧ (parseMethodDescriptor yX9_isNumber.desc).map (fun d => d.parameters.length) = some 1 := by decide +kernel
set_option maxHeartbeats 4000000 in
set_option maxRecDepth 100000 in
theorem mX9_isNumber (l : Launch) (hJ : gJ 39 q) {x0 : Int32} {σ : TS} {r : Int32} {u : TS} (hp : sX9_isNumber x0 σ = some (r, u)) : Met l yX9_isNumber wsX9_isNumber rmX9_isNumber (va_Pc [.int x0] (gPre D vwCl (tyL cy) (gS 39 q (MX cy q) σ))) (gQi D vwCl r (gS 39 q (MX cy q) u) (gA 39 q)) 0 0 (gA 39 q) := by
  refine Met.ofW (cc := cX9_isNumber) (maxL := 1) (ret := (some .boolean)) (by decide +kernel) rfl ?_
  intro p e s m args below meth c s₁ B hml hv
  obtain ⟨rfl, hP, hK⟩ := hv
  have hl := lv_entry ([.int x0]) (n := 1) (Nat.le_of_ble_eq_true rfl)
  rw [lg_entry_eq]
  generalize (lg_sl ([.int x0]) ++ List.replicate (1 - (lg_sl ([.int x0])).length) Slot.unset).toArray = ls at hl ⊢
  have hl : lv_has ls 1 [(0, .int x0)] := hl
  exact kX9_isNumber_0 ⟨B.exec, B.bytes, B.returns, hml, findClass_of_methodNamed B.named, atoms_spec (ws := wsX9_isNumber) B.pre, B.notSynchronized⟩ hK hJ  hP va_S.rf hl hp
theorem miX9_read_X9 : ∀ w ∈ u_ws RX9 TX9 44, w ∈ wsX9_read := by decide +kernel
theorem mwX9_read_0 : Cond.fieldLink RX9 130 "TriplaneModel" "thrown" "I" ∈ wsX9_read := by decide +kernel
theorem mwX9_read_1 : Cond.fieldLink RX9 84 "TriplaneModel" "readings" "[I" ∈ wsX9_read := by decide +kernel
abbrev rmX9_read : Room := { frames := 2, cells := 0, slots := 0, locals := 43 }
def sX9_read_92 (sx0 : Int32) (σ : TS) : Option (Int32 × TS) := some (sx0, σ)
set_option maxHeartbeats 4000000 in
set_option maxRecDepth 100000 in
theorem kX9_read_92 {r : Int32} {u : TS} (C0 : gC RX9 cX9_read 5 ((some .int)) wsX9_read p s m args meth c) (hK : va_K D vwCl (tyL cy) s) (hJ : gJ 39 q) {H : Heap} {locs : List Loc} {σ : TS} {sx0 : Int32} (hP : va_P D vwCl (gS 39 q (MX cy q) σ) H) (hS : va_S (gA 39 q) s.heap H locs) {ls : Array Slot} (hl : lv_has ls 5 []) (hp : sX9_read_92 sx0 σ = some (r, u)) : W p l e rmX9_read s m args below meth c H locs 0 0 (MQ below (gQi D vwCl r (gS 39 q (MX cy q) u) (gA 39 q)) args s 0 0 (gA 39 q)) (F0 m 92 ls [.int sx0]) := by
  obtain ⟨hx, hb, hr, hml, hown, hts, hlocks⟩ := id C0
  unfold sX9_read_92 at hp
  obtain ⟨rfl, rfl⟩ := o_r hp
  exact W.iret (v := sx0) hx hb hr (fun t ht hW => ⟨⟨sx0, (), rfl, rfl, by subst ht; exact hP⟩, hS.F ht⟩) hS.2.2 dX9_read_92
def sX9_read_41 (x1 : Int32) (x2 : Int32) (x3 : Int32) (x4 : Int32) (sx1 : Int32) (σ : TS) : Option (Int32 × TS) := (if ((st2 σ 0 0 sx1) 0 0) ≤ 0 then (if vin (x1 * ((3 : Int32))) 12 = true then (if vin ((x1 * ((3 : Int32))) + ((1 : Int32))) 12 = true then (if vin ((x1 * ((3 : Int32))) + ((2 : Int32))) 12 = true then ((sX9_middle x2 x3 x4 (st2 (st2 (st2 (st2 σ 0 0 sx1) 25 ((x1 * ((3 : Int32))).toNatClampNeg) x2) 25 (((x1 * ((3 : Int32))) + ((1 : Int32))).toNatClampNeg) x3) 25 (((x1 * ((3 : Int32))) + ((2 : Int32))).toNatClampNeg) x4)).bind (fun z => sX9_read_92 z.1 z.2)) else none) else none) else none) else some ((0 : Int32), st2 σ 0 0 sx1))
set_option maxHeartbeats 4000000 in
set_option maxRecDepth 100000 in
theorem kX9_read_41 {r : Int32} {u : TS} (C0 : gC RX9 cX9_read 5 ((some .int)) wsX9_read p s m args meth c) (hK : va_K D vwCl (tyL cy) s) (hJ : gJ 39 q) {H : Heap} {locs : List Loc} {σ : TS} {x1 : Int32} {x2 : Int32} {x3 : Int32} {x4 : Int32} {sx1 : Int32} (hP : va_P D vwCl (gS 39 q (MX cy q) σ) H) (hS : va_S (gA 39 q) s.heap H locs) {ls : Array Slot} (hl : lv_has ls 5 [(0, .ref (q (0))), (1, .int x1), (2, .int x2), (3, .int x3), (4, .int x4)]) (hp : sX9_read_41 x1 x2 x3 x4 sx1 σ = some (r, u)) : W p l e rmX9_read s m args below meth c H locs 0 0 (MQ below (gQi D vwCl r (gS 39 q (MX cy q) u) (gA 39 q)) args s 0 0 (gA 39 q)) (F0 m 41 ls [.int sx1, .ref (q (0))]) := by
  obtain ⟨hx, hb, hr, hml, hown, hts, hlocks⟩ := id C0
  unfold sX9_read_41 at hp
  refine g_put (v := sx1) hx hb hts miX9_read_X9 tyX9 tyX9_ok nmX9 hown hK hJ hP hS (kk_Mod) (ce_Mod) rfl 0 (by decide) mwX9_read_0 rfl rfl rfl (Nat.le_of_ble_eq_true rfl) rfl dX9_read_41 (fun H locs hP hS => ?_)
  refine lv_aload_n hx hb dX9_read_44 rfl (lv_at hl 0 rfl) ?_
  refine g_get (v := .int ((st2 σ 0 0 sx1) 0 0)) hx hb hts miX9_read_X9 hown hK hP (kk_Mod) (ce_Mod) rfl 0 (by decide) mwX9_read_0 rfl dX9_read_45 ?_
  refine lv_if_le (tgt := 53) hx hb dX9_read_48 (by decide) (fun hcd1 => ?_) (fun hcd1 => ?_)
  · have hp := o_t hp hcd1
    refine lv_aload_n hx hb dX9_read_53 rfl (lv_at hl 0 rfl) ?_
    refine g_get (v := .ref (q (25))) hx hb hts miX9_read_X9 hown hK hP (kk_Mod) (ce_Mod) rfl 27 (by decide) mwX9_read_1 rfl dX9_read_54 ?_
    refine lv_iload_n hx hb dX9_read_57 rfl (lv_at hl 1 rfl) ?_
    refine lv_iconst (v := (3 : Int32)) hx hb dX9_read_58 (by decide) ?_
    refine lv_imul hx hb dX9_read_59 ?_
    refine lv_iload_n hx hb dX9_read_60 rfl (lv_at hl 2 rfl) ?_
    obtain ⟨hi2, hp⟩ := o_chk hp
    refine g_iast (j := (x1 * ((3 : Int32))).toNatClampNeg) hx hb hK hJ hP hS (kk_M_readings) (ce_M_readings) 0 rfl (vin_of hi2) rfl dX9_read_61 (fun H locs hP hS => ?_)
    refine lv_aload_n hx hb dX9_read_62 rfl (lv_at hl 0 rfl) ?_
    refine g_get (v := .ref (q (25))) hx hb hts miX9_read_X9 hown hK hP (kk_Mod) (ce_Mod) rfl 27 (by decide) mwX9_read_1 rfl dX9_read_63 ?_
    refine lv_iload_n hx hb dX9_read_66 rfl (lv_at hl 1 rfl) ?_
    refine lv_iconst (v := (3 : Int32)) hx hb dX9_read_67 (by decide) ?_
    refine lv_imul hx hb dX9_read_68 ?_
    refine lv_iconst (v := (1 : Int32)) hx hb dX9_read_69 (by decide) ?_
    refine lv_iadd hx hb dX9_read_70 ?_
    refine lv_iload_n hx hb dX9_read_71 rfl (lv_at hl 3 rfl) ?_
    obtain ⟨hi3, hp⟩ := o_chk hp
    refine g_iast (j := ((x1 * ((3 : Int32))) + ((1 : Int32))).toNatClampNeg) hx hb hK hJ hP hS (kk_M_readings) (ce_M_readings) 0 rfl (vin_of hi3) rfl dX9_read_72 (fun H locs hP hS => ?_)
    refine lv_aload_n hx hb dX9_read_73 rfl (lv_at hl 0 rfl) ?_
    refine g_get (v := .ref (q (25))) hx hb hts miX9_read_X9 hown hK hP (kk_Mod) (ce_Mod) rfl 27 (by decide) mwX9_read_1 rfl dX9_read_74 ?_
    refine lv_iload_n hx hb dX9_read_77 rfl (lv_at hl 1 rfl) ?_
    refine lv_iconst (v := (3 : Int32)) hx hb dX9_read_78 (by decide) ?_
    refine lv_imul hx hb dX9_read_79 ?_
    refine lv_iconst (v := (2 : Int32)) hx hb dX9_read_80 (by decide) ?_
    refine lv_iadd hx hb dX9_read_81 ?_
    refine lv_iload hx hb dX9_read_82 (lv_at hl 4 rfl) ?_
    obtain ⟨hi4, hp⟩ := o_chk hp
    refine g_iast (j := ((x1 * ((3 : Int32))) + ((2 : Int32))).toNatClampNeg) hx hb hK hJ hP hS (kk_M_readings) (ce_M_readings) 0 rfl (vin_of hi4) rfl dX9_read_84 (fun H locs hP hS => ?_)
    refine lv_iload_n hx hb dX9_read_85 rfl (lv_at hl 2 rfl) ?_
    refine lv_iload_n hx hb dX9_read_86 rfl (lv_at hl 3 rfl) ?_
    refine lv_iload hx hb dX9_read_87 (lv_at hl 4 rfl) ?_
    obtain ⟨⟨r5, u6⟩, hq7, hp⟩ := o_b hp
    refine g_cSi (As := [.int x2, .int x3, .int x4]) (rest := []) hx hb hml hown hts hK hP hS (mX9_middle l hJ hq7) (va_cwS 3 hts gX9_read_X9_middle rfl rfl rfl nVX9_middle ⟨Nat.le_of_ble_eq_true rfl, Nat.le_of_ble_eq_true rfl⟩) rfl hl.1 rfl (Nat.le_of_ble_eq_true rfl) dX9_read_89 ⟨Nat.le_of_ble_eq_true rfl, Nat.le_of_ble_eq_true rfl⟩ (fun H locs hP hS => ?_)
    exact kX9_read_92 C0 hK hJ  hP hS (lv_sub hl [] rfl) hp
  · have hp := o_f hp hcd1
    refine lv_iconst (v := (0 : Int32)) hx hb dX9_read_51 (by decide) ?_
    obtain ⟨rfl, rfl⟩ := o_r hp
    exact W.iret (v := (0 : Int32)) hx hb hr (fun t ht hW => ⟨⟨(0 : Int32), (), rfl, rfl, by subst ht; exact hP⟩, hS.F ht⟩) hS.2.2 dX9_read_52
def sX9_read_40 (x1 : Int32) (x2 : Int32) (x3 : Int32) (x4 : Int32) (σ : TS) : Option (Int32 × TS) := sX9_read_41 x1 x2 x3 x4 ((2 : Int32)) σ
set_option maxHeartbeats 4000000 in
set_option maxRecDepth 100000 in
theorem kX9_read_40 {r : Int32} {u : TS} (C0 : gC RX9 cX9_read 5 ((some .int)) wsX9_read p s m args meth c) (hK : va_K D vwCl (tyL cy) s) (hJ : gJ 39 q) {H : Heap} {locs : List Loc} {σ : TS} {x1 : Int32} {x2 : Int32} {x3 : Int32} {x4 : Int32} (hP : va_P D vwCl (gS 39 q (MX cy q) σ) H) (hS : va_S (gA 39 q) s.heap H locs) {ls : Array Slot} (hl : lv_has ls 5 [(0, .ref (q (0))), (1, .int x1), (2, .int x2), (3, .int x3), (4, .int x4)]) (hp : sX9_read_40 x1 x2 x3 x4 σ = some (r, u)) : W p l e rmX9_read s m args below meth c H locs 0 0 (MQ below (gQi D vwCl r (gS 39 q (MX cy q) u) (gA 39 q)) args s 0 0 (gA 39 q)) (F0 m 40 ls [.ref (q (0))]) := by
  obtain ⟨hx, hb, hr, hml, hown, hts, hlocks⟩ := id C0
  unfold sX9_read_40 at hp
  refine lv_iconst (v := (2 : Int32)) hx hb dX9_read_40 (by decide) ?_
  exact kX9_read_41 C0 hK hJ  hP hS hl hp
def sX9_read_33 (x1 : Int32) (x2 : Int32) (x3 : Int32) (x4 : Int32) (sx1 : Int32) (σ : TS) : Option (Int32 × TS) := (if sx1 = 0 then sX9_read_40 x1 x2 x3 x4 σ else sX9_read_41 x1 x2 x3 x4 ((0 : Int32)) σ)
set_option maxHeartbeats 4000000 in
set_option maxRecDepth 100000 in
theorem kX9_read_33 {r : Int32} {u : TS} (C0 : gC RX9 cX9_read 5 ((some .int)) wsX9_read p s m args meth c) (hK : va_K D vwCl (tyL cy) s) (hJ : gJ 39 q) {H : Heap} {locs : List Loc} {σ : TS} {x1 : Int32} {x2 : Int32} {x3 : Int32} {x4 : Int32} {sx1 : Int32} (hP : va_P D vwCl (gS 39 q (MX cy q) σ) H) (hS : va_S (gA 39 q) s.heap H locs) {ls : Array Slot} (hl : lv_has ls 5 [(0, .ref (q (0))), (1, .int x1), (2, .int x2), (3, .int x3), (4, .int x4)]) (hp : sX9_read_33 x1 x2 x3 x4 sx1 σ = some (r, u)) : W p l e rmX9_read s m args below meth c H locs 0 0 (MQ below (gQi D vwCl r (gS 39 q (MX cy q) u) (gA 39 q)) args s 0 0 (gA 39 q)) (F0 m 33 ls [.int sx1, .ref (q (0))]) := by
  obtain ⟨hx, hb, hr, hml, hown, hts, hlocks⟩ := id C0
  unfold sX9_read_33 at hp
  refine lv_if_eq (tgt := 40) hx hb dX9_read_33 (by decide) (fun hcd8 => ?_) (fun hcd8 => ?_)
  · have hp := o_t hp hcd8
    exact kX9_read_40 C0 hK hJ  hP hS hl hp
  · have hp := o_f hp hcd8
    refine lv_iconst (v := (0 : Int32)) hx hb dX9_read_36 (by decide) ?_
    refine lv_goto (tgt := 41) hx hb dX9_read_37 (by decide) ?_
    exact kX9_read_41 C0 hK hJ  hP hS hl hp
def sX9_read_25 (x1 : Int32) (x2 : Int32) (x3 : Int32) (x4 : Int32) (sx1 : Int32) (σ : TS) : Option (Int32 × TS) := (if sx1 = 0 then sX9_read_40 x1 x2 x3 x4 σ else ((sX9_isNumber x4 σ).bind (fun z => sX9_read_33 x1 x2 x3 x4 z.1 z.2)))
set_option maxHeartbeats 4000000 in
set_option maxRecDepth 100000 in
theorem kX9_read_25 {r : Int32} {u : TS} (C0 : gC RX9 cX9_read 5 ((some .int)) wsX9_read p s m args meth c) (hK : va_K D vwCl (tyL cy) s) (hJ : gJ 39 q) {H : Heap} {locs : List Loc} {σ : TS} {x1 : Int32} {x2 : Int32} {x3 : Int32} {x4 : Int32} {sx1 : Int32} (hP : va_P D vwCl (gS 39 q (MX cy q) σ) H) (hS : va_S (gA 39 q) s.heap H locs) {ls : Array Slot} (hl : lv_has ls 5 [(0, .ref (q (0))), (1, .int x1), (2, .int x2), (3, .int x3), (4, .int x4)]) (hp : sX9_read_25 x1 x2 x3 x4 sx1 σ = some (r, u)) : W p l e rmX9_read s m args below meth c H locs 0 0 (MQ below (gQi D vwCl r (gS 39 q (MX cy q) u) (gA 39 q)) args s 0 0 (gA 39 q)) (F0 m 25 ls [.int sx1, .ref (q (0))]) := by
  obtain ⟨hx, hb, hr, hml, hown, hts, hlocks⟩ := id C0
  unfold sX9_read_25 at hp
  refine lv_if_eq (tgt := 40) hx hb dX9_read_25 (by decide) (fun hcd9 => ?_) (fun hcd9 => ?_)
  · have hp := o_t hp hcd9
    exact kX9_read_40 C0 hK hJ  hP hS hl hp
  · have hp := o_f hp hcd9
    refine lv_iload hx hb dX9_read_28 (lv_at hl 4 rfl) ?_
    obtain ⟨⟨r10, u11⟩, hq12, hp⟩ := o_b hp
    refine g_cSi (As := [.int x4]) (rest := [.ref (q (0))]) hx hb hml hown hts hK hP hS (mX9_isNumber l hJ hq12) (va_cwS 1 hts gX9_read_X9_isNumber rfl rfl rfl nVX9_isNumber ⟨Nat.le_of_ble_eq_true rfl, Nat.le_of_ble_eq_true rfl⟩) rfl hl.1 rfl (Nat.le_of_ble_eq_true rfl) dX9_read_30 ⟨Nat.le_of_ble_eq_true rfl, Nat.le_of_ble_eq_true rfl⟩ (fun H locs hP hS => ?_)
    exact kX9_read_33 C0 hK hJ  hP hS hl hp
def sX9_read_18 (x1 : Int32) (x2 : Int32) (x3 : Int32) (x4 : Int32) (sx1 : Int32) (σ : TS) : Option (Int32 × TS) := (if sx1 = 0 then sX9_read_40 x1 x2 x3 x4 σ else ((sX9_isNumber x3 σ).bind (fun z => sX9_read_25 x1 x2 x3 x4 z.1 z.2)))
set_option maxHeartbeats 4000000 in
set_option maxRecDepth 100000 in
theorem kX9_read_18 {r : Int32} {u : TS} (C0 : gC RX9 cX9_read 5 ((some .int)) wsX9_read p s m args meth c) (hK : va_K D vwCl (tyL cy) s) (hJ : gJ 39 q) {H : Heap} {locs : List Loc} {σ : TS} {x1 : Int32} {x2 : Int32} {x3 : Int32} {x4 : Int32} {sx1 : Int32} (hP : va_P D vwCl (gS 39 q (MX cy q) σ) H) (hS : va_S (gA 39 q) s.heap H locs) {ls : Array Slot} (hl : lv_has ls 5 [(0, .ref (q (0))), (1, .int x1), (2, .int x2), (3, .int x3), (4, .int x4)]) (hp : sX9_read_18 x1 x2 x3 x4 sx1 σ = some (r, u)) : W p l e rmX9_read s m args below meth c H locs 0 0 (MQ below (gQi D vwCl r (gS 39 q (MX cy q) u) (gA 39 q)) args s 0 0 (gA 39 q)) (F0 m 18 ls [.int sx1, .ref (q (0))]) := by
  obtain ⟨hx, hb, hr, hml, hown, hts, hlocks⟩ := id C0
  unfold sX9_read_18 at hp
  refine lv_if_eq (tgt := 40) hx hb dX9_read_18 (by decide) (fun hcd13 => ?_) (fun hcd13 => ?_)
  · have hp := o_t hp hcd13
    exact kX9_read_40 C0 hK hJ  hP hS hl hp
  · have hp := o_f hp hcd13
    refine lv_iload_n hx hb dX9_read_21 rfl (lv_at hl 3 rfl) ?_
    obtain ⟨⟨r14, u15⟩, hq16, hp⟩ := o_b hp
    refine g_cSi (As := [.int x3]) (rest := [.ref (q (0))]) hx hb hml hown hts hK hP hS (mX9_isNumber l hJ hq16) (va_cwS 1 hts gX9_read_X9_isNumber rfl rfl rfl nVX9_isNumber ⟨Nat.le_of_ble_eq_true rfl, Nat.le_of_ble_eq_true rfl⟩) rfl hl.1 rfl (Nat.le_of_ble_eq_true rfl) dX9_read_22 ⟨Nat.le_of_ble_eq_true rfl, Nat.le_of_ble_eq_true rfl⟩ (fun H locs hP hS => ?_)
    exact kX9_read_25 C0 hK hJ  hP hS hl hp
def sX9_read_8 (x1 : Int32) (x2 : Int32) (x3 : Int32) (x4 : Int32) (sx0 : Int32) (σ : TS) : Option (Int32 × TS) := (if sx0 = 0 then ((sX9_isNumber x2 σ).bind (fun z => sX9_read_18 x1 x2 x3 x4 z.1 z.2)) else some ((0 : Int32), σ))
set_option maxHeartbeats 4000000 in
set_option maxRecDepth 100000 in
theorem kX9_read_8 {r : Int32} {u : TS} (C0 : gC RX9 cX9_read 5 ((some .int)) wsX9_read p s m args meth c) (hK : va_K D vwCl (tyL cy) s) (hJ : gJ 39 q) {H : Heap} {locs : List Loc} {σ : TS} {x1 : Int32} {x2 : Int32} {x3 : Int32} {x4 : Int32} {sx0 : Int32} (hP : va_P D vwCl (gS 39 q (MX cy q) σ) H) (hS : va_S (gA 39 q) s.heap H locs) {ls : Array Slot} (hl : lv_has ls 5 [(0, .ref (q (0))), (1, .int x1), (2, .int x2), (3, .int x3), (4, .int x4)]) (hp : sX9_read_8 x1 x2 x3 x4 sx0 σ = some (r, u)) : W p l e rmX9_read s m args below meth c H locs 0 0 (MQ below (gQi D vwCl r (gS 39 q (MX cy q) u) (gA 39 q)) args s 0 0 (gA 39 q)) (F0 m 8 ls [.int sx0]) := by
  obtain ⟨hx, hb, hr, hml, hown, hts, hlocks⟩ := id C0
  unfold sX9_read_8 at hp
  refine lv_if_eq (tgt := 13) hx hb dX9_read_8 (by decide) (fun hcd17 => ?_) (fun hcd17 => ?_)
  · have hp := o_t hp hcd17
    refine lv_aload_n hx hb dX9_read_13 rfl (lv_at hl 0 rfl) ?_
    refine lv_iload_n hx hb dX9_read_14 rfl (lv_at hl 2 rfl) ?_
    obtain ⟨⟨r18, u19⟩, hq20, hp⟩ := o_b hp
    refine g_cSi (As := [.int x2]) (rest := [.ref (q (0))]) hx hb hml hown hts hK hP hS (mX9_isNumber l hJ hq20) (va_cwS 1 hts gX9_read_X9_isNumber rfl rfl rfl nVX9_isNumber ⟨Nat.le_of_ble_eq_true rfl, Nat.le_of_ble_eq_true rfl⟩) rfl hl.1 rfl (Nat.le_of_ble_eq_true rfl) dX9_read_15 ⟨Nat.le_of_ble_eq_true rfl, Nat.le_of_ble_eq_true rfl⟩ (fun H locs hP hS => ?_)
    exact kX9_read_18 C0 hK hJ  hP hS hl hp
  · have hp := o_f hp hcd17
    refine lv_iconst (v := (0 : Int32)) hx hb dX9_read_11 (by decide) ?_
    obtain ⟨rfl, rfl⟩ := o_r hp
    exact W.iret (v := (0 : Int32)) hx hb hr (fun t ht hW => ⟨⟨(0 : Int32), (), rfl, rfl, by subst ht; exact hP⟩, hS.F ht⟩) hS.2.2 dX9_read_12
def sX9_read_5 (x1 : Int32) (x2 : Int32) (x3 : Int32) (x4 : Int32) (sx1 : Int32) (σ : TS) : Option (Int32 × TS) := ((sX9_isOut sx1 σ).bind (fun z => sX9_read_8 x1 x2 x3 x4 z.1 z.2))
set_option maxHeartbeats 4000000 in
set_option maxRecDepth 100000 in
theorem kX9_read_5 {r : Int32} {u : TS} (C0 : gC RX9 cX9_read 5 ((some .int)) wsX9_read p s m args meth c) (hK : va_K D vwCl (tyL cy) s) (hJ : gJ 39 q) {H : Heap} {locs : List Loc} {σ : TS} {x1 : Int32} {x2 : Int32} {x3 : Int32} {x4 : Int32} {sx1 : Int32} (hP : va_P D vwCl (gS 39 q (MX cy q) σ) H) (hS : va_S (gA 39 q) s.heap H locs) {ls : Array Slot} (hl : lv_has ls 5 [(0, .ref (q (0))), (1, .int x1), (2, .int x2), (3, .int x3), (4, .int x4)]) (hp : sX9_read_5 x1 x2 x3 x4 sx1 σ = some (r, u)) : W p l e rmX9_read s m args below meth c H locs 0 0 (MQ below (gQi D vwCl r (gS 39 q (MX cy q) u) (gA 39 q)) args s 0 0 (gA 39 q)) (F0 m 5 ls [.int sx1, .ref (q (0))]) := by
  obtain ⟨hx, hb, hr, hml, hown, hts, hlocks⟩ := id C0
  unfold sX9_read_5 at hp
  obtain ⟨⟨r21, u22⟩, hq23, hp⟩ := o_b hp
  refine g_cVi (As := [.int sx1]) (rest := []) hx hb hml hown hts hK hP hS (mX9_isOut l hJ hq23) (cwV 1 hts gX9_read_X9_isOut rfl rfl rfl nVX9_isOut ⟨Nat.le_of_ble_eq_true rfl, Nat.le_of_ble_eq_true rfl⟩) (g_recv hK hP (kk_Mod) (ce_Mod) rfl) rfl hl.1 rfl (Nat.le_of_ble_eq_true rfl) dX9_read_5 ⟨Nat.le_of_ble_eq_true rfl, Nat.le_of_ble_eq_true rfl⟩ (fun H locs hP hS => ?_)
  exact kX9_read_8 C0 hK hJ  hP hS hl hp
def sX9_read_0 (x1 : Int32) (x2 : Int32) (x3 : Int32) (x4 : Int32) (σ : TS) : Option (Int32 × TS) := ((sX9_isFour x1 σ).bind (fun z => sX9_read_5 x1 x2 x3 x4 z.1 z.2))
set_option maxHeartbeats 4000000 in
set_option maxRecDepth 100000 in
theorem kX9_read_0 {r : Int32} {u : TS} (C0 : gC RX9 cX9_read 5 ((some .int)) wsX9_read p s m args meth c) (hK : va_K D vwCl (tyL cy) s) (hJ : gJ 39 q) {H : Heap} {locs : List Loc} {σ : TS} {x1 : Int32} {x2 : Int32} {x3 : Int32} {x4 : Int32} (hP : va_P D vwCl (gS 39 q (MX cy q) σ) H) (hS : va_S (gA 39 q) s.heap H locs) {ls : Array Slot} (hl : lv_has ls 5 [(0, .ref (q (0))), (1, .int x1), (2, .int x2), (3, .int x3), (4, .int x4)]) (hp : sX9_read_0 x1 x2 x3 x4 σ = some (r, u)) : W p l e rmX9_read s m args below meth c H locs 0 0 (MQ below (gQi D vwCl r (gS 39 q (MX cy q) u) (gA 39 q)) args s 0 0 (gA 39 q)) (F0 m 0 ls []) := by
  obtain ⟨hx, hb, hr, hml, hown, hts, hlocks⟩ := id C0
  unfold sX9_read_0 at hp
  refine lv_aload_n hx hb dX9_read_0 rfl (lv_at hl 0 rfl) ?_
  refine lv_iload_n hx hb dX9_read_1 rfl (lv_at hl 1 rfl) ?_
  obtain ⟨⟨r24, u25⟩, hq26, hp⟩ := o_b hp
  refine g_cSi (As := [.int x1]) (rest := [.ref (q (0))]) hx hb hml hown hts hK hP hS (mX9_isFour l hJ hq26) (va_cwS 1 hts gX9_read_X9_isFour rfl rfl rfl nVX9_isFour ⟨Nat.le_of_ble_eq_true rfl, Nat.le_of_ble_eq_true rfl⟩) rfl hl.1 rfl (Nat.le_of_ble_eq_true rfl) dX9_read_2 ⟨Nat.le_of_ble_eq_true rfl, Nat.le_of_ble_eq_true rfl⟩ (fun H locs hP hS => ?_)
  exact kX9_read_5 C0 hK hJ  hP hS hl hp
def sX9_read (x1 : Int32) (x2 : Int32) (x3 : Int32) (x4 : Int32) (σ : TS) : Option (Int32 × TS) := sX9_read_0 x1 x2 x3 x4 σ
theorem nVX9_read : yX9_read.cls = RX9 ∧ yX9_read.cls ≠ "java/lang/invoke/MethodHandle" ∧ yX9_read.cls ≠ "java/lang/invoke/VarHandle" ∧ (parseMethodDescriptor yX9_read.desc).map (fun d => d.parameters.length) = some 4 := by decide +kernel
set_option maxHeartbeats 4000000 in
set_option maxRecDepth 100000 in
theorem mX9_read (l : Launch) (hJ : gJ 39 q) {x1 : Int32} {x2 : Int32} {x3 : Int32} {x4 : Int32} {σ : TS} {r : Int32} {u : TS} (hp : sX9_read x1 x2 x3 x4 σ = some (r, u)) : Met l yX9_read wsX9_read rmX9_read (va_Pc [.ref (q (0)), .int x1, .int x2, .int x3, .int x4] (gPre D vwCl (tyL cy) (gS 39 q (MX cy q) σ))) (gQi D vwCl r (gS 39 q (MX cy q) u) (gA 39 q)) 0 0 (gA 39 q) := by
  refine Met.ofW (cc := cX9_read) (maxL := 5) (ret := (some .int)) (by decide +kernel) rfl ?_
  intro p e s m args below meth c s₁ B hml hv
  obtain ⟨rfl, hP, hK⟩ := hv
  have hl := lv_entry ([.ref (q (0)), .int x1, .int x2, .int x3, .int x4]) (n := 5) (Nat.le_of_ble_eq_true rfl)
  rw [lg_entry_eq]
  generalize (lg_sl ([.ref (q (0)), .int x1, .int x2, .int x3, .int x4]) ++ List.replicate (5 - (lg_sl ([.ref (q (0)), .int x1, .int x2, .int x3, .int x4])).length) Slot.unset).toArray = ls at hl ⊢
  have hl : lv_has ls 5 [(0, .ref (q (0))), (1, .int x1), (2, .int x2), (3, .int x3), (4, .int x4)] := hl
  exact kX9_read_0 ⟨B.exec, B.bytes, B.returns, hml, findClass_of_methodNamed B.named, atoms_spec (ws := wsX9_read) B.pre, B.notSynchronized⟩ hK hJ  hP va_S.rf hl hp
theorem miX9_limit_X9 : ∀ w ∈ u_ws RX9 TX9 44, w ∈ wsX9_limit := by decide +kernel
theorem mwX9_limit_0 : Cond.fieldLink RX9 130 "TriplaneModel" "thrown" "I" ∈ wsX9_limit := by decide +kernel
theorem mwX9_limit_1 : Cond.fieldLink RX9 87 "TriplaneModel" "lessLimits" "[I" ∈ wsX9_limit := by decide +kernel
abbrev rmX9_limit : Room := { frames := 2, cells := 0, slots := 0, locals := 42 }
def sX9_limit_30 (x1 : Int32) (x2 : Int32) (sx1 : Int32) (σ : TS) : Option (Int32 × TS) := (if ((st2 σ 0 0 sx1) 0 0) ≤ 0 then (if vin x1 4 = true then some (((32767 : Int32)) - ((st2 σ 0 0 sx1) 26 (x1.toNatClampNeg)), st2 (st2 σ 0 0 sx1) 26 (x1.toNatClampNeg) (((32767 : Int32)) - x2)) else none) else some ((0 : Int32), st2 σ 0 0 sx1))
set_option maxHeartbeats 4000000 in
set_option maxRecDepth 100000 in
theorem kX9_limit_30 {r : Int32} {u : TS} (C0 : gC RX9 cX9_limit 4 ((some .int)) wsX9_limit p s m args meth c) (hK : va_K D vwCl (tyL cy) s) (hJ : gJ 39 q) {H : Heap} {locs : List Loc} {σ : TS} {x1 : Int32} {x2 : Int32} {sx1 : Int32} (hP : va_P D vwCl (gS 39 q (MX cy q) σ) H) (hS : va_S (gA 39 q) s.heap H locs) {ls : Array Slot} (hl : lv_has ls 4 [(0, .ref (q (0))), (1, .int x1), (2, .int x2)]) (hp : sX9_limit_30 x1 x2 sx1 σ = some (r, u)) : W p l e rmX9_limit s m args below meth c H locs 0 0 (MQ below (gQi D vwCl r (gS 39 q (MX cy q) u) (gA 39 q)) args s 0 0 (gA 39 q)) (F0 m 30 ls [.int sx1, .ref (q (0))]) := by
  obtain ⟨hx, hb, hr, hml, hown, hts, hlocks⟩ := id C0
  unfold sX9_limit_30 at hp
  refine g_put (v := sx1) hx hb hts miX9_limit_X9 tyX9 tyX9_ok nmX9 hown hK hJ hP hS (kk_Mod) (ce_Mod) rfl 0 (by decide) mwX9_limit_0 rfl rfl rfl (Nat.le_of_ble_eq_true rfl) rfl dX9_limit_30 (fun H locs hP hS => ?_)
  refine lv_aload_n hx hb dX9_limit_33 rfl (lv_at hl 0 rfl) ?_
  refine g_get (v := .int ((st2 σ 0 0 sx1) 0 0)) hx hb hts miX9_limit_X9 hown hK hP (kk_Mod) (ce_Mod) rfl 0 (by decide) mwX9_limit_0 rfl dX9_limit_34 ?_
  refine lv_if_le (tgt := 42) hx hb dX9_limit_37 (by decide) (fun hcd1 => ?_) (fun hcd1 => ?_)
  · have hp := o_t hp hcd1
    refine lv_sipush (v := (32767 : Int32)) hx hb dX9_limit_42 (by decide) ?_
    refine lv_aload_n hx hb dX9_limit_45 rfl (lv_at hl 0 rfl) ?_
    refine g_get (v := .ref (q (26))) hx hb hts miX9_limit_X9 hown hK hP (kk_Mod) (ce_Mod) rfl 28 (by decide) mwX9_limit_1 rfl dX9_limit_46 ?_
    refine lv_iload_n hx hb dX9_limit_49 rfl (lv_at hl 1 rfl) ?_
    obtain ⟨hi2, hp⟩ := o_chk hp
    refine g_iald (j := x1.toNatClampNeg) hx hb hK hP (kk_M_lessLimits) (ce_M_lessLimits) 0 rfl (vin_of hi2) rfl dX9_limit_50 ?_
    refine lv_isub hx hb dX9_limit_51 ?_
    refine lv_istore_n (lv' := [(3, .int (((32767 : Int32)) - ((st2 σ 0 0 sx1) 26 (x1.toNatClampNeg)))), (0, .ref (q (0))), (1, .int x1), (2, .int x2)]) hx hb dX9_limit_52 rfl hl (by decide) rfl (fun ls hl => ?_)
    refine lv_aload_n hx hb dX9_limit_53 rfl (lv_at hl 1 rfl) ?_
    refine g_get (v := .ref (q (26))) hx hb hts miX9_limit_X9 hown hK hP (kk_Mod) (ce_Mod) rfl 28 (by decide) mwX9_limit_1 rfl dX9_limit_54 ?_
    refine lv_iload_n hx hb dX9_limit_57 rfl (lv_at hl 2 rfl) ?_
    refine lv_sipush (v := (32767 : Int32)) hx hb dX9_limit_58 (by decide) ?_
    refine lv_iload_n hx hb dX9_limit_61 rfl (lv_at hl 3 rfl) ?_
    refine lv_isub hx hb dX9_limit_62 ?_
    refine g_iast (j := x1.toNatClampNeg) hx hb hK hJ hP hS (kk_M_lessLimits) (ce_M_lessLimits) 0 rfl (vin_of hi2) rfl dX9_limit_63 (fun H locs hP hS => ?_)
    refine lv_iload_n hx hb dX9_limit_64 rfl (lv_at hl 0 rfl) ?_
    obtain ⟨rfl, rfl⟩ := o_r hp
    exact W.iret (v := ((32767 : Int32)) - ((st2 σ 0 0 sx1) 26 (x1.toNatClampNeg))) hx hb hr (fun t ht hW => ⟨⟨((32767 : Int32)) - ((st2 σ 0 0 sx1) 26 (x1.toNatClampNeg)), (), rfl, rfl, by subst ht; exact hP⟩, hS.F ht⟩) hS.2.2 dX9_limit_65
  · have hp := o_f hp hcd1
    refine lv_iconst (v := (0 : Int32)) hx hb dX9_limit_40 (by decide) ?_
    obtain ⟨rfl, rfl⟩ := o_r hp
    exact W.iret (v := (0 : Int32)) hx hb hr (fun t ht hW => ⟨⟨(0 : Int32), (), rfl, rfl, by subst ht; exact hP⟩, hS.F ht⟩) hS.2.2 dX9_limit_41
def sX9_limit_22 (x1 : Int32) (x2 : Int32) (sx1 : Int32) (σ : TS) : Option (Int32 × TS) := (if sx1 = 0 then sX9_limit_30 x1 x2 ((2 : Int32)) σ else sX9_limit_30 x1 x2 ((0 : Int32)) σ)
set_option maxHeartbeats 4000000 in
set_option maxRecDepth 100000 in
theorem kX9_limit_22 {r : Int32} {u : TS} (C0 : gC RX9 cX9_limit 4 ((some .int)) wsX9_limit p s m args meth c) (hK : va_K D vwCl (tyL cy) s) (hJ : gJ 39 q) {H : Heap} {locs : List Loc} {σ : TS} {x1 : Int32} {x2 : Int32} {sx1 : Int32} (hP : va_P D vwCl (gS 39 q (MX cy q) σ) H) (hS : va_S (gA 39 q) s.heap H locs) {ls : Array Slot} (hl : lv_has ls 4 [(0, .ref (q (0))), (1, .int x1), (2, .int x2)]) (hp : sX9_limit_22 x1 x2 sx1 σ = some (r, u)) : W p l e rmX9_limit s m args below meth c H locs 0 0 (MQ below (gQi D vwCl r (gS 39 q (MX cy q) u) (gA 39 q)) args s 0 0 (gA 39 q)) (F0 m 22 ls [.int sx1, .ref (q (0))]) := by
  obtain ⟨hx, hb, hr, hml, hown, hts, hlocks⟩ := id C0
  unfold sX9_limit_22 at hp
  refine lv_if_eq (tgt := 29) hx hb dX9_limit_22 (by decide) (fun hcd3 => ?_) (fun hcd3 => ?_)
  · have hp := o_t hp hcd3
    refine lv_iconst (v := (2 : Int32)) hx hb dX9_limit_29 (by decide) ?_
    exact kX9_limit_30 C0 hK hJ  hP hS hl hp
  · have hp := o_f hp hcd3
    refine lv_iconst (v := (0 : Int32)) hx hb dX9_limit_25 (by decide) ?_
    refine lv_goto (tgt := 30) hx hb dX9_limit_26 (by decide) ?_
    exact kX9_limit_30 C0 hK hJ  hP hS hl hp
def sX9_limit_8 (x1 : Int32) (x2 : Int32) (sx0 : Int32) (σ : TS) : Option (Int32 × TS) := (if sx0 = 0 then ((sX9_in x2 ((0 : Int32)) ((32767 : Int32)) σ).bind (fun z => sX9_limit_22 x1 x2 z.1 z.2)) else some ((0 : Int32), σ))
set_option maxHeartbeats 4000000 in
set_option maxRecDepth 100000 in
theorem kX9_limit_8 {r : Int32} {u : TS} (C0 : gC RX9 cX9_limit 4 ((some .int)) wsX9_limit p s m args meth c) (hK : va_K D vwCl (tyL cy) s) (hJ : gJ 39 q) {H : Heap} {locs : List Loc} {σ : TS} {x1 : Int32} {x2 : Int32} {sx0 : Int32} (hP : va_P D vwCl (gS 39 q (MX cy q) σ) H) (hS : va_S (gA 39 q) s.heap H locs) {ls : Array Slot} (hl : lv_has ls 4 [(0, .ref (q (0))), (1, .int x1), (2, .int x2)]) (hp : sX9_limit_8 x1 x2 sx0 σ = some (r, u)) : W p l e rmX9_limit s m args below meth c H locs 0 0 (MQ below (gQi D vwCl r (gS 39 q (MX cy q) u) (gA 39 q)) args s 0 0 (gA 39 q)) (F0 m 8 ls [.int sx0]) := by
  obtain ⟨hx, hb, hr, hml, hown, hts, hlocks⟩ := id C0
  unfold sX9_limit_8 at hp
  refine lv_if_eq (tgt := 13) hx hb dX9_limit_8 (by decide) (fun hcd4 => ?_) (fun hcd4 => ?_)
  · have hp := o_t hp hcd4
    refine lv_aload_n hx hb dX9_limit_13 rfl (lv_at hl 0 rfl) ?_
    refine lv_iload_n hx hb dX9_limit_14 rfl (lv_at hl 2 rfl) ?_
    refine lv_iconst (v := (0 : Int32)) hx hb dX9_limit_15 (by decide) ?_
    refine lv_sipush (v := (32767 : Int32)) hx hb dX9_limit_16 (by decide) ?_
    obtain ⟨⟨r5, u6⟩, hq7, hp⟩ := o_b hp
    refine g_cSi (As := [.int x2, .int ((0 : Int32)), .int ((32767 : Int32))]) (rest := [.ref (q (0))]) hx hb hml hown hts hK hP hS (mX9_in l hJ hq7) (va_cwS 3 hts gX9_limit_X9_in rfl rfl rfl nVX9_in ⟨Nat.le_of_ble_eq_true rfl, Nat.le_of_ble_eq_true rfl⟩) rfl hl.1 rfl (Nat.le_of_ble_eq_true rfl) dX9_limit_19 ⟨Nat.le_of_ble_eq_true rfl, Nat.le_of_ble_eq_true rfl⟩ (fun H locs hP hS => ?_)
    exact kX9_limit_22 C0 hK hJ  hP hS hl hp
  · have hp := o_f hp hcd4
    refine lv_iconst (v := (0 : Int32)) hx hb dX9_limit_11 (by decide) ?_
    obtain ⟨rfl, rfl⟩ := o_r hp
    exact W.iret (v := (0 : Int32)) hx hb hr (fun t ht hW => ⟨⟨(0 : Int32), (), rfl, rfl, by subst ht; exact hP⟩, hS.F ht⟩) hS.2.2 dX9_limit_12
def sX9_limit_5 (x1 : Int32) (x2 : Int32) (sx1 : Int32) (σ : TS) : Option (Int32 × TS) := ((sX9_isOut sx1 σ).bind (fun z => sX9_limit_8 x1 x2 z.1 z.2))
set_option maxHeartbeats 4000000 in
set_option maxRecDepth 100000 in
theorem kX9_limit_5 {r : Int32} {u : TS} (C0 : gC RX9 cX9_limit 4 ((some .int)) wsX9_limit p s m args meth c) (hK : va_K D vwCl (tyL cy) s) (hJ : gJ 39 q) {H : Heap} {locs : List Loc} {σ : TS} {x1 : Int32} {x2 : Int32} {sx1 : Int32} (hP : va_P D vwCl (gS 39 q (MX cy q) σ) H) (hS : va_S (gA 39 q) s.heap H locs) {ls : Array Slot} (hl : lv_has ls 4 [(0, .ref (q (0))), (1, .int x1), (2, .int x2)]) (hp : sX9_limit_5 x1 x2 sx1 σ = some (r, u)) : W p l e rmX9_limit s m args below meth c H locs 0 0 (MQ below (gQi D vwCl r (gS 39 q (MX cy q) u) (gA 39 q)) args s 0 0 (gA 39 q)) (F0 m 5 ls [.int sx1, .ref (q (0))]) := by
  obtain ⟨hx, hb, hr, hml, hown, hts, hlocks⟩ := id C0
  unfold sX9_limit_5 at hp
  obtain ⟨⟨r8, u9⟩, hq10, hp⟩ := o_b hp
  refine g_cVi (As := [.int sx1]) (rest := []) hx hb hml hown hts hK hP hS (mX9_isOut l hJ hq10) (cwV 1 hts gX9_limit_X9_isOut rfl rfl rfl nVX9_isOut ⟨Nat.le_of_ble_eq_true rfl, Nat.le_of_ble_eq_true rfl⟩) (g_recv hK hP (kk_Mod) (ce_Mod) rfl) rfl hl.1 rfl (Nat.le_of_ble_eq_true rfl) dX9_limit_5 ⟨Nat.le_of_ble_eq_true rfl, Nat.le_of_ble_eq_true rfl⟩ (fun H locs hP hS => ?_)
  exact kX9_limit_8 C0 hK hJ  hP hS hl hp
def sX9_limit_0 (x1 : Int32) (x2 : Int32) (σ : TS) : Option (Int32 × TS) := ((sX9_isFour x1 σ).bind (fun z => sX9_limit_5 x1 x2 z.1 z.2))
set_option maxHeartbeats 4000000 in
set_option maxRecDepth 100000 in
theorem kX9_limit_0 {r : Int32} {u : TS} (C0 : gC RX9 cX9_limit 4 ((some .int)) wsX9_limit p s m args meth c) (hK : va_K D vwCl (tyL cy) s) (hJ : gJ 39 q) {H : Heap} {locs : List Loc} {σ : TS} {x1 : Int32} {x2 : Int32} (hP : va_P D vwCl (gS 39 q (MX cy q) σ) H) (hS : va_S (gA 39 q) s.heap H locs) {ls : Array Slot} (hl : lv_has ls 4 [(0, .ref (q (0))), (1, .int x1), (2, .int x2)]) (hp : sX9_limit_0 x1 x2 σ = some (r, u)) : W p l e rmX9_limit s m args below meth c H locs 0 0 (MQ below (gQi D vwCl r (gS 39 q (MX cy q) u) (gA 39 q)) args s 0 0 (gA 39 q)) (F0 m 0 ls []) := by
  obtain ⟨hx, hb, hr, hml, hown, hts, hlocks⟩ := id C0
  unfold sX9_limit_0 at hp
  refine lv_aload_n hx hb dX9_limit_0 rfl (lv_at hl 0 rfl) ?_
  refine lv_iload_n hx hb dX9_limit_1 rfl (lv_at hl 1 rfl) ?_
  obtain ⟨⟨r11, u12⟩, hq13, hp⟩ := o_b hp
  refine g_cSi (As := [.int x1]) (rest := [.ref (q (0))]) hx hb hml hown hts hK hP hS (mX9_isFour l hJ hq13) (va_cwS 1 hts gX9_limit_X9_isFour rfl rfl rfl nVX9_isFour ⟨Nat.le_of_ble_eq_true rfl, Nat.le_of_ble_eq_true rfl⟩) rfl hl.1 rfl (Nat.le_of_ble_eq_true rfl) dX9_limit_2 ⟨Nat.le_of_ble_eq_true rfl, Nat.le_of_ble_eq_true rfl⟩ (fun H locs hP hS => ?_)
  exact kX9_limit_5 C0 hK hJ  hP hS hl hp
def sX9_limit (x1 : Int32) (x2 : Int32) (σ : TS) : Option (Int32 × TS) := sX9_limit_0 x1 x2 σ
theorem nVX9_limit : yX9_limit.cls = RX9 ∧ yX9_limit.cls ≠ "java/lang/invoke/MethodHandle" ∧ yX9_limit.cls ≠ "java/lang/invoke/VarHandle" ∧ (parseMethodDescriptor yX9_limit.desc).map (fun d => d.parameters.length) = some 2 := by decide +kernel
set_option maxHeartbeats 4000000 in
set_option maxRecDepth 100000 in
theorem mX9_limit (l : Launch) (hJ : gJ 39 q) {x1 : Int32} {x2 : Int32} {σ : TS} {r : Int32} {u : TS} (hp : sX9_limit x1 x2 σ = some (r, u)) : Met l yX9_limit wsX9_limit rmX9_limit (va_Pc [.ref (q (0)), .int x1, .int x2] (gPre D vwCl (tyL cy) (gS 39 q (MX cy q) σ))) (gQi D vwCl r (gS 39 q (MX cy q) u) (gA 39 q)) 0 0 (gA 39 q) := by
  refine Met.ofW (cc := cX9_limit) (maxL := 4) (ret := (some .int)) (by decide +kernel) rfl ?_
  intro p e s m args below meth c s₁ B hml hv
  obtain ⟨rfl, hP, hK⟩ := hv
  have hl := lv_entry ([.ref (q (0)), .int x1, .int x2]) (n := 4) (Nat.le_of_ble_eq_true rfl)
  rw [lg_entry_eq]
  generalize (lg_sl ([.ref (q (0)), .int x1, .int x2]) ++ List.replicate (4 - (lg_sl ([.ref (q (0)), .int x1, .int x2])).length) Slot.unset).toArray = ls at hl ⊢
  have hl : lv_has ls 4 [(0, .ref (q (0))), (1, .int x1), (2, .int x2)] := hl
  exact kX9_limit_0 ⟨B.exec, B.bytes, B.returns, hml, findClass_of_methodNamed B.named, atoms_spec (ws := wsX9_limit) B.pre, B.notSynchronized⟩ hK hJ  hP va_S.rf hl hp
theorem miX9_agreed_X9 : ∀ w ∈ u_ws RX9 TX9 44, w ∈ wsX9_agreed := by decide +kernel
theorem mwX9_agreed_0 : Cond.fieldLink RX9 90 "TriplaneModel" "agreed" "[I" ∈ wsX9_agreed := by decide +kernel
abbrev rmX9_agreed : Room := { frames := 2, cells := 0, slots := 0, locals := 42 }
def sX9_agreed_21 (sx0 : Int32) (σ : TS) : Option (Int32 × TS) := some (sx0, σ)
set_option maxHeartbeats 4000000 in
set_option maxRecDepth 100000 in
theorem kX9_agreed_21 {r : Int32} {u : TS} (C0 : gC RX9 cX9_agreed 2 ((some .int)) wsX9_agreed p s m args meth c) (hK : va_K D vwCl (tyL cy) s) (hJ : gJ 39 q) {H : Heap} {locs : List Loc} {σ : TS} {sx0 : Int32} (hP : va_P D vwCl (gS 39 q (MX cy q) σ) H) (hS : va_S (gA 39 q) s.heap H locs) {ls : Array Slot} (hl : lv_has ls 2 []) (hp : sX9_agreed_21 sx0 σ = some (r, u)) : W p l e rmX9_agreed s m args below meth c H locs 0 0 (MQ below (gQi D vwCl r (gS 39 q (MX cy q) u) (gA 39 q)) args s 0 0 (gA 39 q)) (F0 m 21 ls [.int sx0]) := by
  obtain ⟨hx, hb, hr, hml, hown, hts, hlocks⟩ := id C0
  unfold sX9_agreed_21 at hp
  obtain ⟨rfl, rfl⟩ := o_r hp
  exact W.iret (v := sx0) hx hb hr (fun t ht hW => ⟨⟨sx0, (), rfl, rfl, by subst ht; exact hP⟩, hS.F ht⟩) hS.2.2 dX9_agreed_21
def sX9_agreed_8 (x1 : Int32) (sx0 : Int32) (σ : TS) : Option (Int32 × TS) := (if sx0 = 0 then (if vin x1 4 = true then sX9_agreed_21 (σ 27 (x1.toNatClampNeg)) σ else none) else sX9_agreed_21 ((0 : Int32)) σ)
set_option maxHeartbeats 4000000 in
set_option maxRecDepth 100000 in
theorem kX9_agreed_8 {r : Int32} {u : TS} (C0 : gC RX9 cX9_agreed 2 ((some .int)) wsX9_agreed p s m args meth c) (hK : va_K D vwCl (tyL cy) s) (hJ : gJ 39 q) {H : Heap} {locs : List Loc} {σ : TS} {x1 : Int32} {sx0 : Int32} (hP : va_P D vwCl (gS 39 q (MX cy q) σ) H) (hS : va_S (gA 39 q) s.heap H locs) {ls : Array Slot} (hl : lv_has ls 2 [(0, .ref (q (0))), (1, .int x1)]) (hp : sX9_agreed_8 x1 sx0 σ = some (r, u)) : W p l e rmX9_agreed s m args below meth c H locs 0 0 (MQ below (gQi D vwCl r (gS 39 q (MX cy q) u) (gA 39 q)) args s 0 0 (gA 39 q)) (F0 m 8 ls [.int sx0]) := by
  obtain ⟨hx, hb, hr, hml, hown, hts, hlocks⟩ := id C0
  unfold sX9_agreed_8 at hp
  refine lv_if_eq (tgt := 15) hx hb dX9_agreed_8 (by decide) (fun hcd1 => ?_) (fun hcd1 => ?_)
  · have hp := o_t hp hcd1
    refine lv_aload_n hx hb dX9_agreed_15 rfl (lv_at hl 0 rfl) ?_
    refine g_get (v := .ref (q (27))) hx hb hts miX9_agreed_X9 hown hK hP (kk_Mod) (ce_Mod) rfl 29 (by decide) mwX9_agreed_0 rfl dX9_agreed_16 ?_
    refine lv_iload_n hx hb dX9_agreed_19 rfl (lv_at hl 1 rfl) ?_
    obtain ⟨hi2, hp⟩ := o_chk hp
    refine g_iald (j := x1.toNatClampNeg) hx hb hK hP (kk_M_agreed) (ce_M_agreed) 0 rfl (vin_of hi2) rfl dX9_agreed_20 ?_
    exact kX9_agreed_21 C0 hK hJ  hP hS (lv_sub hl [] rfl) hp
  · have hp := o_f hp hcd1
    refine lv_iconst (v := (0 : Int32)) hx hb dX9_agreed_11 (by decide) ?_
    refine lv_goto (tgt := 21) hx hb dX9_agreed_12 (by decide) ?_
    exact kX9_agreed_21 C0 hK hJ  hP hS (lv_sub hl [] rfl) hp
def sX9_agreed_5 (x1 : Int32) (sx1 : Int32) (σ : TS) : Option (Int32 × TS) := ((sX9_isOut sx1 σ).bind (fun z => sX9_agreed_8 x1 z.1 z.2))
set_option maxHeartbeats 4000000 in
set_option maxRecDepth 100000 in
theorem kX9_agreed_5 {r : Int32} {u : TS} (C0 : gC RX9 cX9_agreed 2 ((some .int)) wsX9_agreed p s m args meth c) (hK : va_K D vwCl (tyL cy) s) (hJ : gJ 39 q) {H : Heap} {locs : List Loc} {σ : TS} {x1 : Int32} {sx1 : Int32} (hP : va_P D vwCl (gS 39 q (MX cy q) σ) H) (hS : va_S (gA 39 q) s.heap H locs) {ls : Array Slot} (hl : lv_has ls 2 [(0, .ref (q (0))), (1, .int x1)]) (hp : sX9_agreed_5 x1 sx1 σ = some (r, u)) : W p l e rmX9_agreed s m args below meth c H locs 0 0 (MQ below (gQi D vwCl r (gS 39 q (MX cy q) u) (gA 39 q)) args s 0 0 (gA 39 q)) (F0 m 5 ls [.int sx1, .ref (q (0))]) := by
  obtain ⟨hx, hb, hr, hml, hown, hts, hlocks⟩ := id C0
  unfold sX9_agreed_5 at hp
  obtain ⟨⟨r3, u4⟩, hq5, hp⟩ := o_b hp
  refine g_cVi (As := [.int sx1]) (rest := []) hx hb hml hown hts hK hP hS (mX9_isOut l hJ hq5) (cwV 1 hts gX9_agreed_X9_isOut rfl rfl rfl nVX9_isOut ⟨Nat.le_of_ble_eq_true rfl, Nat.le_of_ble_eq_true rfl⟩) (g_recv hK hP (kk_Mod) (ce_Mod) rfl) rfl hl.1 rfl (Nat.le_of_ble_eq_true rfl) dX9_agreed_5 ⟨Nat.le_of_ble_eq_true rfl, Nat.le_of_ble_eq_true rfl⟩ (fun H locs hP hS => ?_)
  exact kX9_agreed_8 C0 hK hJ  hP hS hl hp
def sX9_agreed_0 (x1 : Int32) (σ : TS) : Option (Int32 × TS) := ((sX9_isFour x1 σ).bind (fun z => sX9_agreed_5 x1 z.1 z.2))
set_option maxHeartbeats 4000000 in
set_option maxRecDepth 100000 in
theorem kX9_agreed_0 {r : Int32} {u : TS} (C0 : gC RX9 cX9_agreed 2 ((some .int)) wsX9_agreed p s m args meth c) (hK : va_K D vwCl (tyL cy) s) (hJ : gJ 39 q) {H : Heap} {locs : List Loc} {σ : TS} {x1 : Int32} (hP : va_P D vwCl (gS 39 q (MX cy q) σ) H) (hS : va_S (gA 39 q) s.heap H locs) {ls : Array Slot} (hl : lv_has ls 2 [(0, .ref (q (0))), (1, .int x1)]) (hp : sX9_agreed_0 x1 σ = some (r, u)) : W p l e rmX9_agreed s m args below meth c H locs 0 0 (MQ below (gQi D vwCl r (gS 39 q (MX cy q) u) (gA 39 q)) args s 0 0 (gA 39 q)) (F0 m 0 ls []) := by
  obtain ⟨hx, hb, hr, hml, hown, hts, hlocks⟩ := id C0
  unfold sX9_agreed_0 at hp
  refine lv_aload_n hx hb dX9_agreed_0 rfl (lv_at hl 0 rfl) ?_
  refine lv_iload_n hx hb dX9_agreed_1 rfl (lv_at hl 1 rfl) ?_
  obtain ⟨⟨r6, u7⟩, hq8, hp⟩ := o_b hp
  refine g_cSi (As := [.int x1]) (rest := [.ref (q (0))]) hx hb hml hown hts hK hP hS (mX9_isFour l hJ hq8) (va_cwS 1 hts gX9_agreed_X9_isFour rfl rfl rfl nVX9_isFour ⟨Nat.le_of_ble_eq_true rfl, Nat.le_of_ble_eq_true rfl⟩) rfl hl.1 rfl (Nat.le_of_ble_eq_true rfl) dX9_agreed_2 ⟨Nat.le_of_ble_eq_true rfl, Nat.le_of_ble_eq_true rfl⟩ (fun H locs hP hS => ?_)
  exact kX9_agreed_5 C0 hK hJ  hP hS hl hp
def sX9_agreed (x1 : Int32) (σ : TS) : Option (Int32 × TS) := sX9_agreed_0 x1 σ
theorem nVX9_agreed : yX9_agreed.cls = RX9 ∧ yX9_agreed.cls ≠ "java/lang/invoke/MethodHandle" ∧ yX9_agreed.cls ≠ "java/lang/invoke/VarHandle" ∧ (parseMethodDescriptor yX9_agreed.desc).map (fun d => d.parameters.length) = some 1 := by decide +kernel
set_option maxHeartbeats 4000000 in
set_option maxRecDepth 100000 in
theorem mX9_agreed (l : Launch) (hJ : gJ 39 q) {x1 : Int32} {σ : TS} {r : Int32} {u : TS} (hp : sX9_agreed x1 σ = some (r, u)) : Met l yX9_agreed wsX9_agreed rmX9_agreed (va_Pc [.ref (q (0)), .int x1] (gPre D vwCl (tyL cy) (gS 39 q (MX cy q) σ))) (gQi D vwCl r (gS 39 q (MX cy q) u) (gA 39 q)) 0 0 (gA 39 q) := by
  refine Met.ofW (cc := cX9_agreed) (maxL := 2) (ret := (some .int)) (by decide +kernel) rfl ?_
  intro p e s m args below meth c s₁ B hml hv
  obtain ⟨rfl, hP, hK⟩ := hv
  have hl := lv_entry ([.ref (q (0)), .int x1]) (n := 2) (Nat.le_of_ble_eq_true rfl)
  rw [lg_entry_eq]
  generalize (lg_sl ([.ref (q (0)), .int x1]) ++ List.replicate (2 - (lg_sl ([.ref (q (0)), .int x1])).length) Slot.unset).toArray = ls at hl ⊢
  have hl : lv_has ls 2 [(0, .ref (q (0))), (1, .int x1)] := hl
  exact kX9_agreed_0 ⟨B.exec, B.bytes, B.returns, hml, findClass_of_methodNamed B.named, atoms_spec (ws := wsX9_agreed) B.pre, B.notSynchronized⟩ hK hJ  hP va_S.rf hl hp
theorem miX9_drift_X9 : ∀ w ∈ u_ws RX9 TX9 44, w ∈ wsX9_drift := by decide +kernel
theorem mwX9_drift_0 : Cond.fieldLink RX9 130 "TriplaneModel" "thrown" "I" ∈ wsX9_drift := by decide +kernel
theorem mwX9_drift_1 : Cond.fieldLink RX9 54 "TriplaneModel" "drifts" "[I" ∈ wsX9_drift := by decide +kernel
abbrev rmX9_drift : Room := { frames := 2, cells := 0, slots := 0, locals := 42 }
def sX9_drift_30 (x1 : Int32) (x2 : Int32) (sx1 : Int32) (σ : TS) : Option (Int32 × TS) := (if ((st2 σ 0 0 sx1) 0 0) ≤ 0 then (if vin x1 4 = true then some ((st2 σ 0 0 sx1) 15 (x1.toNatClampNeg), st2 (st2 σ 0 0 sx1) 15 (x1.toNatClampNeg) x2) else none) else some ((0 : Int32), st2 σ 0 0 sx1))
set_option maxHeartbeats 4000000 in
set_option maxRecDepth 100000 in
theorem kX9_drift_30 {r : Int32} {u : TS} (C0 : gC RX9 cX9_drift 4 ((some .int)) wsX9_drift p s m args meth c) (hK : va_K D vwCl (tyL cy) s) (hJ : gJ 39 q) {H : Heap} {locs : List Loc} {σ : TS} {x1 : Int32} {x2 : Int32} {sx1 : Int32} (hP : va_P D vwCl (gS 39 q (MX cy q) σ) H) (hS : va_S (gA 39 q) s.heap H locs) {ls : Array Slot} (hl : lv_has ls 4 [(0, .ref (q (0))), (1, .int x1), (2, .int x2)]) (hp : sX9_drift_30 x1 x2 sx1 σ = some (r, u)) : W p l e rmX9_drift s m args below meth c H locs 0 0 (MQ below (gQi D vwCl r (gS 39 q (MX cy q) u) (gA 39 q)) args s 0 0 (gA 39 q)) (F0 m 30 ls [.int sx1, .ref (q (0))]) := by
  obtain ⟨hx, hb, hr, hml, hown, hts, hlocks⟩ := id C0
  unfold sX9_drift_30 at hp
  refine g_put (v := sx1) hx hb hts miX9_drift_X9 tyX9 tyX9_ok nmX9 hown hK hJ hP hS (kk_Mod) (ce_Mod) rfl 0 (by decide) mwX9_drift_0 rfl rfl rfl (Nat.le_of_ble_eq_true rfl) rfl dX9_drift_30 (fun H locs hP hS => ?_)
  refine lv_aload_n hx hb dX9_drift_33 rfl (lv_at hl 0 rfl) ?_
  refine g_get (v := .int ((st2 σ 0 0 sx1) 0 0)) hx hb hts miX9_drift_X9 hown hK hP (kk_Mod) (ce_Mod) rfl 0 (by decide) mwX9_drift_0 rfl dX9_drift_34 ?_
  refine lv_if_le (tgt := 42) hx hb dX9_drift_37 (by decide) (fun hcd1 => ?_) (fun hcd1 => ?_)
  · have hp := o_t hp hcd1
    refine lv_aload_n hx hb dX9_drift_42 rfl (lv_at hl 0 rfl) ?_
    refine g_get (v := .ref (q (15))) hx hb hts miX9_drift_X9 hown hK hP (kk_Mod) (ce_Mod) rfl 17 (by decide) mwX9_drift_1 rfl dX9_drift_43 ?_
    refine lv_iload_n hx hb dX9_drift_46 rfl (lv_at hl 1 rfl) ?_
    obtain ⟨hi2, hp⟩ := o_chk hp
    refine g_iald (j := x1.toNatClampNeg) hx hb hK hP (kk_M_drifts) (ce_M_drifts) 0 rfl (vin_of hi2) rfl dX9_drift_47 ?_
    refine lv_istore_n (lv' := [(3, .int ((st2 σ 0 0 sx1) 15 (x1.toNatClampNeg))), (0, .ref (q (0))), (1, .int x1), (2, .int x2)]) hx hb dX9_drift_48 rfl hl (by decide) rfl (fun ls hl => ?_)
    refine lv_aload_n hx hb dX9_drift_49 rfl (lv_at hl 1 rfl) ?_
    refine g_get (v := .ref (q (15))) hx hb hts miX9_drift_X9 hown hK hP (kk_Mod) (ce_Mod) rfl 17 (by decide) mwX9_drift_1 rfl dX9_drift_50 ?_
    refine lv_iload_n hx hb dX9_drift_53 rfl (lv_at hl 2 rfl) ?_
    refine lv_iload_n hx hb dX9_drift_54 rfl (lv_at hl 3 rfl) ?_
    refine g_iast (j := x1.toNatClampNeg) hx hb hK hJ hP hS (kk_M_drifts) (ce_M_drifts) 0 rfl (vin_of hi2) rfl dX9_drift_55 (fun H locs hP hS => ?_)
    refine lv_iload_n hx hb dX9_drift_56 rfl (lv_at hl 0 rfl) ?_
    obtain ⟨rfl, rfl⟩ := o_r hp
    exact W.iret (v := (st2 σ 0 0 sx1) 15 (x1.toNatClampNeg)) hx hb hr (fun t ht hW => ⟨⟨(st2 σ 0 0 sx1) 15 (x1.toNatClampNeg), (), rfl, rfl, by subst ht; exact hP⟩, hS.F ht⟩) hS.2.2 dX9_drift_57
  · have hp := o_f hp hcd1
    refine lv_iconst (v := (0 : Int32)) hx hb dX9_drift_40 (by decide) ?_
    obtain ⟨rfl, rfl⟩ := o_r hp
    exact W.iret (v := (0 : Int32)) hx hb hr (fun t ht hW => ⟨⟨(0 : Int32), (), rfl, rfl, by subst ht; exact hP⟩, hS.F ht⟩) hS.2.2 dX9_drift_41
def sX9_drift_22 (x1 : Int32) (x2 : Int32) (sx1 : Int32) (σ : TS) : Option (Int32 × TS) := (if sx1 = 0 then sX9_drift_30 x1 x2 ((2 : Int32)) σ else sX9_drift_30 x1 x2 ((0 : Int32)) σ)
set_option maxHeartbeats 4000000 in
set_option maxRecDepth 100000 in
theorem kX9_drift_22 {r : Int32} {u : TS} (C0 : gC RX9 cX9_drift 4 ((some .int)) wsX9_drift p s m args meth c) (hK : va_K D vwCl (tyL cy) s) (hJ : gJ 39 q) {H : Heap} {locs : List Loc} {σ : TS} {x1 : Int32} {x2 : Int32} {sx1 : Int32} (hP : va_P D vwCl (gS 39 q (MX cy q) σ) H) (hS : va_S (gA 39 q) s.heap H locs) {ls : Array Slot} (hl : lv_has ls 4 [(0, .ref (q (0))), (1, .int x1), (2, .int x2)]) (hp : sX9_drift_22 x1 x2 sx1 σ = some (r, u)) : W p l e rmX9_drift s m args below meth c H locs 0 0 (MQ below (gQi D vwCl r (gS 39 q (MX cy q) u) (gA 39 q)) args s 0 0 (gA 39 q)) (F0 m 22 ls [.int sx1, .ref (q (0))]) := by
  obtain ⟨hx, hb, hr, hml, hown, hts, hlocks⟩ := id C0
  unfold sX9_drift_22 at hp
  refine lv_if_eq (tgt := 29) hx hb dX9_drift_22 (by decide) (fun hcd3 => ?_) (fun hcd3 => ?_)
  · have hp := o_t hp hcd3
    refine lv_iconst (v := (2 : Int32)) hx hb dX9_drift_29 (by decide) ?_
    exact kX9_drift_30 C0 hK hJ  hP hS hl hp
  · have hp := o_f hp hcd3
    refine lv_iconst (v := (0 : Int32)) hx hb dX9_drift_25 (by decide) ?_
    refine lv_goto (tgt := 30) hx hb dX9_drift_26 (by decide) ?_
    exact kX9_drift_30 C0 hK hJ  hP hS hl hp
def sX9_drift_8 (x1 : Int32) (x2 : Int32) (sx0 : Int32) (σ : TS) : Option (Int32 × TS) := (if sx0 = 0 then ((sX9_in x2 ((-9 : Int32)) ((9 : Int32)) σ).bind (fun z => sX9_drift_22 x1 x2 z.1 z.2)) else some ((0 : Int32), σ))
set_option maxHeartbeats 4000000 in
set_option maxRecDepth 100000 in
theorem kX9_drift_8 {r : Int32} {u : TS} (C0 : gC RX9 cX9_drift 4 ((some .int)) wsX9_drift p s m args meth c) (hK : va_K D vwCl (tyL cy) s) (hJ : gJ 39 q) {H : Heap} {locs : List Loc} {σ : TS} {x1 : Int32} {x2 : Int32} {sx0 : Int32} (hP : va_P D vwCl (gS 39 q (MX cy q) σ) H) (hS : va_S (gA 39 q) s.heap H locs) {ls : Array Slot} (hl : lv_has ls 4 [(0, .ref (q (0))), (1, .int x1), (2, .int x2)]) (hp : sX9_drift_8 x1 x2 sx0 σ = some (r, u)) : W p l e rmX9_drift s m args below meth c H locs 0 0 (MQ below (gQi D vwCl r (gS 39 q (MX cy q) u) (gA 39 q)) args s 0 0 (gA 39 q)) (F0 m 8 ls [.int sx0]) := by
  obtain ⟨hx, hb, hr, hml, hown, hts, hlocks⟩ := id C0
  unfold sX9_drift_8 at hp
  refine lv_if_eq (tgt := 13) hx hb dX9_drift_8 (by decide) (fun hcd4 => ?_) (fun hcd4 => ?_)
  · have hp := o_t hp hcd4
    refine lv_aload_n hx hb dX9_drift_13 rfl (lv_at hl 0 rfl) ?_
    refine lv_iload_n hx hb dX9_drift_14 rfl (lv_at hl 2 rfl) ?_
    refine lv_bipush (v := (-9 : Int32)) hx hb dX9_drift_15 (by decide) ?_
    refine lv_bipush (v := (9 : Int32)) hx hb dX9_drift_17 (by decide) ?_
    obtain ⟨⟨r5, u6⟩, hq7, hp⟩ := o_b hp
    refine g_cSi (As := [.int x2, .int ((-9 : Int32)), .int ((9 : Int32))]) (rest := [.ref (q (0))]) hx hb hml hown hts hK hP hS (mX9_in l hJ hq7) (va_cwS 3 hts gX9_drift_X9_in rfl rfl rfl nVX9_in ⟨Nat.le_of_ble_eq_true rfl, Nat.le_of_ble_eq_true rfl⟩) rfl hl.1 rfl (Nat.le_of_ble_eq_true rfl) dX9_drift_19 ⟨Nat.le_of_ble_eq_true rfl, Nat.le_of_ble_eq_true rfl⟩ (fun H locs hP hS => ?_)
    exact kX9_drift_22 C0 hK hJ  hP hS hl hp
  · have hp := o_f hp hcd4
    refine lv_iconst (v := (0 : Int32)) hx hb dX9_drift_11 (by decide) ?_
    obtain ⟨rfl, rfl⟩ := o_r hp
    exact W.iret (v := (0 : Int32)) hx hb hr (fun t ht hW => ⟨⟨(0 : Int32), (), rfl, rfl, by subst ht; exact hP⟩, hS.F ht⟩) hS.2.2 dX9_drift_12
def sX9_drift_5 (x1 : Int32) (x2 : Int32) (sx1 : Int32) (σ : TS) : Option (Int32 × TS) := ((sX9_isOut sx1 σ).bind (fun z => sX9_drift_8 x1 x2 z.1 z.2))
set_option maxHeartbeats 4000000 in
set_option maxRecDepth 100000 in
theorem kX9_drift_5 {r : Int32} {u : TS} (C0 : gC RX9 cX9_drift 4 ((some .int)) wsX9_drift p s m args meth c) (hK : va_K D vwCl (tyL cy) s) (hJ : gJ 39 q) {H : Heap} {locs : List Loc} {σ : TS} {x1 : Int32} {x2 : Int32} {sx1 : Int32} (hP : va_P D vwCl (gS 39 q (MX cy q) σ) H) (hS : va_S (gA 39 q) s.heap H locs) {ls : Array Slot} (hl : lv_has ls 4 [(0, .ref (q (0))), (1, .int x1), (2, .int x2)]) (hp : sX9_drift_5 x1 x2 sx1 σ = some (r, u)) : W p l e rmX9_drift s m args below meth c H locs 0 0 (MQ below (gQi D vwCl r (gS 39 q (MX cy q) u) (gA 39 q)) args s 0 0 (gA 39 q)) (F0 m 5 ls [.int sx1, .ref (q (0))]) := by
  obtain ⟨hx, hb, hr, hml, hown, hts, hlocks⟩ := id C0
  unfold sX9_drift_5 at hp
  obtain ⟨⟨r8, u9⟩, hq10, hp⟩ := o_b hp
  refine g_cVi (As := [.int sx1]) (rest := []) hx hb hml hown hts hK hP hS (mX9_isOut l hJ hq10) (cwV 1 hts gX9_drift_X9_isOut rfl rfl rfl nVX9_isOut ⟨Nat.le_of_ble_eq_true rfl, Nat.le_of_ble_eq_true rfl⟩) (g_recv hK hP (kk_Mod) (ce_Mod) rfl) rfl hl.1 rfl (Nat.le_of_ble_eq_true rfl) dX9_drift_5 ⟨Nat.le_of_ble_eq_true rfl, Nat.le_of_ble_eq_true rfl⟩ (fun H locs hP hS => ?_)
  exact kX9_drift_8 C0 hK hJ  hP hS hl hp
def sX9_drift_0 (x1 : Int32) (x2 : Int32) (σ : TS) : Option (Int32 × TS) := ((sX9_isThree x1 σ).bind (fun z => sX9_drift_5 x1 x2 z.1 z.2))
set_option maxHeartbeats 4000000 in
set_option maxRecDepth 100000 in
theorem kX9_drift_0 {r : Int32} {u : TS} (C0 : gC RX9 cX9_drift 4 ((some .int)) wsX9_drift p s m args meth c) (hK : va_K D vwCl (tyL cy) s) (hJ : gJ 39 q) {H : Heap} {locs : List Loc} {σ : TS} {x1 : Int32} {x2 : Int32} (hP : va_P D vwCl (gS 39 q (MX cy q) σ) H) (hS : va_S (gA 39 q) s.heap H locs) {ls : Array Slot} (hl : lv_has ls 4 [(0, .ref (q (0))), (1, .int x1), (2, .int x2)]) (hp : sX9_drift_0 x1 x2 σ = some (r, u)) : W p l e rmX9_drift s m args below meth c H locs 0 0 (MQ below (gQi D vwCl r (gS 39 q (MX cy q) u) (gA 39 q)) args s 0 0 (gA 39 q)) (F0 m 0 ls []) := by
  obtain ⟨hx, hb, hr, hml, hown, hts, hlocks⟩ := id C0
  unfold sX9_drift_0 at hp
  refine lv_aload_n hx hb dX9_drift_0 rfl (lv_at hl 0 rfl) ?_
  refine lv_iload_n hx hb dX9_drift_1 rfl (lv_at hl 1 rfl) ?_
  obtain ⟨⟨r11, u12⟩, hq13, hp⟩ := o_b hp
  refine g_cSi (As := [.int x1]) (rest := [.ref (q (0))]) hx hb hml hown hts hK hP hS (mX9_isThree l hJ hq13) (va_cwS 1 hts gX9_drift_X9_isThree rfl rfl rfl nVX9_isThree ⟨Nat.le_of_ble_eq_true rfl, Nat.le_of_ble_eq_true rfl⟩) rfl hl.1 rfl (Nat.le_of_ble_eq_true rfl) dX9_drift_2 ⟨Nat.le_of_ble_eq_true rfl, Nat.le_of_ble_eq_true rfl⟩ (fun H locs hP hS => ?_)
  exact kX9_drift_5 C0 hK hJ  hP hS hl hp
def sX9_drift (x1 : Int32) (x2 : Int32) (σ : TS) : Option (Int32 × TS) := sX9_drift_0 x1 x2 σ
theorem nVX9_drift : yX9_drift.cls = RX9 ∧ yX9_drift.cls ≠ "java/lang/invoke/MethodHandle" ∧ yX9_drift.cls ≠ "java/lang/invoke/VarHandle" ∧ (parseMethodDescriptor yX9_drift.desc).map (fun d => d.parameters.length) = some 2 := by decide +kernel
set_option maxHeartbeats 4000000 in
set_option maxRecDepth 100000 in
theorem mX9_drift (l : Launch) (hJ : gJ 39 q) {x1 : Int32} {x2 : Int32} {σ : TS} {r : Int32} {u : TS} (hp : sX9_drift x1 x2 σ = some (r, u)) : Met l yX9_drift wsX9_drift rmX9_drift (va_Pc [.ref (q (0)), .int x1, .int x2] (gPre D vwCl (tyL cy) (gS 39 q (MX cy q) σ))) (gQi D vwCl r (gS 39 q (MX cy q) u) (gA 39 q)) 0 0 (gA 39 q) := by
  refine Met.ofW (cc := cX9_drift) (maxL := 4) (ret := (some .int)) (by decide +kernel) rfl ?_
  intro p e s m args below meth c s₁ B hml hv
  obtain ⟨rfl, hP, hK⟩ := hv
  have hl := lv_entry ([.ref (q (0)), .int x1, .int x2]) (n := 4) (Nat.le_of_ble_eq_true rfl)
  rw [lg_entry_eq]
  generalize (lg_sl ([.ref (q (0)), .int x1, .int x2]) ++ List.replicate (4 - (lg_sl ([.ref (q (0)), .int x1, .int x2])).length) Slot.unset).toArray = ls at hl ⊢
  have hl : lv_has ls 4 [(0, .ref (q (0))), (1, .int x1), (2, .int x2)] := hl
  exact kX9_drift_0 ⟨B.exec, B.bytes, B.returns, hml, findClass_of_methodNamed B.named, atoms_spec (ws := wsX9_drift) B.pre, B.notSynchronized⟩ hK hJ  hP va_S.rf hl hp
theorem miX9_lie_X9 : ∀ w ∈ u_ws RX9 TX9 44, w ∈ wsX9_lie := by decide +kernel
theorem mwX9_lie_0 : Cond.fieldLink RX9 130 "TriplaneModel" "thrown" "I" ∈ wsX9_lie := by decide +kernel
theorem mwX9_lie_1 : Cond.fieldLink RX9 96 "TriplaneModel" "lies" "[I" ∈ wsX9_lie := by decide +kernel
abbrev rmX9_lie : Room := { frames := 2, cells := 0, slots := 0, locals := 42 }
def sX9_lie_52 (x1 : Int32) (x2 : Int32) (x3 : Int32) (sx1 : Int32) (σ : TS) : Option (Int32 × TS) := (if ((st2 σ 0 0 sx1) 0 0) ≤ 0 then (if vin ((x1 * ((3 : Int32))) + x2) 9 = true then some ((st2 σ 0 0 sx1) 29 (((x1 * ((3 : Int32))) + x2).toNatClampNeg), st2 (st2 σ 0 0 sx1) 29 (((x1 * ((3 : Int32))) + x2).toNatClampNeg) x3) else none) else some ((0 : Int32), st2 σ 0 0 sx1))
set_option maxHeartbeats 4000000 in
set_option maxRecDepth 100000 in
theorem kX9_lie_52 {r : Int32} {u : TS} (C0 : gC RX9 cX9_lie 5 ((some .int)) wsX9_lie p s m args meth c) (hK : va_K D vwCl (tyL cy) s) (hJ : gJ 39 q) {H : Heap} {locs : List Loc} {σ : TS} {x1 : Int32} {x2 : Int32} {x3 : Int32} {sx1 : Int32} (hP : va_P D vwCl (gS 39 q (MX cy q) σ) H) (hS : va_S (gA 39 q) s.heap H locs) {ls : Array Slot} (hl : lv_has ls 5 [(0, .ref (q (0))), (1, .int x1), (2, .int x2), (3, .int x3)]) (hp : sX9_lie_52 x1 x2 x3 sx1 σ = some (r, u)) : W p l e rmX9_lie s m args below meth c H locs 0 0 (MQ below (gQi D vwCl r (gS 39 q (MX cy q) u) (gA 39 q)) args s 0 0 (gA 39 q)) (F0 m 52 ls [.int sx1, .ref (q (0))]) := by
  obtain ⟨hx, hb, hr, hml, hown, hts, hlocks⟩ := id C0
  unfold sX9_lie_52 at hp
  refine g_put (v := sx1) hx hb hts miX9_lie_X9 tyX9 tyX9_ok nmX9 hown hK hJ hP hS (kk_Mod) (ce_Mod) rfl 0 (by decide) mwX9_lie_0 rfl rfl rfl (Nat.le_of_ble_eq_true rfl) rfl dX9_lie_52 (fun H locs hP hS => ?_)
  refine lv_aload_n hx hb dX9_lie_55 rfl (lv_at hl 0 rfl) ?_
  refine g_get (v := .int ((st2 σ 0 0 sx1) 0 0)) hx hb hts miX9_lie_X9 hown hK hP (kk_Mod) (ce_Mod) rfl 0 (by decide) mwX9_lie_0 rfl dX9_lie_56 ?_
  refine lv_if_le (tgt := 64) hx hb dX9_lie_59 (by decide) (fun hcd1 => ?_) (fun hcd1 => ?_)
  · have hp := o_t hp hcd1
    refine lv_aload_n hx hb dX9_lie_64 rfl (lv_at hl 0 rfl) ?_
    refine g_get (v := .ref (q (29))) hx hb hts miX9_lie_X9 hown hK hP (kk_Mod) (ce_Mod) rfl 31 (by decide) mwX9_lie_1 rfl dX9_lie_65 ?_
    refine lv_iload_n hx hb dX9_lie_68 rfl (lv_at hl 1 rfl) ?_
    refine lv_iconst (v := (3 : Int32)) hx hb dX9_lie_69 (by decide) ?_
    refine lv_imul hx hb dX9_lie_70 ?_
    refine lv_iload_n hx hb dX9_lie_71 rfl (lv_at hl 2 rfl) ?_
    refine lv_iadd hx hb dX9_lie_72 ?_
    obtain ⟨hi2, hp⟩ := o_chk hp
    refine g_iald (j := ((x1 * ((3 : Int32))) + x2).toNatClampNeg) hx hb hK hP (kk_M_lies) (ce_M_lies) 0 rfl (vin_of hi2) rfl dX9_lie_73 ?_
    refine lv_istore (lv' := [(4, .int ((st2 σ 0 0 sx1) 29 (((x1 * ((3 : Int32))) + x2).toNatClampNeg))), (0, .ref (q (0))), (1, .int x1), (2, .int x2), (3, .int x3)]) hx hb dX9_lie_74 hl (by decide) rfl (fun ls hl => ?_)
    refine lv_aload_n hx hb dX9_lie_76 rfl (lv_at hl 1 rfl) ?_
    refine g_get (v := .ref (q (29))) hx hb hts miX9_lie_X9 hown hK hP (kk_Mod) (ce_Mod) rfl 31 (by decide) mwX9_lie_1 rfl dX9_lie_77 ?_
    refine lv_iload_n hx hb dX9_lie_80 rfl (lv_at hl 2 rfl) ?_
    refine lv_iconst (v := (3 : Int32)) hx hb dX9_lie_81 (by decide) ?_
    refine lv_imul hx hb dX9_lie_82 ?_
    refine lv_iload_n hx hb dX9_lie_83 rfl (lv_at hl 3 rfl) ?_
    refine lv_iadd hx hb dX9_lie_84 ?_
    refine lv_iload_n hx hb dX9_lie_85 rfl (lv_at hl 4 rfl) ?_
    refine g_iast (j := ((x1 * ((3 : Int32))) + x2).toNatClampNeg) hx hb hK hJ hP hS (kk_M_lies) (ce_M_lies) 0 rfl (vin_of hi2) rfl dX9_lie_86 (fun H locs hP hS => ?_)
    refine lv_iload hx hb dX9_lie_87 (lv_at hl 0 rfl) ?_
    obtain ⟨rfl, rfl⟩ := o_r hp
    exact W.iret (v := (st2 σ 0 0 sx1) 29 (((x1 * ((3 : Int32))) + x2).toNatClampNeg)) hx hb hr (fun t ht hW => ⟨⟨(st2 σ 0 0 sx1) 29 (((x1 * ((3 : Int32))) + x2).toNatClampNeg), (), rfl, rfl, by subst ht; exact hP⟩, hS.F ht⟩) hS.2.2 dX9_lie_89
  · have hp := o_f hp hcd1
    refine lv_iconst (v := (0 : Int32)) hx hb dX9_lie_62 (by decide) ?_
    obtain ⟨rfl, rfl⟩ := o_r hp
    exact W.iret (v := (0 : Int32)) hx hb hr (fun t ht hW => ⟨⟨(0 : Int32), (), rfl, rfl, by subst ht; exact hP⟩, hS.F ht⟩) hS.2.2 dX9_lie_63
def sX9_lie_51 (x1 : Int32) (x2 : Int32) (x3 : Int32) (σ : TS) : Option (Int32 × TS) := sX9_lie_52 x1 x2 x3 ((2 : Int32)) σ
set_option maxHeartbeats 4000000 in
set_option maxRecDepth 100000 in
theorem kX9_lie_51 {r : Int32} {u : TS} (C0 : gC RX9 cX9_lie 5 ((some .int)) wsX9_lie p s m args meth c) (hK : va_K D vwCl (tyL cy) s) (hJ : gJ 39 q) {H : Heap} {locs : List Loc} {σ : TS} {x1 : Int32} {x2 : Int32} {x3 : Int32} (hP : va_P D vwCl (gS 39 q (MX cy q) σ) H) (hS : va_S (gA 39 q) s.heap H locs) {ls : Array Slot} (hl : lv_has ls 5 [(0, .ref (q (0))), (1, .int x1), (2, .int x2), (3, .int x3)]) (hp : sX9_lie_51 x1 x2 x3 σ = some (r, u)) : W p l e rmX9_lie s m args below meth c H locs 0 0 (MQ below (gQi D vwCl r (gS 39 q (MX cy q) u) (gA 39 q)) args s 0 0 (gA 39 q)) (F0 m 51 ls [.ref (q (0))]) := by
  obtain ⟨hx, hb, hr, hml, hown, hts, hlocks⟩ := id C0
  unfold sX9_lie_51 at hp
  refine lv_iconst (v := (2 : Int32)) hx hb dX9_lie_51 (by decide) ?_
  exact kX9_lie_52 C0 hK hJ  hP hS hl hp
def sX9_lie_44 (x1 : Int32) (x2 : Int32) (x3 : Int32) (sx1 : Int32) (σ : TS) : Option (Int32 × TS) := (if sx1 = 0 then sX9_lie_51 x1 x2 x3 σ else sX9_lie_52 x1 x2 x3 ((0 : Int32)) σ)
set_option maxHeartbeats 4000000 in
set_option maxRecDepth 100000 in
theorem kX9_lie_44 {r : Int32} {u : TS} (C0 : gC RX9 cX9_lie 5 ((some .int)) wsX9_lie p s m args meth c) (hK : va_K D vwCl (tyL cy) s) (hJ : gJ 39 q) {H : Heap} {locs : List Loc} {σ : TS} {x1 : Int32} {x2 : Int32} {x3 : Int32} {sx1 : Int32} (hP : va_P D vwCl (gS 39 q (MX cy q) σ) H) (hS : va_S (gA 39 q) s.heap H locs) {ls : Array Slot} (hl : lv_has ls 5 [(0, .ref (q (0))), (1, .int x1), (2, .int x2), (3, .int x3)]) (hp : sX9_lie_44 x1 x2 x3 sx1 σ = some (r, u)) : W p l e rmX9_lie s m args below meth c H locs 0 0 (MQ below (gQi D vwCl r (gS 39 q (MX cy q) u) (gA 39 q)) args s 0 0 (gA 39 q)) (F0 m 44 ls [.int sx1, .ref (q (0))]) := by
  obtain ⟨hx, hb, hr, hml, hown, hts, hlocks⟩ := id C0
  unfold sX9_lie_44 at hp
  refine lv_if_eq (tgt := 51) hx hb dX9_lie_44 (by decide) (fun hcd3 => ?_) (fun hcd3 => ?_)
  · have hp := o_t hp hcd3
    exact kX9_lie_51 C0 hK hJ  hP hS hl hp
  · have hp := o_f hp hcd3
    refine lv_iconst (v := (0 : Int32)) hx hb dX9_lie_47 (by decide) ?_
    refine lv_goto (tgt := 52) hx hb dX9_lie_48 (by decide) ?_
    exact kX9_lie_52 C0 hK hJ  hP hS hl hp
def sX9_lie_23 (x1 : Int32) (x2 : Int32) (x3 : Int32) (sx0 : Int32) (σ : TS) : Option (Int32 × TS) := (if sx0 = 0 then (if x1 = x2 then sX9_lie_51 x1 x2 x3 σ else ((sX9_in x3 ((-999 : Int32)) ((999 : Int32)) σ).bind (fun z => sX9_lie_44 x1 x2 x3 z.1 z.2))) else some ((0 : Int32), σ))
set_option maxHeartbeats 4000000 in
set_option maxRecDepth 100000 in
theorem kX9_lie_23 {r : Int32} {u : TS} (C0 : gC RX9 cX9_lie 5 ((some .int)) wsX9_lie p s m args meth c) (hK : va_K D vwCl (tyL cy) s) (hJ : gJ 39 q) {H : Heap} {locs : List Loc} {σ : TS} {x1 : Int32} {x2 : Int32} {x3 : Int32} {sx0 : Int32} (hP : va_P D vwCl (gS 39 q (MX cy q) σ) H) (hS : va_S (gA 39 q) s.heap H locs) {ls : Array Slot} (hl : lv_has ls 5 [(0, .ref (q (0))), (1, .int x1), (2, .int x2), (3, .int x3)]) (hp : sX9_lie_23 x1 x2 x3 sx0 σ = some (r, u)) : W p l e rmX9_lie s m args below meth c H locs 0 0 (MQ below (gQi D vwCl r (gS 39 q (MX cy q) u) (gA 39 q)) args s 0 0 (gA 39 q)) (F0 m 23 ls [.int sx0]) := by
  obtain ⟨hx, hb, hr, hml, hown, hts, hlocks⟩ := id C0
  unfold sX9_lie_23 at hp
  refine lv_if_eq (tgt := 28) hx hb dX9_lie_23 (by decide) (fun hcd4 => ?_) (fun hcd4 => ?_)
  · have hp := o_t hp hcd4
    refine lv_aload_n hx hb dX9_lie_28 rfl (lv_at hl 0 rfl) ?_
    refine lv_iload_n hx hb dX9_lie_29 rfl (lv_at hl 1 rfl) ?_
    refine lv_iload_n hx hb dX9_lie_30 rfl (lv_at hl 2 rfl) ?_
    refine lv_icmp_eq (tgt := 51) hx hb dX9_lie_31 (by decide) (fun hcd5 => ?_) (fun hcd5 => ?_)
    · have hp := o_t hp hcd5
      exact kX9_lie_51 C0 hK hJ  hP hS hl hp
    · have hp := o_f hp hcd5
      refine lv_iload_n hx hb dX9_lie_34 rfl (lv_at hl 3 rfl) ?_
      refine lv_sipush (v := (-999 : Int32)) hx hb dX9_lie_35 (by decide) ?_
      refine lv_sipush (v := (999 : Int32)) hx hb dX9_lie_38 (by decide) ?_
      obtain ⟨⟨r6, u7⟩, hq8, hp⟩ := o_b hp
      refine g_cSi (As := [.int x3, .int ((-999 : Int32)), .int ((999 : Int32))]) (rest := [.ref (q (0))]) hx hb hml hown hts hK hP hS (mX9_in l hJ hq8) (va_cwS 3 hts gX9_lie_X9_in rfl rfl rfl nVX9_in ⟨Nat.le_of_ble_eq_true rfl, Nat.le_of_ble_eq_true rfl⟩) rfl hl.1 rfl (Nat.le_of_ble_eq_true rfl) dX9_lie_41 ⟨Nat.le_of_ble_eq_true rfl, Nat.le_of_ble_eq_true rfl⟩ (fun H locs hP hS => ?_)
      exact kX9_lie_44 C0 hK hJ  hP hS hl hp
  · have hp := o_f hp hcd4
    refine lv_iconst (v := (0 : Int32)) hx hb dX9_lie_26 (by decide) ?_
    obtain ⟨rfl, rfl⟩ := o_r hp
    exact W.iret (v := (0 : Int32)) hx hb hr (fun t ht hW => ⟨⟨(0 : Int32), (), rfl, rfl, by subst ht; exact hP⟩, hS.F ht⟩) hS.2.2 dX9_lie_27
def sX9_lie_20 (x1 : Int32) (x2 : Int32) (x3 : Int32) (sx1 : Int32) (σ : TS) : Option (Int32 × TS) := ((sX9_isOut sx1 σ).bind (fun z => sX9_lie_23 x1 x2 x3 z.1 z.2))
set_option maxHeartbeats 4000000 in
set_option maxRecDepth 100000 in
theorem kX9_lie_20 {r : Int32} {u : TS} (C0 : gC RX9 cX9_lie 5 ((some .int)) wsX9_lie p s m args meth c) (hK : va_K D vwCl (tyL cy) s) (hJ : gJ 39 q) {H : Heap} {locs : List Loc} {σ : TS} {x1 : Int32} {x2 : Int32} {x3 : Int32} {sx1 : Int32} (hP : va_P D vwCl (gS 39 q (MX cy q) σ) H) (hS : va_S (gA 39 q) s.heap H locs) {ls : Array Slot} (hl : lv_has ls 5 [(0, .ref (q (0))), (1, .int x1), (2, .int x2), (3, .int x3)]) (hp : sX9_lie_20 x1 x2 x3 sx1 σ = some (r, u)) : W p l e rmX9_lie s m args below meth c H locs 0 0 (MQ below (gQi D vwCl r (gS 39 q (MX cy q) u) (gA 39 q)) args s 0 0 (gA 39 q)) (F0 m 20 ls [.int sx1, .ref (q (0))]) := by
  obtain ⟨hx, hb, hr, hml, hown, hts, hlocks⟩ := id C0
  unfold sX9_lie_20 at hp
  obtain ⟨⟨r9, u10⟩, hq11, hp⟩ := o_b hp
  refine g_cVi (As := [.int sx1]) (rest := []) hx hb hml hown hts hK hP hS (mX9_isOut l hJ hq11) (cwV 1 hts gX9_lie_X9_isOut rfl rfl rfl nVX9_isOut ⟨Nat.le_of_ble_eq_true rfl, Nat.le_of_ble_eq_true rfl⟩) (g_recv hK hP (kk_Mod) (ce_Mod) rfl) rfl hl.1 rfl (Nat.le_of_ble_eq_true rfl) dX9_lie_20 ⟨Nat.le_of_ble_eq_true rfl, Nat.le_of_ble_eq_true rfl⟩ (fun H locs hP hS => ?_)
  exact kX9_lie_23 C0 hK hJ  hP hS hl hp
def sX9_lie_19 (x1 : Int32) (x2 : Int32) (x3 : Int32) (σ : TS) : Option (Int32 × TS) := sX9_lie_20 x1 x2 x3 ((0 : Int32)) σ
set_option maxHeartbeats 4000000 in
set_option maxRecDepth 100000 in
theorem kX9_lie_19 {r : Int32} {u : TS} (C0 : gC RX9 cX9_lie 5 ((some .int)) wsX9_lie p s m args meth c) (hK : va_K D vwCl (tyL cy) s) (hJ : gJ 39 q) {H : Heap} {locs : List Loc} {σ : TS} {x1 : Int32} {x2 : Int32} {x3 : Int32} (hP : va_P D vwCl (gS 39 q (MX cy q) σ) H) (hS : va_S (gA 39 q) s.heap H locs) {ls : Array Slot} (hl : lv_has ls 5 [(0, .ref (q (0))), (1, .int x1), (2, .int x2), (3, .int x3)]) (hp : sX9_lie_19 x1 x2 x3 σ = some (r, u)) : W p l e rmX9_lie s m args below meth c H locs 0 0 (MQ below (gQi D vwCl r (gS 39 q (MX cy q) u) (gA 39 q)) args s 0 0 (gA 39 q)) (F0 m 19 ls [.ref (q (0))]) := by
  obtain ⟨hx, hb, hr, hml, hown, hts, hlocks⟩ := id C0
  unfold sX9_lie_19 at hp
  refine lv_iconst (v := (0 : Int32)) hx hb dX9_lie_19 (by decide) ?_
  exact kX9_lie_20 C0 hK hJ  hP hS hl hp
def sX9_lie_12 (x1 : Int32) (x2 : Int32) (x3 : Int32) (sx1 : Int32) (σ : TS) : Option (Int32 × TS) := (if sx1 = 0 then sX9_lie_19 x1 x2 x3 σ else sX9_lie_20 x1 x2 x3 ((1 : Int32)) σ)
set_option maxHeartbeats 4000000 in
set_option maxRecDepth 100000 in
theorem kX9_lie_12 {r : Int32} {u : TS} (C0 : gC RX9 cX9_lie 5 ((some .int)) wsX9_lie p s m args meth c) (hK : va_K D vwCl (tyL cy) s) (hJ : gJ 39 q) {H : Heap} {locs : List Loc} {σ : TS} {x1 : Int32} {x2 : Int32} {x3 : Int32} {sx1 : Int32} (hP : va_P D vwCl (gS 39 q (MX cy q) σ) H) (hS : va_S (gA 39 q) s.heap H locs) {ls : Array Slot} (hl : lv_has ls 5 [(0, .ref (q (0))), (1, .int x1), (2, .int x2), (3, .int x3)]) (hp : sX9_lie_12 x1 x2 x3 sx1 σ = some (r, u)) : W p l e rmX9_lie s m args below meth c H locs 0 0 (MQ below (gQi D vwCl r (gS 39 q (MX cy q) u) (gA 39 q)) args s 0 0 (gA 39 q)) (F0 m 12 ls [.int sx1, .ref (q (0))]) := by
  obtain ⟨hx, hb, hr, hml, hown, hts, hlocks⟩ := id C0
  unfold sX9_lie_12 at hp
  refine lv_if_eq (tgt := 19) hx hb dX9_lie_12 (by decide) (fun hcd12 => ?_) (fun hcd12 => ?_)
  · have hp := o_t hp hcd12
    exact kX9_lie_19 C0 hK hJ  hP hS hl hp
  · have hp := o_f hp hcd12
    refine lv_iconst (v := (1 : Int32)) hx hb dX9_lie_15 (by decide) ?_
    refine lv_goto (tgt := 20) hx hb dX9_lie_16 (by decide) ?_
    exact kX9_lie_20 C0 hK hJ  hP hS hl hp
def sX9_lie_5 (x1 : Int32) (x2 : Int32) (x3 : Int32) (sx1 : Int32) (σ : TS) : Option (Int32 × TS) := (if sx1 = 0 then sX9_lie_19 x1 x2 x3 σ else ((sX9_isThree x2 σ).bind (fun z => sX9_lie_12 x1 x2 x3 z.1 z.2)))
set_option maxHeartbeats 4000000 in
set_option maxRecDepth 100000 in
theorem kX9_lie_5 {r : Int32} {u : TS} (C0 : gC RX9 cX9_lie 5 ((some .int)) wsX9_lie p s m args meth c) (hK : va_K D vwCl (tyL cy) s) (hJ : gJ 39 q) {H : Heap} {locs : List Loc} {σ : TS} {x1 : Int32} {x2 : Int32} {x3 : Int32} {sx1 : Int32} (hP : va_P D vwCl (gS 39 q (MX cy q) σ) H) (hS : va_S (gA 39 q) s.heap H locs) {ls : Array Slot} (hl : lv_has ls 5 [(0, .ref (q (0))), (1, .int x1), (2, .int x2), (3, .int x3)]) (hp : sX9_lie_5 x1 x2 x3 sx1 σ = some (r, u)) : W p l e rmX9_lie s m args below meth c H locs 0 0 (MQ below (gQi D vwCl r (gS 39 q (MX cy q) u) (gA 39 q)) args s 0 0 (gA 39 q)) (F0 m 5 ls [.int sx1, .ref (q (0))]) := by
  obtain ⟨hx, hb, hr, hml, hown, hts, hlocks⟩ := id C0
  unfold sX9_lie_5 at hp
  refine lv_if_eq (tgt := 19) hx hb dX9_lie_5 (by decide) (fun hcd13 => ?_) (fun hcd13 => ?_)
  · have hp := o_t hp hcd13
    exact kX9_lie_19 C0 hK hJ  hP hS hl hp
  · have hp := o_f hp hcd13
    refine lv_iload_n hx hb dX9_lie_8 rfl (lv_at hl 2 rfl) ?_
    obtain ⟨⟨r14, u15⟩, hq16, hp⟩ := o_b hp
    refine g_cSi (As := [.int x2]) (rest := [.ref (q (0))]) hx hb hml hown hts hK hP hS (mX9_isThree l hJ hq16) (va_cwS 1 hts gX9_lie_X9_isThree rfl rfl rfl nVX9_isThree ⟨Nat.le_of_ble_eq_true rfl, Nat.le_of_ble_eq_true rfl⟩) rfl hl.1 rfl (Nat.le_of_ble_eq_true rfl) dX9_lie_9 ⟨Nat.le_of_ble_eq_true rfl, Nat.le_of_ble_eq_true rfl⟩ (fun H locs hP hS => ?_)
    exact kX9_lie_12 C0 hK hJ  hP hS hl hp
def sX9_lie_0 (x1 : Int32) (x2 : Int32) (x3 : Int32) (σ : TS) : Option (Int32 × TS) := ((sX9_isThree x1 σ).bind (fun z => sX9_lie_5 x1 x2 x3 z.1 z.2))
set_option maxHeartbeats 4000000 in
set_option maxRecDepth 100000 in
theorem kX9_lie_0 {r : Int32} {u : TS} (C0 : gC RX9 cX9_lie 5 ((some .int)) wsX9_lie p s m args meth c) (hK : va_K D vwCl (tyL cy) s) (hJ : gJ 39 q) {H : Heap} {locs : List Loc} {σ : TS} {x1 : Int32} {x2 : Int32} {x3 : Int32} (hP : va_P D vwCl (gS 39 q (MX cy q) σ) H) (hS : va_S (gA 39 q) s.heap H locs) {ls : Array Slot} (hl : lv_has ls 5 [(0, .ref (q (0))), (1, .int x1), (2, .int x2), (3, .int x3)]) (hp : sX9_lie_0 x1 x2 x3 σ = some (r, u)) : W p l e rmX9_lie s m args below meth c H locs 0 0 (MQ below (gQi D vwCl r (gS 39 q (MX cy q) u) (gA 39 q)) args s 0 0 (gA 39 q)) (F0 m 0 ls []) := by
  obtain ⟨hx, hb, hr, hml, hown, hts, hlocks⟩ := id C0
  unfold sX9_lie_0 at hp
  refine lv_aload_n hx hb dX9_lie_0 rfl (lv_at hl 0 rfl) ?_
  refine lv_iload_n hx hb dX9_lie_1 rfl (lv_at hl 1 rfl) ?_
  obtain ⟨⟨r17, u18⟩, hq19, hp⟩ := o_b hp
  refine g_cSi (As := [.int x1]) (rest := [.ref (q (0))]) hx hb hml hown hts hK hP hS (mX9_isThree l hJ hq19) (va_cwS 1 hts gX9_lie_X9_isThree rfl rfl rfl nVX9_isThree ⟨Nat.le_of_ble_eq_true rfl, Nat.le_of_ble_eq_true rfl⟩) rfl hl.1 rfl (Nat.le_of_ble_eq_true rfl) dX9_lie_2 ⟨Nat.le_of_ble_eq_true rfl, Nat.le_of_ble_eq_true rfl⟩ (fun H locs hP hS => ?_)
  exact kX9_lie_5 C0 hK hJ  hP hS hl hp
def sX9_lie (x1 : Int32) (x2 : Int32) (x3 : Int32) (σ : TS) : Option (Int32 × TS) := sX9_lie_0 x1 x2 x3 σ
theorem nVX9_lie : yX9_lie.cls = RX9 ∧ yX9_lie.cls ≠ "java/lang/invoke/MethodHandle" ∧ yX9_lie.cls ≠ "java/lang/invoke/VarHandle" ∧ (parseMethodDescriptor yX9_lie.desc).map (fun d => d.parameters.length) = some 3 := by decide +kernel
set_option maxHeartbeats 4000000 in
set_option maxRecDepth 100000 in
theorem mX9_lie (l : Launch) (hJ : gJ 39 q) {x1 : Int32} {x2 : Int32} {x3 : Int32} {σ : TS} {r : Int32} {u : TS} (hp : sX9_lie x1 x2 x3 σ = some (r, u)) : Met l yX9_lie wsX9_lie rmX9_lie (va_Pc [.ref (q (0)), .int x1, .int x2, .int x3] (gPre D vwCl (tyL cy) (gS 39 q (MX cy q) σ))) (gQi D vwCl r (gS 39 q (MX cy q) u) (gA 39 q)) 0 0 (gA 39 q) := by
  refine Met.ofW (cc := cX9_lie) (maxL := 5) (ret := (some .int)) (by decide +kernel) rfl ?_
  intro p e s m args below meth c s₁ B hml hv
  obtain ⟨rfl, hP, hK⟩ := hv
  have hl := lv_entry ([.ref (q (0)), .int x1, .int x2, .int x3]) (n := 5) (Nat.le_of_ble_eq_true rfl)
  rw [lg_entry_eq]
  generalize (lg_sl ([.ref (q (0)), .int x1, .int x2, .int x3]) ++ List.replicate (5 - (lg_sl ([.ref (q (0)), .int x1, .int x2, .int x3])).length) Slot.unset).toArray = ls at hl ⊢
  have hl : lv_has ls 5 [(0, .ref (q (0))), (1, .int x1), (2, .int x2), (3, .int x3)] := hl
  exact kX9_lie_0 ⟨B.exec, B.bytes, B.returns, hml, findClass_of_methodNamed B.named, atoms_spec (ws := wsX9_lie) B.pre, B.notSynchronized⟩ hK hJ  hP va_S.rf hl hp
theorem miX9_clock_X9 : ∀ w ∈ u_ws RX9 TX9 44, w ∈ wsX9_clock := by decide +kernel
theorem mwX9_clock_0 : Cond.fieldLink RX9 48 "TriplaneModel" "clocks" "[I" ∈ wsX9_clock := by decide +kernel
abbrev rmX9_clock : Room := { frames := 2, cells := 0, slots := 0, locals := 42 }
def sX9_clock_21 (sx0 : Int32) (σ : TS) : Option (Int32 × TS) := some (sx0, σ)
set_option maxHeartbeats 4000000 in
set_option maxRecDepth 100000 in
theorem kX9_clock_21 {r : Int32} {u : TS} (C0 : gC RX9 cX9_clock 2 ((some .int)) wsX9_clock p s m args meth c) (hK : va_K D vwCl (tyL cy) s) (hJ : gJ 39 q) {H : Heap} {locs : List Loc} {σ : TS} {sx0 : Int32} (hP : va_P D vwCl (gS 39 q (MX cy q) σ) H) (hS : va_S (gA 39 q) s.heap H locs) {ls : Array Slot} (hl : lv_has ls 2 []) (hp : sX9_clock_21 sx0 σ = some (r, u)) : W p l e rmX9_clock s m args below meth c H locs 0 0 (MQ below (gQi D vwCl r (gS 39 q (MX cy q) u) (gA 39 q)) args s 0 0 (gA 39 q)) (F0 m 21 ls [.int sx0]) := by
  obtain ⟨hx, hb, hr, hml, hown, hts, hlocks⟩ := id C0
  unfold sX9_clock_21 at hp
  obtain ⟨rfl, rfl⟩ := o_r hp
  exact W.iret (v := sx0) hx hb hr (fun t ht hW => ⟨⟨sx0, (), rfl, rfl, by subst ht; exact hP⟩, hS.F ht⟩) hS.2.2 dX9_clock_21
def sX9_clock_8 (x1 : Int32) (sx0 : Int32) (σ : TS) : Option (Int32 × TS) := (if sx0 = 0 then (if vin x1 4 = true then sX9_clock_21 (σ 13 (x1.toNatClampNeg)) σ else none) else sX9_clock_21 ((0 : Int32)) σ)
set_option maxHeartbeats 4000000 in
set_option maxRecDepth 100000 in
theorem kX9_clock_8 {r : Int32} {u : TS} (C0 : gC RX9 cX9_clock 2 ((some .int)) wsX9_clock p s m args meth c) (hK : va_K D vwCl (tyL cy) s) (hJ : gJ 39 q) {H : Heap} {locs : List Loc} {σ : TS} {x1 : Int32} {sx0 : Int32} (hP : va_P D vwCl (gS 39 q (MX cy q) σ) H) (hS : va_S (gA 39 q) s.heap H locs) {ls : Array Slot} (hl : lv_has ls 2 [(0, .ref (q (0))), (1, .int x1)]) (hp : sX9_clock_8 x1 sx0 σ = some (r, u)) : W p l e rmX9_clock s m args below meth c H locs 0 0 (MQ below (gQi D vwCl r (gS 39 q (MX cy q) u) (gA 39 q)) args s 0 0 (gA 39 q)) (F0 m 8 ls [.int sx0]) := by
  obtain ⟨hx, hb, hr, hml, hown, hts, hlocks⟩ := id C0
  unfold sX9_clock_8 at hp
  refine lv_if_eq (tgt := 15) hx hb dX9_clock_8 (by decide) (fun hcd1 => ?_) (fun hcd1 => ?_)
  · have hp := o_t hp hcd1
    refine lv_aload_n hx hb dX9_clock_15 rfl (lv_at hl 0 rfl) ?_
    refine g_get (v := .ref (q (13))) hx hb hts miX9_clock_X9 hown hK hP (kk_Mod) (ce_Mod) rfl 15 (by decide) mwX9_clock_0 rfl dX9_clock_16 ?_
    refine lv_iload_n hx hb dX9_clock_19 rfl (lv_at hl 1 rfl) ?_
    obtain ⟨hi2, hp⟩ := o_chk hp
    refine g_iald (j := x1.toNatClampNeg) hx hb hK hP (kk_M_clocks) (ce_M_clocks) 0 rfl (vin_of hi2) rfl dX9_clock_20 ?_
    exact kX9_clock_21 C0 hK hJ  hP hS (lv_sub hl [] rfl) hp
  · have hp := o_f hp hcd1
    refine lv_iconst (v := (0 : Int32)) hx hb dX9_clock_11 (by decide) ?_
    refine lv_goto (tgt := 21) hx hb dX9_clock_12 (by decide) ?_
    exact kX9_clock_21 C0 hK hJ  hP hS (lv_sub hl [] rfl) hp
def sX9_clock_5 (x1 : Int32) (sx1 : Int32) (σ : TS) : Option (Int32 × TS) := ((sX9_isOut sx1 σ).bind (fun z => sX9_clock_8 x1 z.1 z.2))
set_option maxHeartbeats 4000000 in
set_option maxRecDepth 100000 in
theorem kX9_clock_5 {r : Int32} {u : TS} (C0 : gC RX9 cX9_clock 2 ((some .int)) wsX9_clock p s m args meth c) (hK : va_K D vwCl (tyL cy) s) (hJ : gJ 39 q) {H : Heap} {locs : List Loc} {σ : TS} {x1 : Int32} {sx1 : Int32} (hP : va_P D vwCl (gS 39 q (MX cy q) σ) H) (hS : va_S (gA 39 q) s.heap H locs) {ls : Array Slot} (hl : lv_has ls 2 [(0, .ref (q (0))), (1, .int x1)]) (hp : sX9_clock_5 x1 sx1 σ = some (r, u)) : W p l e rmX9_clock s m args below meth c H locs 0 0 (MQ below (gQi D vwCl r (gS 39 q (MX cy q) u) (gA 39 q)) args s 0 0 (gA 39 q)) (F0 m 5 ls [.int sx1, .ref (q (0))]) := by
  obtain ⟨hx, hb, hr, hml, hown, hts, hlocks⟩ := id C0
  unfold sX9_clock_5 at hp
  obtain ⟨⟨r3, u4⟩, hq5, hp⟩ := o_b hp
  refine g_cVi (As := [.int sx1]) (rest := []) hx hb hml hown hts hK hP hS (mX9_isOut l hJ hq5) (cwV 1 hts gX9_clock_X9_isOut rfl rfl rfl nVX9_isOut ⟨Nat.le_of_ble_eq_true rfl, Nat.le_of_ble_eq_true rfl⟩) (g_recv hK hP (kk_Mod) (ce_Mod) rfl) rfl hl.1 rfl (Nat.le_of_ble_eq_true rfl) dX9_clock_5 ⟨Nat.le_of_ble_eq_true rfl, Nat.le_of_ble_eq_true rfl⟩ (fun H locs hP hS => ?_)
  exact kX9_clock_8 C0 hK hJ  hP hS hl hp
def sX9_clock_0 (x1 : Int32) (σ : TS) : Option (Int32 × TS) := ((sX9_isThree x1 σ).bind (fun z => sX9_clock_5 x1 z.1 z.2))
set_option maxHeartbeats 4000000 in
set_option maxRecDepth 100000 in
theorem kX9_clock_0 {r : Int32} {u : TS} (C0 : gC RX9 cX9_clock 2 ((some .int)) wsX9_clock p s m args meth c) (hK : va_K D vwCl (tyL cy) s) (hJ : gJ 39 q) {H : Heap} {locs : List Loc} {σ : TS} {x1 : Int32} (hP : va_P D vwCl (gS 39 q (MX cy q) σ) H) (hS : va_S (gA 39 q) s.heap H locs) {ls : Array Slot} (hl : lv_has ls 2 [(0, .ref (q (0))), (1, .int x1)]) (hp : sX9_clock_0 x1 σ = some (r, u)) : W p l e rmX9_clock s m args below meth c H locs 0 0 (MQ below (gQi D vwCl r (gS 39 q (MX cy q) u) (gA 39 q)) args s 0 0 (gA 39 q)) (F0 m 0 ls []) := by
  obtain ⟨hx, hb, hr, hml, hown, hts, hlocks⟩ := id C0
  unfold sX9_clock_0 at hp
  refine lv_aload_n hx hb dX9_clock_0 rfl (lv_at hl 0 rfl) ?_
  refine lv_iload_n hx hb dX9_clock_1 rfl (lv_at hl 1 rfl) ?_
  obtain ⟨⟨r6, u7⟩, hq8, hp⟩ := o_b hp
  refine g_cSi (As := [.int x1]) (rest := [.ref (q (0))]) hx hb hml hown hts hK hP hS (mX9_isThree l hJ hq8) (va_cwS 1 hts gX9_clock_X9_isThree rfl rfl rfl nVX9_isThree ⟨Nat.le_of_ble_eq_true rfl, Nat.le_of_ble_eq_true rfl⟩) rfl hl.1 rfl (Nat.le_of_ble_eq_true rfl) dX9_clock_2 ⟨Nat.le_of_ble_eq_true rfl, Nat.le_of_ble_eq_true rfl⟩ (fun H locs hP hS => ?_)
  exact kX9_clock_5 C0 hK hJ  hP hS hl hp
def sX9_clock (x1 : Int32) (σ : TS) : Option (Int32 × TS) := sX9_clock_0 x1 σ
theorem nVX9_clock : yX9_clock.cls = RX9 ∧ yX9_clock.cls ≠ "java/lang/invoke/MethodHandle" ∧ yX9_clock.cls ≠ "java/lang/invoke/VarHandle" ∧ (parseMethodDescriptor yX9_clock.desc).map (fun d => d.parameters.length) = some 1 := by decide +kernel
set_option maxHeartbeats 4000000 in
set_option maxRecDepth 100000 in
theorem mX9_clock (l : Launch) (hJ : gJ 39 q) {x1 : Int32} {σ : TS} {r : Int32} {u : TS} (hp : sX9_clock x1 σ = some (r, u)) : Met l yX9_clock wsX9_clock rmX9_clock (va_Pc [.ref (q (0)), .int x1] (gPre D vwCl (tyL cy) (gS 39 q (MX cy q) σ))) (gQi D vwCl r (gS 39 q (MX cy q) u) (gA 39 q)) 0 0 (gA 39 q) := by
  refine Met.ofW (cc := cX9_clock) (maxL := 2) (ret := (some .int)) (by decide +kernel) rfl ?_
  intro p e s m args below meth c s₁ B hml hv
  obtain ⟨rfl, hP, hK⟩ := hv
  have hl := lv_entry ([.ref (q (0)), .int x1]) (n := 2) (Nat.le_of_ble_eq_true rfl)
  rw [lg_entry_eq]
  generalize (lg_sl ([.ref (q (0)), .int x1]) ++ List.replicate (2 - (lg_sl ([.ref (q (0)), .int x1])).length) Slot.unset).toArray = ls at hl ⊢
  have hl : lv_has ls 2 [(0, .ref (q (0))), (1, .int x1)] := hl
  exact kX9_clock_0 ⟨B.exec, B.bytes, B.returns, hml, findClass_of_methodNamed B.named, atoms_spec (ws := wsX9_clock) B.pre, B.notSynchronized⟩ hK hJ  hP va_S.rf hl hp
theorem miX9_save_X9 : ∀ w ∈ u_ws RX9 TX9 44, w ∈ wsX9_save := by decide +kernel
theorem mwX9_save_0 : Cond.fieldLink RX9 102 "TriplaneModel" "isGood" "[Z" ∈ wsX9_save := by decide +kernel
theorem mwX9_save_1 : Cond.fieldLink RX9 105 "TriplaneModel" "newest" "[I" ∈ wsX9_save := by decide +kernel
theorem mwX9_save_2 : Cond.fieldLink RX9 99 "TriplaneModel" "copies" "[I" ∈ wsX9_save := by decide +kernel
theorem mwX9_save_3 : Cond.fieldLink RX9 26 "TriplaneModel" "words" "[I" ∈ wsX9_save := by decide +kernel
theorem mwX9_save_4 : Cond.fieldLink RX9 130 "TriplaneModel" "thrown" "I" ∈ wsX9_save := by decide +kernel
abbrev rmX9_save : Room := { frames := 2, cells := 0, slots := 0, locals := 42 }
def sX9_save_182 (sx0 : Int32) (sx1 : Int32) (σ : TS) : Option (Int32 × TS) := some (sx0 + sx1, σ)
set_option maxHeartbeats 4000000 in
set_option maxRecDepth 100000 in
theorem kX9_save_182 {r : Int32} {u : TS} (C0 : gC RX9 cX9_save 6 ((some .int)) wsX9_save p s m args meth c) (hK : va_K D vwCl (tyL cy) s) (hJ : gJ 39 q) {H : Heap} {locs : List Loc} {σ : TS} {sx0 : Int32} {sx1 : Int32} (hP : va_P D vwCl (gS 39 q (MX cy q) σ) H) (hS : va_S (gA 39 q) s.heap H locs) {ls : Array Slot} (hl : lv_has ls 6 []) (hp : sX9_save_182 sx0 sx1 σ = some (r, u)) : W p l e rmX9_save s m args below meth c H locs 0 0 (MQ below (gQi D vwCl r (gS 39 q (MX cy q) u) (gA 39 q)) args s 0 0 (gA 39 q)) (F0 m 182 ls [.int sx1, .int sx0]) := by
  obtain ⟨hx, hb, hr, hml, hown, hts, hlocks⟩ := id C0
  unfold sX9_save_182 at hp
  refine lv_iadd hx hb dX9_save_182 ?_
  obtain ⟨rfl, rfl⟩ := o_r hp
  exact W.iret (v := sx0 + sx1) hx hb hr (fun t ht hW => ⟨⟨sx0 + sx1, (), rfl, rfl, by subst ht; exact hP⟩, hS.F ht⟩) hS.2.2 dX9_save_183
def sX9_save_166 (x1 : Int32) (sx0 : Int32) (σ : TS) : Option (Int32 × TS) := (if vin (((3 : Int32)) + x1) 6 = true then (if (σ 31 ((((3 : Int32)) + x1).toNatClampNeg)) = 0 then sX9_save_182 sx0 ((0 : Int32)) σ else sX9_save_182 sx0 ((1 : Int32)) σ) else none)
set_option maxHeartbeats 4000000 in
set_option maxRecDepth 100000 in
theorem kX9_save_166 {r : Int32} {u : TS} (C0 : gC RX9 cX9_save 6 ((some .int)) wsX9_save p s m args meth c) (hK : va_K D vwCl (tyL cy) s) (hJ : gJ 39 q) {H : Heap} {locs : List Loc} {σ : TS} {x1 : Int32} {sx0 : Int32} (hP : va_P D vwCl (gS 39 q (MX cy q) σ) H) (hS : va_S (gA 39 q) s.heap H locs) {ls : Array Slot} (hl : lv_has ls 6 [(0, .ref (q (0))), (1, .int x1)]) (hp : sX9_save_166 x1 sx0 σ = some (r, u)) : W p l e rmX9_save s m args below meth c H locs 0 0 (MQ below (gQi D vwCl r (gS 39 q (MX cy q) u) (gA 39 q)) args s 0 0 (gA 39 q)) (F0 m 166 ls [.int sx0]) := by
  obtain ⟨hx, hb, hr, hml, hown, hts, hlocks⟩ := id C0
  unfold sX9_save_166 at hp
  refine lv_aload_n hx hb dX9_save_166 rfl (lv_at hl 0 rfl) ?_
  refine g_get (v := .ref (q (31))) hx hb hts miX9_save_X9 hown hK hP (kk_Mod) (ce_Mod) rfl 33 (by decide) mwX9_save_0 rfl dX9_save_167 ?_
  refine lv_iconst (v := (3 : Int32)) hx hb dX9_save_170 (by decide) ?_
  refine lv_iload_n hx hb dX9_save_171 rfl (lv_at hl 1 rfl) ?_
  refine lv_iadd hx hb dX9_save_172 ?_
  obtain ⟨hi1, hp⟩ := o_chk hp
  refine g_zald (j := (((3 : Int32)) + x1).toNatClampNeg) hx hb hK hP (kk_M_isGood) (ce_M_isGood) 1 rfl (vin_of hi1) rfl dX9_save_173 ?_
  refine lv_if_eq (tgt := 181) hx hb dX9_save_174 (by decide) (fun hcd2 => ?_) (fun hcd2 => ?_)
  · have hp := o_t hp hcd2
    refine lv_iconst (v := (0 : Int32)) hx hb dX9_save_181 (by decide) ?_
    exact kX9_save_182 C0 hK hJ  hP hS (lv_sub hl [] rfl) hp
  · have hp := o_f hp hcd2
    refine lv_iconst (v := (1 : Int32)) hx hb dX9_save_177 (by decide) ?_
    refine lv_goto (tgt := 182) hx hb dX9_save_178 (by decide) ?_
    exact kX9_save_182 C0 hK hJ  hP hS (lv_sub hl [] rfl) hp
def sX9_save_151 (x1 : Int32) (sx1 : Int32) (sx2 : Int32) (σ : TS) : Option (Int32 × TS) := (if vin sx1 3 = true then (if vin x1 6 = true then (if ((st2 σ 32 (sx1.toNatClampNeg) sx2) 31 (x1.toNatClampNeg)) = 0 then sX9_save_166 x1 ((0 : Int32)) (st2 σ 32 (sx1.toNatClampNeg) sx2) else sX9_save_166 x1 ((1 : Int32)) (st2 σ 32 (sx1.toNatClampNeg) sx2)) else none) else none)
set_option maxHeartbeats 4000000 in
set_option maxRecDepth 100000 in
theorem kX9_save_151 {r : Int32} {u : TS} (C0 : gC RX9 cX9_save 6 ((some .int)) wsX9_save p s m args meth c) (hK : va_K D vwCl (tyL cy) s) (hJ : gJ 39 q) {H : Heap} {locs : List Loc} {σ : TS} {x1 : Int32} {sx1 : Int32} {sx2 : Int32} (hP : va_P D vwCl (gS 39 q (MX cy q) σ) H) (hS : va_S (gA 39 q) s.heap H locs) {ls : Array Slot} (hl : lv_has ls 6 [(0, .ref (q (0))), (1, .int x1)]) (hp : sX9_save_151 x1 sx1 sx2 σ = some (r, u)) : W p l e rmX9_save s m args below meth c H locs 0 0 (MQ below (gQi D vwCl r (gS 39 q (MX cy q) u) (gA 39 q)) args s 0 0 (gA 39 q)) (F0 m 151 ls [.int sx2, .int sx1, .ref (q (32))]) := by
  obtain ⟨hx, hb, hr, hml, hown, hts, hlocks⟩ := id C0
  unfold sX9_save_151 at hp
  obtain ⟨hi3, hp⟩ := o_chk hp
  refine g_iast (j := sx1.toNatClampNeg) hx hb hK hJ hP hS (kk_M_newest) (ce_M_newest) 0 rfl (vin_of hi3) rfl dX9_save_151 (fun H locs hP hS => ?_)
  refine lv_aload_n hx hb dX9_save_152 rfl (lv_at hl 0 rfl) ?_
  refine g_get (v := .ref (q (31))) hx hb hts miX9_save_X9 hown hK hP (kk_Mod) (ce_Mod) rfl 33 (by decide) mwX9_save_0 rfl dX9_save_153 ?_
  refine lv_iload_n hx hb dX9_save_156 rfl (lv_at hl 1 rfl) ?_
  obtain ⟨hi4, hp⟩ := o_chk hp
  refine g_zald (j := x1.toNatClampNeg) hx hb hK hP (kk_M_isGood) (ce_M_isGood) 1 rfl (vin_of hi4) rfl dX9_save_157 ?_
  refine lv_if_eq (tgt := 165) hx hb dX9_save_158 (by decide) (fun hcd5 => ?_) (fun hcd5 => ?_)
  · have hp := o_t hp hcd5
    refine lv_iconst (v := (0 : Int32)) hx hb dX9_save_165 (by decide) ?_
    exact kX9_save_166 C0 hK hJ  hP hS hl hp
  · have hp := o_f hp hcd5
    refine lv_iconst (v := (1 : Int32)) hx hb dX9_save_161 (by decide) ?_
    refine lv_goto (tgt := 166) hx hb dX9_save_162 (by decide) ?_
    exact kX9_save_166 C0 hK hJ  hP hS hl hp
def sX9_save_128 (x1 : Int32) (x2 : Int32) (x4 : Int32) (sx1 : Int32) (sx2 : Int32) (σ : TS) : Option (Int32 × TS) := (if vin sx1 6 = true then (if x2 = 0 then sX9_save_151 x1 x1 (x4 + ((1 : Int32))) (st2 σ 31 (sx1.toNatClampNeg) (vp_nar .boolean sx2)) else (if vin x1 3 = true then sX9_save_151 x1 x1 ((st2 σ 31 (sx1.toNatClampNeg) (vp_nar .boolean sx2)) 32 (x1.toNatClampNeg)) (st2 σ 31 (sx1.toNatClampNeg) (vp_nar .boolean sx2)) else none)) else none)
set_option maxHeartbeats 4000000 in
set_option maxRecDepth 100000 in
theorem kX9_save_128 {r : Int32} {u : TS} (C0 : gC RX9 cX9_save 6 ((some .int)) wsX9_save p s m args meth c) (hK : va_K D vwCl (tyL cy) s) (hJ : gJ 39 q) {H : Heap} {locs : List Loc} {σ : TS} {x1 : Int32} {x2 : Int32} {x4 : Int32} {sx1 : Int32} {sx2 : Int32} (hP : va_P D vwCl (gS 39 q (MX cy q) σ) H) (hS : va_S (gA 39 q) s.heap H locs) {ls : Array Slot} (hl : lv_has ls 6 [(0, .ref (q (0))), (1, .int x1), (2, .int x2), (4, .int x4)]) (hp : sX9_save_128 x1 x2 x4 sx1 sx2 σ = some (r, u)) : W p l e rmX9_save s m args below meth c H locs 0 0 (MQ below (gQi D vwCl r (gS 39 q (MX cy q) u) (gA 39 q)) args s 0 0 (gA 39 q)) (F0 m 128 ls [.int sx2, .int sx1, .ref (q (31))]) := by
  obtain ⟨hx, hb, hr, hml, hown, hts, hlocks⟩ := id C0
  unfold sX9_save_128 at hp
  obtain ⟨hi6, hp⟩ := o_chk hp
  refine g_zast (j := sx1.toNatClampNeg) hx hb hK hJ hP hS (kk_M_isGood) (ce_M_isGood) 1 rfl (vin_of hi6) rfl dX9_save_128 (fun H locs hP hS => ?_)
  refine lv_aload_n hx hb dX9_save_129 rfl (lv_at hl 0 rfl) ?_
  refine g_get (v := .ref (q (32))) hx hb hts miX9_save_X9 hown hK hP (kk_Mod) (ce_Mod) rfl 34 (by decide) mwX9_save_1 rfl dX9_save_130 ?_
  refine lv_iload_n hx hb dX9_save_133 rfl (lv_at hl 1 rfl) ?_
  refine lv_iload_n hx hb dX9_save_134 rfl (lv_at hl 2 rfl) ?_
  refine lv_if_eq (tgt := 147) hx hb dX9_save_135 (by decide) (fun hcd7 => ?_) (fun hcd7 => ?_)
  · have hp := o_t hp hcd7
    refine lv_iload hx hb dX9_save_147 (lv_at hl 3 rfl) ?_
    refine lv_iconst (v := (1 : Int32)) hx hb dX9_save_149 (by decide) ?_
    refine lv_iadd hx hb dX9_save_150 ?_
    exact kX9_save_151 C0 hK hJ  hP hS (lv_sub hl [0, 1] rfl) hp
  · have hp := o_f hp hcd7
    refine lv_aload_n hx hb dX9_save_138 rfl (lv_at hl 0 rfl) ?_
    refine g_get (v := .ref (q (32))) hx hb hts miX9_save_X9 hown hK hP (kk_Mod) (ce_Mod) rfl 34 (by decide) mwX9_save_1 rfl dX9_save_139 ?_
    refine lv_iload_n hx hb dX9_save_142 rfl (lv_at hl 1 rfl) ?_
    obtain ⟨hi8, hp⟩ := o_chk hp
    refine g_iald (j := x1.toNatClampNeg) hx hb hK hP (kk_M_newest) (ce_M_newest) 0 rfl (vin_of hi8) rfl dX9_save_143 ?_
    refine lv_goto (tgt := 151) hx hb dX9_save_144 (by decide) ?_
    exact kX9_save_151 C0 hK hJ  hP hS (lv_sub hl [0, 1] rfl) hp
def sX9_save_61 : Nat → Int32 → Int32 → Int32 → Int32 → Int32 → TS → Option (Int32 × TS)
  | 0, _, _, _, _, _, _ => none
  | n + 1, x1, x2, x3, x4, x5, σ => (if ((6 : Int32)) ≤ x5 then (if x2 = 0 then sX9_save_128 x1 x2 x4 ((x4 * ((3 : Int32))) + x1) ((1 : Int32)) σ else sX9_save_128 x1 x2 x4 ((x4 * ((3 : Int32))) + x1) ((0 : Int32)) σ) else (if vin (((x3 * ((18 : Int32))) + (x1 * ((6 : Int32)))) + x5) 72 = true then (if vin (((x4 * ((18 : Int32))) + (x1 * ((6 : Int32)))) + x5) 36 = true then sX9_save_61 n x1 x2 x3 x4 (x5 + (1 : Int32)) (st2 σ 30 ((((x4 * ((18 : Int32))) + (x1 * ((6 : Int32)))) + x5).toNatClampNeg) (σ 6 ((((x3 * ((18 : Int32))) + (x1 * ((6 : Int32)))) + x5).toNatClampNeg))) else none) else none))
set_option maxHeartbeats 4000000 in
set_option maxRecDepth 100000 in
theorem kX9_save_61 {r : Int32} {u : TS} (C0 : gC RX9 cX9_save 6 ((some .int)) wsX9_save p s m args meth c) (hK : va_K D vwCl (tyL cy) s) (hJ : gJ 39 q) : ∀ (n : Nat) (H : Heap) (locs : List Loc) (σ : TS) (x1 : Int32) (x2 : Int32) (x3 : Int32) (x4 : Int32) (x5 : Int32) (hP : va_P D vwCl (gS 39 q (MX cy q) σ) H) (hS : va_S (gA 39 q) s.heap H locs) (ls : Array Slot) (hl : lv_has ls 6 [(0, .ref (q (0))), (1, .int x1), (2, .int x2), (3, .int x3), (4, .int x4), (5, .int x5)]) (hp : sX9_save_61 n x1 x2 x3 x4 x5 σ = some (r, u)), W p l e rmX9_save s m args below meth c H locs 0 0 (MQ below (gQi D vwCl r (gS 39 q (MX cy q) u) (gA 39 q)) args s 0 0 (gA 39 q)) (F0 m 61 ls []) := by
  obtain ⟨hx, hb, hr, hml, hown, hts, hlocks⟩ := id C0
  intro n
  induction n with
  | zero =>
    intro H locs σ x1 x2 x3 x4 x5 hP hS ls hl hp
    cases hp
  | succ n ih =>
    intro H locs σ x1 x2 x3 x4 x5 hP hS ls hl hp
    unfold sX9_save_61 at hp
    refine lv_iload hx hb dX9_save_61 (lv_at hl 5 rfl) ?_
    refine lv_bipush (v := (6 : Int32)) hx hb dX9_save_63 (by decide) ?_
    refine lv_icmp_ge (tgt := 109) hx hb dX9_save_65 (by decide) (fun hcd9 => ?_) (fun hcd9 => ?_)
    · have hp := o_t hp hcd9
      refine lv_aload_n hx hb dX9_save_109 rfl (lv_at hl 0 rfl) ?_
      refine g_get (v := .ref (q (31))) hx hb hts miX9_save_X9 hown hK hP (kk_Mod) (ce_Mod) rfl 33 (by decide) mwX9_save_0 rfl dX9_save_110 ?_
      refine lv_iload hx hb dX9_save_113 (lv_at hl 4 rfl) ?_
      refine lv_iconst (v := (3 : Int32)) hx hb dX9_save_115 (by decide) ?_
      refine lv_imul hx hb dX9_save_116 ?_
      refine lv_iload_n hx hb dX9_save_117 rfl (lv_at hl 1 rfl) ?_
      refine lv_iadd hx hb dX9_save_118 ?_
      refine lv_iload_n hx hb dX9_save_119 rfl (lv_at hl 2 rfl) ?_
      refine lv_if_ne (tgt := 127) hx hb dX9_save_120 (by decide) (fun hcd10 => ?_) (fun hcd10 => ?_)
      · have hp := o_f hp hcd10
        refine lv_iconst (v := (0 : Int32)) hx hb dX9_save_127 (by decide) ?_
        exact kX9_save_128 C0 hK hJ  hP hS (lv_sub hl [0, 1, 2, 4] rfl) hp
      · have hp := o_t hp hcd10
        refine lv_iconst (v := (1 : Int32)) hx hb dX9_save_123 (by decide) ?_
        refine lv_goto (tgt := 128) hx hb dX9_save_124 (by decide) ?_
        exact kX9_save_128 C0 hK hJ  hP hS (lv_sub hl [0, 1, 2, 4] rfl) hp
    · have hp := o_f hp hcd9
      refine lv_aload_n hx hb dX9_save_68 rfl (lv_at hl 0 rfl) ?_
      refine g_get (v := .ref (q (30))) hx hb hts miX9_save_X9 hown hK hP (kk_Mod) (ce_Mod) rfl 32 (by decide) mwX9_save_2 rfl dX9_save_69 ?_
      refine lv_iload hx hb dX9_save_72 (lv_at hl 4 rfl) ?_
      refine lv_bipush (v := (18 : Int32)) hx hb dX9_save_74 (by decide) ?_
      refine lv_imul hx hb dX9_save_76 ?_
      refine lv_iload_n hx hb dX9_save_77 rfl (lv_at hl 1 rfl) ?_
      refine lv_bipush (v := (6 : Int32)) hx hb dX9_save_78 (by decide) ?_
      refine lv_imul hx hb dX9_save_80 ?_
      refine lv_iadd hx hb dX9_save_81 ?_
      refine lv_iload hx hb dX9_save_82 (lv_at hl 5 rfl) ?_
      refine lv_iadd hx hb dX9_save_84 ?_
      refine lv_aload_n hx hb dX9_save_85 rfl (lv_at hl 0 rfl) ?_
      refine g_get (v := .ref (q (6))) hx hb hts miX9_save_X9 hown hK hP (kk_Mod) (ce_Mod) rfl 8 (by decide) mwX9_save_3 rfl dX9_save_86 ?_
      refine lv_iload_n hx hb dX9_save_89 rfl (lv_at hl 3 rfl) ?_
      refine lv_bipush (v := (18 : Int32)) hx hb dX9_save_90 (by decide) ?_
      refine lv_imul hx hb dX9_save_92 ?_
      refine lv_iload_n hx hb dX9_save_93 rfl (lv_at hl 1 rfl) ?_
      refine lv_bipush (v := (6 : Int32)) hx hb dX9_save_94 (by decide) ?_
      refine lv_imul hx hb dX9_save_96 ?_
      refine lv_iadd hx hb dX9_save_97 ?_
      refine lv_iload hx hb dX9_save_98 (lv_at hl 5 rfl) ?_
      refine lv_iadd hx hb dX9_save_100 ?_
      obtain ⟨hi11, hp⟩ := o_chk hp
      refine g_iald (j := (((x3 * ((18 : Int32))) + (x1 * ((6 : Int32)))) + x5).toNatClampNeg) hx hb hK hP (kk_M_words) (ce_M_words) 0 rfl (vin_of hi11) rfl dX9_save_101 ?_
      obtain ⟨hi12, hp⟩ := o_chk hp
      refine g_iast (j := (((x4 * ((18 : Int32))) + (x1 * ((6 : Int32)))) + x5).toNatClampNeg) hx hb hK hJ hP hS (kk_M_copies) (ce_M_copies) 0 rfl (vin_of hi12) rfl dX9_save_102 (fun H locs hP hS => ?_)
      refine lv_iinc (v := x5 + (1 : Int32)) (lv' := [(5, .int (x5 + (1 : Int32))), (0, .ref (q (0))), (1, .int x1), (2, .int x2), (3, .int x3), (4, .int x4)]) hx hb dX9_save_103 hl (k := 5) rfl rfl (by decide) rfl (fun ls hl => ?_)
      refine lv_goto (tgt := 61) hx hb dX9_save_106 (by decide) ?_
      exact ih _ _ _ _ _ _ _ _  hP hS _ (lv_sub hl [1, 2, 3, 4, 5, 0] rfl) hp
def sX9_save_56 (x1 : Int32) (x2 : Int32) (x3 : Int32) (sx0 : Int32) (σ : TS) : Option (Int32 × TS) := sX9_save_61 7 x1 x2 x3 sx0 ((0 : Int32)) σ
set_option maxHeartbeats 4000000 in
set_option maxRecDepth 100000 in
theorem kX9_save_56 {r : Int32} {u : TS} (C0 : gC RX9 cX9_save 6 ((some .int)) wsX9_save p s m args meth c) (hK : va_K D vwCl (tyL cy) s) (hJ : gJ 39 q) {H : Heap} {locs : List Loc} {σ : TS} {x1 : Int32} {x2 : Int32} {x3 : Int32} {sx0 : Int32} (hP : va_P D vwCl (gS 39 q (MX cy q) σ) H) (hS : va_S (gA 39 q) s.heap H locs) {ls : Array Slot} (hl : lv_has ls 6 [(0, .ref (q (0))), (1, .int x1), (2, .int x2), (3, .int x3)]) (hp : sX9_save_56 x1 x2 x3 sx0 σ = some (r, u)) : W p l e rmX9_save s m args below meth c H locs 0 0 (MQ below (gQi D vwCl r (gS 39 q (MX cy q) u) (gA 39 q)) args s 0 0 (gA 39 q)) (F0 m 56 ls [.int sx0]) := by
  obtain ⟨hx, hb, hr, hml, hown, hts, hlocks⟩ := id C0
  unfold sX9_save_56 at hp
  refine lv_istore (lv' := [(4, .int sx0), (0, .ref (q (0))), (1, .int x1), (2, .int x2), (3, .int x3)]) hx hb dX9_save_56 hl (by decide) rfl (fun ls hl => ?_)
  refine lv_iconst (v := (0 : Int32)) hx hb dX9_save_58 (by decide) ?_
  refine lv_istore (lv' := [(5, .int ((0 : Int32))), (4, .int sx0), (0, .ref (q (0))), (1, .int x1), (2, .int x2), (3, .int x3)]) hx hb dX9_save_59 hl (by decide) rfl (fun ls hl => ?_)
  exact kX9_save_61 C0 hK hJ _ _ _ _ _ _ _ _ _  hP hS _ (lv_sub hl [2, 3, 4, 5, 1, 0] rfl) hp
def sX9_save_29 (x1 : Int32) (x2 : Int32) (x3 : Int32) (sx1 : Int32) (σ : TS) : Option (Int32 × TS) := (if ((st2 σ 0 0 sx1) 0 0) ≤ 0 then (if vin x1 3 = true then (if ((st2 σ 0 0 sx1) 32 (x1.toNatClampNeg)) = ((1 : Int32)) then sX9_save_56 x1 x2 x3 ((1 : Int32)) (st2 σ 0 0 sx1) else sX9_save_56 x1 x2 x3 ((0 : Int32)) (st2 σ 0 0 sx1)) else none) else some ((0 : Int32), st2 σ 0 0 sx1))
set_option maxHeartbeats 4000000 in
set_option maxRecDepth 100000 in
theorem kX9_save_29 {r : Int32} {u : TS} (C0 : gC RX9 cX9_save 6 ((some .int)) wsX9_save p s m args meth c) (hK : va_K D vwCl (tyL cy) s) (hJ : gJ 39 q) {H : Heap} {locs : List Loc} {σ : TS} {x1 : Int32} {x2 : Int32} {x3 : Int32} {sx1 : Int32} (hP : va_P D vwCl (gS 39 q (MX cy q) σ) H) (hS : va_S (gA 39 q) s.heap H locs) {ls : Array Slot} (hl : lv_has ls 6 [(0, .ref (q (0))), (1, .int x1), (2, .int x2), (3, .int x3)]) (hp : sX9_save_29 x1 x2 x3 sx1 σ = some (r, u)) : W p l e rmX9_save s m args below meth c H locs 0 0 (MQ below (gQi D vwCl r (gS 39 q (MX cy q) u) (gA 39 q)) args s 0 0 (gA 39 q)) (F0 m 29 ls [.int sx1, .ref (q (0))]) := by
  obtain ⟨hx, hb, hr, hml, hown, hts, hlocks⟩ := id C0
  unfold sX9_save_29 at hp
  refine g_put (v := sx1) hx hb hts miX9_save_X9 tyX9 tyX9_ok nmX9 hown hK hJ hP hS (kk_Mod) (ce_Mod) rfl 0 (by decide) mwX9_save_4 rfl rfl rfl (Nat.le_of_ble_eq_true rfl) rfl dX9_save_29 (fun H locs hP hS => ?_)
  refine lv_aload_n hx hb dX9_save_32 rfl (lv_at hl 0 rfl) ?_
  refine g_get (v := .int ((st2 σ 0 0 sx1) 0 0)) hx hb hts miX9_save_X9 hown hK hP (kk_Mod) (ce_Mod) rfl 0 (by decide) mwX9_save_4 rfl dX9_save_33 ?_
  refine lv_if_le (tgt := 41) hx hb dX9_save_36 (by decide) (fun hcd13 => ?_) (fun hcd13 => ?_)
  · have hp := o_t hp hcd13
    refine lv_aload_n hx hb dX9_save_41 rfl (lv_at hl 0 rfl) ?_
    refine g_get (v := .ref (q (32))) hx hb hts miX9_save_X9 hown hK hP (kk_Mod) (ce_Mod) rfl 34 (by decide) mwX9_save_1 rfl dX9_save_42 ?_
    refine lv_iload_n hx hb dX9_save_45 rfl (lv_at hl 1 rfl) ?_
    obtain ⟨hi14, hp⟩ := o_chk hp
    refine g_iald (j := x1.toNatClampNeg) hx hb hK hP (kk_M_newest) (ce_M_newest) 0 rfl (vin_of hi14) rfl dX9_save_46 ?_
    refine lv_iconst (v := (1 : Int32)) hx hb dX9_save_47 (by decide) ?_
    refine lv_icmp_ne (tgt := 55) hx hb dX9_save_48 (by decide) (fun hcd15 => ?_) (fun hcd15 => ?_)
    · have hp := o_f hp hcd15
      refine lv_iconst (v := (0 : Int32)) hx hb dX9_save_55 (by decide) ?_
      exact kX9_save_56 C0 hK hJ  hP hS hl hp
    · have hp := o_t hp hcd15
      refine lv_iconst (v := (1 : Int32)) hx hb dX9_save_51 (by decide) ?_
      refine lv_goto (tgt := 56) hx hb dX9_save_52 (by decide) ?_
      exact kX9_save_56 C0 hK hJ  hP hS hl hp
  · have hp := o_f hp hcd13
    refine lv_iconst (v := (0 : Int32)) hx hb dX9_save_39 (by decide) ?_
    obtain ⟨rfl, rfl⟩ := o_r hp
    exact W.iret (v := (0 : Int32)) hx hb hr (fun t ht hW => ⟨⟨(0 : Int32), (), rfl, rfl, by subst ht; exact hP⟩, hS.F ht⟩) hS.2.2 dX9_save_40
def sX9_save_17 (x1 : Int32) (x2 : Int32) (sx0 : Int32) (σ : TS) : Option (Int32 × TS) := (if sx0 = ((-1 : Int32)) then sX9_save_29 x1 x2 sx0 ((2 : Int32)) σ else sX9_save_29 x1 x2 sx0 ((0 : Int32)) σ)
set_option maxHeartbeats 4000000 in
set_option maxRecDepth 100000 in
theorem kX9_save_17 {r : Int32} {u : TS} (C0 : gC RX9 cX9_save 6 ((some .int)) wsX9_save p s m args meth c) (hK : va_K D vwCl (tyL cy) s) (hJ : gJ 39 q) {H : Heap} {locs : List Loc} {σ : TS} {x1 : Int32} {x2 : Int32} {sx0 : Int32} (hP : va_P D vwCl (gS 39 q (MX cy q) σ) H) (hS : va_S (gA 39 q) s.heap H locs) {ls : Array Slot} (hl : lv_has ls 6 [(0, .ref (q (0))), (1, .int x1), (2, .int x2)]) (hp : sX9_save_17 x1 x2 sx0 σ = some (r, u)) : W p l e rmX9_save s m args below meth c H locs 0 0 (MQ below (gQi D vwCl r (gS 39 q (MX cy q) u) (gA 39 q)) args s 0 0 (gA 39 q)) (F0 m 17 ls [.int sx0]) := by
  obtain ⟨hx, hb, hr, hml, hown, hts, hlocks⟩ := id C0
  unfold sX9_save_17 at hp
  refine lv_istore_n (lv' := [(3, .int sx0), (0, .ref (q (0))), (1, .int x1), (2, .int x2)]) hx hb dX9_save_17 rfl hl (by decide) rfl (fun ls hl => ?_)
  refine lv_aload_n hx hb dX9_save_18 rfl (lv_at hl 1 rfl) ?_
  refine lv_iload_n hx hb dX9_save_19 rfl (lv_at hl 0 rfl) ?_
  refine lv_iconst (v := (-1 : Int32)) hx hb dX9_save_20 (by decide) ?_
  refine lv_icmp_ne (tgt := 28) hx hb dX9_save_21 (by decide) (fun hcd16 => ?_) (fun hcd16 => ?_)
  · have hp := o_f hp hcd16
    refine lv_iconst (v := (0 : Int32)) hx hb dX9_save_28 (by decide) ?_
    exact kX9_save_29 C0 hK hJ  hP hS (lv_sub hl [1, 2, 3, 0] rfl) hp
  · have hp := o_t hp hcd16
    refine lv_iconst (v := (2 : Int32)) hx hb dX9_save_24 (by decide) ?_
    refine lv_goto (tgt := 29) hx hb dX9_save_25 (by decide) ?_
    exact kX9_save_29 C0 hK hJ  hP hS (lv_sub hl [1, 2, 3, 0] rfl) hp
def sX9_save_8 (x1 : Int32) (x2 : Int32) (sx0 : Int32) (σ : TS) : Option (Int32 × TS) := (if sx0 = 0 then ((sX9_lowest σ).bind (fun z => sX9_save_17 x1 x2 z.1 z.2)) else some ((0 : Int32), σ))
set_option maxHeartbeats 4000000 in
set_option maxRecDepth 100000 in
theorem kX9_save_8 {r : Int32} {u : TS} (C0 : gC RX9 cX9_save 6 ((some .int)) wsX9_save p s m args meth c) (hK : va_K D vwCl (tyL cy) s) (hJ : gJ 39 q) {H : Heap} {locs : List Loc} {σ : TS} {x1 : Int32} {x2 : Int32} {sx0 : Int32} (hP : va_P D vwCl (gS 39 q (MX cy q) σ) H) (hS : va_S (gA 39 q) s.heap H locs) {ls : Array Slot} (hl : lv_has ls 6 [(0, .ref (q (0))), (1, .int x1), (2, .int x2)]) (hp : sX9_save_8 x1 x2 sx0 σ = some (r, u)) : W p l e rmX9_save s m args below meth c H locs 0 0 (MQ below (gQi D vwCl r (gS 39 q (MX cy q) u) (gA 39 q)) args s 0 0 (gA 39 q)) (F0 m 8 ls [.int sx0]) := by
  obtain ⟨hx, hb, hr, hml, hown, hts, hlocks⟩ := id C0
  unfold sX9_save_8 at hp
  refine lv_if_eq (tgt := 13) hx hb dX9_save_8 (by decide) (fun hcd17 => ?_) (fun hcd17 => ?_)
  · have hp := o_t hp hcd17
    refine lv_aload_n hx hb dX9_save_13 rfl (lv_at hl 0 rfl) ?_
    obtain ⟨⟨r18, u19⟩, hq20, hp⟩ := o_b hp
    refine g_cVi (As := []) (rest := []) hx hb hml hown hts hK hP hS (mX9_lowest l hJ hq20) (cwV 0 hts gX9_save_X9_lowest rfl rfl rfl nVX9_lowest ⟨Nat.le_of_ble_eq_true rfl, Nat.le_of_ble_eq_true rfl⟩) (g_recv hK hP (kk_Mod) (ce_Mod) rfl) rfl hl.1 rfl (Nat.le_of_ble_eq_true rfl) dX9_save_14 ⟨Nat.le_of_ble_eq_true rfl, Nat.le_of_ble_eq_true rfl⟩ (fun H locs hP hS => ?_)
    exact kX9_save_17 C0 hK hJ  hP hS hl hp
  · have hp := o_f hp hcd17
    refine lv_iconst (v := (0 : Int32)) hx hb dX9_save_11 (by decide) ?_
    obtain ⟨rfl, rfl⟩ := o_r hp
    exact W.iret (v := (0 : Int32)) hx hb hr (fun t ht hW => ⟨⟨(0 : Int32), (), rfl, rfl, by subst ht; exact hP⟩, hS.F ht⟩) hS.2.2 dX9_save_12
def sX9_save_5 (x1 : Int32) (x2 : Int32) (sx1 : Int32) (σ : TS) : Option (Int32 × TS) := ((sX9_isOut sx1 σ).bind (fun z => sX9_save_8 x1 x2 z.1 z.2))
set_option maxHeartbeats 4000000 in
set_option maxRecDepth 100000 in
theorem kX9_save_5 {r : Int32} {u : TS} (C0 : gC RX9 cX9_save 6 ((some .int)) wsX9_save p s m args meth c) (hK : va_K D vwCl (tyL cy) s) (hJ : gJ 39 q) {H : Heap} {locs : List Loc} {σ : TS} {x1 : Int32} {x2 : Int32} {sx1 : Int32} (hP : va_P D vwCl (gS 39 q (MX cy q) σ) H) (hS : va_S (gA 39 q) s.heap H locs) {ls : Array Slot} (hl : lv_has ls 6 [(0, .ref (q (0))), (1, .int x1), (2, .int x2)]) (hp : sX9_save_5 x1 x2 sx1 σ = some (r, u)) : W p l e rmX9_save s m args below meth c H locs 0 0 (MQ below (gQi D vwCl r (gS 39 q (MX cy q) u) (gA 39 q)) args s 0 0 (gA 39 q)) (F0 m 5 ls [.int sx1, .ref (q (0))]) := by
  obtain ⟨hx, hb, hr, hml, hown, hts, hlocks⟩ := id C0
  unfold sX9_save_5 at hp
  obtain ⟨⟨r21, u22⟩, hq23, hp⟩ := o_b hp
  refine g_cVi (As := [.int sx1]) (rest := []) hx hb hml hown hts hK hP hS (mX9_isOut l hJ hq23) (cwV 1 hts gX9_save_X9_isOut rfl rfl rfl nVX9_isOut ⟨Nat.le_of_ble_eq_true rfl, Nat.le_of_ble_eq_true rfl⟩) (g_recv hK hP (kk_Mod) (ce_Mod) rfl) rfl hl.1 rfl (Nat.le_of_ble_eq_true rfl) dX9_save_5 ⟨Nat.le_of_ble_eq_true rfl, Nat.le_of_ble_eq_true rfl⟩ (fun H locs hP hS => ?_)
  exact kX9_save_8 C0 hK hJ  hP hS hl hp
def sX9_save_0 (x1 : Int32) (x2 : Int32) (σ : TS) : Option (Int32 × TS) := ((sX9_isThree x1 σ).bind (fun z => sX9_save_5 x1 x2 z.1 z.2))
set_option maxHeartbeats 4000000 in
set_option maxRecDepth 100000 in
theorem kX9_save_0 {r : Int32} {u : TS} (C0 : gC RX9 cX9_save 6 ((some .int)) wsX9_save p s m args meth c) (hK : va_K D vwCl (tyL cy) s) (hJ : gJ 39 q) {H : Heap} {locs : List Loc} {σ : TS} {x1 : Int32} {x2 : Int32} (hP : va_P D vwCl (gS 39 q (MX cy q) σ) H) (hS : va_S (gA 39 q) s.heap H locs) {ls : Array Slot} (hl : lv_has ls 6 [(0, .ref (q (0))), (1, .int x1), (2, .int x2)]) (hp : sX9_save_0 x1 x2 σ = some (r, u)) : W p l e rmX9_save s m args below meth c H locs 0 0 (MQ below (gQi D vwCl r (gS 39 q (MX cy q) u) (gA 39 q)) args s 0 0 (gA 39 q)) (F0 m 0 ls []) := by
  obtain ⟨hx, hb, hr, hml, hown, hts, hlocks⟩ := id C0
  unfold sX9_save_0 at hp
  refine lv_aload_n hx hb dX9_save_0 rfl (lv_at hl 0 rfl) ?_
  refine lv_iload_n hx hb dX9_save_1 rfl (lv_at hl 1 rfl) ?_
  obtain ⟨⟨r24, u25⟩, hq26, hp⟩ := o_b hp
  refine g_cSi (As := [.int x1]) (rest := [.ref (q (0))]) hx hb hml hown hts hK hP hS (mX9_isThree l hJ hq26) (va_cwS 1 hts gX9_save_X9_isThree rfl rfl rfl nVX9_isThree ⟨Nat.le_of_ble_eq_true rfl, Nat.le_of_ble_eq_true rfl⟩) rfl hl.1 rfl (Nat.le_of_ble_eq_true rfl) dX9_save_2 ⟨Nat.le_of_ble_eq_true rfl, Nat.le_of_ble_eq_true rfl⟩ (fun H locs hP hS => ?_)
  exact kX9_save_5 C0 hK hJ  hP hS hl hp
def sX9_save (x1 : Int32) (x2 : Int32) (σ : TS) : Option (Int32 × TS) := sX9_save_0 x1 x2 σ
theorem nVX9_save : yX9_save.cls = RX9 ∧ yX9_save.cls ≠ "java/lang/invoke/MethodHandle" ∧ yX9_save.cls ≠ "java/lang/invoke/VarHandle" ∧ (parseMethodDescriptor yX9_save.desc).map (fun d => d.parameters.length) = some 2 := by decide +kernel
set_option maxHeartbeats 4000000 in
set_option maxRecDepth 100000 in
theorem mX9_save (l : Launch) (hJ : gJ 39 q) {x1 : Int32} {x2 : Int32} {σ : TS} {r : Int32} {u : TS} (hp : sX9_save x1 x2 σ = some (r, u)) : Met l yX9_save wsX9_save rmX9_save (va_Pc [.ref (q (0)), .int x1, .int x2] (gPre D vwCl (tyL cy) (gS 39 q (MX cy q) σ))) (gQi D vwCl r (gS 39 q (MX cy q) u) (gA 39 q)) 0 0 (gA 39 q) := by
  refine Met.ofW (cc := cX9_save) (maxL := 6) (ret := (some .int)) (by decide +kernel) rfl ?_
  intro p e s m args below meth c s₁ B hml hv
  obtain ⟨rfl, hP, hK⟩ := hv
  have hl := lv_entry ([.ref (q (0)), .int x1, .int x2]) (n := 6) (Nat.le_of_ble_eq_true rfl)
  rw [lg_entry_eq]
  generalize (lg_sl ([.ref (q (0)), .int x1, .int x2]) ++ List.replicate (6 - (lg_sl ([.ref (q (0)), .int x1, .int x2])).length) Slot.unset).toArray = ls at hl ⊢
  have hl : lv_has ls 6 [(0, .ref (q (0))), (1, .int x1), (2, .int x2)] := hl
  exact kX9_save_0 ⟨B.exec, B.bytes, B.returns, hml, findClass_of_methodNamed B.named, atoms_spec (ws := wsX9_save) B.pre, B.notSynchronized⟩ hK hJ  hP va_S.rf hl hp
theorem miX9_load_X9 : ∀ w ∈ u_ws RX9 TX9 44, w ∈ wsX9_load := by decide +kernel
theorem mwX9_load_0 : Cond.fieldLink RX9 38 "TriplaneModel" "isOff" "[Z" ∈ wsX9_load := by decide +kernel
theorem mwX9_load_1 : Cond.fieldLink RX9 26 "TriplaneModel" "words" "[I" ∈ wsX9_load := by decide +kernel
theorem mwX9_load_2 : Cond.fieldLink RX9 99 "TriplaneModel" "copies" "[I" ∈ wsX9_load := by decide +kernel
theorem mwX9_load_3 : Cond.fieldLink RX9 29 "TriplaneModel" "flips" "[I" ∈ wsX9_load := by decide +kernel
theorem mwX9_load_4 : Cond.fieldLink RX9 130 "TriplaneModel" "thrown" "I" ∈ wsX9_load := by decide +kernel
theorem mwX9_load_5 : Cond.fieldLink RX9 105 "TriplaneModel" "newest" "[I" ∈ wsX9_load := by decide +kernel
abbrev rmX9_load : Room := { frames := 2, cells := 0, slots := 0, locals := 42 }
def sX9_load_133 (K59 : Int32 → Int32 → Int32 → TS → Option (Int32 × TS)) (x1 : Int32) (x2 : Int32) (x3 : Int32) (σ : TS) : Option (Int32 × TS) := K59 x1 x2 (x3 + (1 : Int32)) σ
set_option maxHeartbeats 4000000 in
set_option maxRecDepth 100000 in
theorem kX9_load_133 {r : Int32} {u : TS} {K59 : Int32 → Int32 → Int32 → TS → Option (Int32 × TS)} (C0 : gC RX9 cX9_load 5 ((some .int)) wsX9_load p s m args meth c) (hK : va_K D vwCl (tyL cy) s) (hJ : gJ 39 q) (kh59 : ∀ (H : Heap) (locs : List Loc) (σ : TS) (x1 : Int32) (x2 : Int32) (x3 : Int32) (hP : va_P D vwCl (gS 39 q (MX cy q) σ) H) (hS : va_S (gA 39 q) s.heap H locs) (ls : Array Slot) (hl : lv_has ls 5 [(0, .ref (q (0))), (1, .int x1), (2, .int x2), (3, .int x3)]) (hp : K59 x1 x2 x3 σ = some (r, u)), W p l e rmX9_load s m args below meth c H locs 0 0 (MQ below (gQi D vwCl r (gS 39 q (MX cy q) u) (gA 39 q)) args s 0 0 (gA 39 q)) (F0 m 59 ls [])) {H : Heap} {locs : List Loc} {σ : TS} {x1 : Int32} {x2 : Int32} {x3 : Int32} (hP : va_P D vwCl (gS 39 q (MX cy q) σ) H) (hS : va_S (gA 39 q) s.heap H locs) {ls : Array Slot} (hl : lv_has ls 5 [(0, .ref (q (0))), (1, .int x1), (2, .int x2), (3, .int x3)]) (hp : sX9_load_133 K59 x1 x2 x3 σ = some (r, u)) : W p l e rmX9_load s m args below meth c H locs 0 0 (MQ below (gQi D vwCl r (gS 39 q (MX cy q) u) (gA 39 q)) args s 0 0 (gA 39 q)) (F0 m 133 ls []) := by
  obtain ⟨hx, hb, hr, hml, hown, hts, hlocks⟩ := id C0
  unfold sX9_load_133 at hp
  refine lv_iinc (v := x3 + (1 : Int32)) (lv' := [(3, .int (x3 + (1 : Int32))), (0, .ref (q (0))), (1, .int x1), (2, .int x2)]) hx hb dX9_load_133 hl (k := 3) rfl rfl (by decide) rfl (fun ls hl => ?_)
  refine lv_goto (tgt := 59) hx hb dX9_load_136 (by decide) ?_
  exact kh59 _ _ _ _ _ _  hP hS _ (lv_sub hl [1, 2, 3, 0] rfl) hp
def sX9_load_67 (K59 : Int32 → Int32 → Int32 → TS → Option (Int32 × TS)) : Nat → Int32 → Int32 → Int32 → Int32 → TS → Option (Int32 × TS)
  | 0, _, _, _, _, _ => none
  | n + 1, x1, x2, x3, x4, σ => (if ((6 : Int32)) ≤ x4 then sX9_load_133 K59 x1 x2 x3 σ else (if vin x3 4 = true then (if (σ 10 (x3.toNatClampNeg)) = 0 then (if vin (x2 + x4) 36 = true then (if vin (((x3 * ((18 : Int32))) + (x1 * ((6 : Int32)))) + x4) 72 = true then sX9_load_67 K59 n x1 x2 x3 (x4 + (1 : Int32)) (st2 (st2 σ 6 ((((x3 * ((18 : Int32))) + (x1 * ((6 : Int32)))) + x4).toNatClampNeg) (σ 30 ((x2 + x4).toNatClampNeg))) 7 ((((x3 * ((18 : Int32))) + (x1 * ((6 : Int32)))) + x4).toNatClampNeg) ((0 : Int32))) else none) else none) else sX9_load_133 K59 x1 x2 x3 σ) else none))
set_option maxHeartbeats 4000000 in
set_option maxRecDepth 100000 in
theorem kX9_load_67 {r : Int32} {u : TS} {K59 : Int32 → Int32 → Int32 → TS → Option (Int32 × TS)} (C0 : gC RX9 cX9_load 5 ((some .int)) wsX9_load p s m args meth c) (hK : va_K D vwCl (tyL cy) s) (hJ : gJ 39 q) (kh59 : ∀ (H : Heap) (locs : List Loc) (σ : TS) (x1 : Int32) (x2 : Int32) (x3 : Int32) (hP : va_P D vwCl (gS 39 q (MX cy q) σ) H) (hS : va_S (gA 39 q) s.heap H locs) (ls : Array Slot) (hl : lv_has ls 5 [(0, .ref (q (0))), (1, .int x1), (2, .int x2), (3, .int x3)]) (hp : K59 x1 x2 x3 σ = some (r, u)), W p l e rmX9_load s m args below meth c H locs 0 0 (MQ below (gQi D vwCl r (gS 39 q (MX cy q) u) (gA 39 q)) args s 0 0 (gA 39 q)) (F0 m 59 ls [])) : ∀ (n : Nat) (H : Heap) (locs : List Loc) (σ : TS) (x1 : Int32) (x2 : Int32) (x3 : Int32) (x4 : Int32) (hP : va_P D vwCl (gS 39 q (MX cy q) σ) H) (hS : va_S (gA 39 q) s.heap H locs) (ls : Array Slot) (hl : lv_has ls 5 [(0, .ref (q (0))), (1, .int x1), (2, .int x2), (3, .int x3), (4, .int x4)]) (hp : sX9_load_67 K59 n x1 x2 x3 x4 σ = some (r, u)), W p l e rmX9_load s m args below meth c H locs 0 0 (MQ below (gQi D vwCl r (gS 39 q (MX cy q) u) (gA 39 q)) args s 0 0 (gA 39 q)) (F0 m 67 ls []) := by
  obtain ⟨hx, hb, hr, hml, hown, hts, hlocks⟩ := id C0
  intro n
  induction n with
  | zero =>
    intro H locs σ x1 x2 x3 x4 hP hS ls hl hp
    cases hp
  | succ n ih =>
    intro H locs σ x1 x2 x3 x4 hP hS ls hl hp
    unfold sX9_load_67 at hp
    refine lv_iload hx hb dX9_load_67 (lv_at hl 4 rfl) ?_
    refine lv_bipush (v := (6 : Int32)) hx hb dX9_load_69 (by decide) ?_
    refine lv_icmp_ge (tgt := 133) hx hb dX9_load_71 (by decide) (fun hcd1 => ?_) (fun hcd1 => ?_)
    · have hp := o_t hp hcd1
      exact kX9_load_133 C0 hK hJ kh59  hP hS (lv_sub hl [0, 1, 2, 3] rfl) hp
    · have hp := o_f hp hcd1
      refine lv_aload_n hx hb dX9_load_74 rfl (lv_at hl 0 rfl) ?_
      refine g_get (v := .ref (q (10))) hx hb hts miX9_load_X9 hown hK hP (kk_Mod) (ce_Mod) rfl 12 (by decide) mwX9_load_0 rfl dX9_load_75 ?_
      refine lv_iload_n hx hb dX9_load_78 rfl (lv_at hl 3 rfl) ?_
      obtain ⟨hi2, hp⟩ := o_chk hp
      refine g_zald (j := x3.toNatClampNeg) hx hb hK hP (kk_M_isOff) (ce_M_isOff) 1 rfl (vin_of hi2) rfl dX9_load_79 ?_
      refine lv_if_ne (tgt := 133) hx hb dX9_load_80 (by decide) (fun hcd3 => ?_) (fun hcd3 => ?_)
      · have hp := o_f hp hcd3
        exact kX9_load_133 C0 hK hJ kh59  hP hS (lv_sub hl [0, 1, 2, 3] rfl) hp
      · have hp := o_t hp hcd3
        refine lv_aload_n hx hb dX9_load_83 rfl (lv_at hl 0 rfl) ?_
        refine g_get (v := .ref (q (6))) hx hb hts miX9_load_X9 hown hK hP (kk_Mod) (ce_Mod) rfl 8 (by decide) mwX9_load_1 rfl dX9_load_84 ?_
        refine lv_iload_n hx hb dX9_load_87 rfl (lv_at hl 3 rfl) ?_
        refine lv_bipush (v := (18 : Int32)) hx hb dX9_load_88 (by decide) ?_
        refine lv_imul hx hb dX9_load_90 ?_
        refine lv_iload_n hx hb dX9_load_91 rfl (lv_at hl 1 rfl) ?_
        refine lv_bipush (v := (6 : Int32)) hx hb dX9_load_92 (by decide) ?_
        refine lv_imul hx hb dX9_load_94 ?_
        refine lv_iadd hx hb dX9_load_95 ?_
        refine lv_iload hx hb dX9_load_96 (lv_at hl 4 rfl) ?_
        refine lv_iadd hx hb dX9_load_98 ?_
        refine lv_aload_n hx hb dX9_load_99 rfl (lv_at hl 0 rfl) ?_
        refine g_get (v := .ref (q (30))) hx hb hts miX9_load_X9 hown hK hP (kk_Mod) (ce_Mod) rfl 32 (by decide) mwX9_load_2 rfl dX9_load_100 ?_
        refine lv_iload_n hx hb dX9_load_103 rfl (lv_at hl 2 rfl) ?_
        refine lv_iload hx hb dX9_load_104 (lv_at hl 4 rfl) ?_
        refine lv_iadd hx hb dX9_load_106 ?_
        obtain ⟨hi4, hp⟩ := o_chk hp
        refine g_iald (j := (x2 + x4).toNatClampNeg) hx hb hK hP (kk_M_copies) (ce_M_copies) 0 rfl (vin_of hi4) rfl dX9_load_107 ?_
        obtain ⟨hi5, hp⟩ := o_chk hp
        refine g_iast (j := (((x3 * ((18 : Int32))) + (x1 * ((6 : Int32)))) + x4).toNatClampNeg) hx hb hK hJ hP hS (kk_M_words) (ce_M_words) 0 rfl (vin_of hi5) rfl dX9_load_108 (fun H locs hP hS => ?_)
        refine lv_aload_n hx hb dX9_load_109 rfl (lv_at hl 0 rfl) ?_
        refine g_get (v := .ref (q (7))) hx hb hts miX9_load_X9 hown hK hP (kk_Mod) (ce_Mod) rfl 9 (by decide) mwX9_load_3 rfl dX9_load_110 ?_
        refine lv_iload_n hx hb dX9_load_113 rfl (lv_at hl 3 rfl) ?_
        refine lv_bipush (v := (18 : Int32)) hx hb dX9_load_114 (by decide) ?_
        refine lv_imul hx hb dX9_load_116 ?_
        refine lv_iload_n hx hb dX9_load_117 rfl (lv_at hl 1 rfl) ?_
        refine lv_bipush (v := (6 : Int32)) hx hb dX9_load_118 (by decide) ?_
        refine lv_imul hx hb dX9_load_120 ?_
        refine lv_iadd hx hb dX9_load_121 ?_
        refine lv_iload hx hb dX9_load_122 (lv_at hl 4 rfl) ?_
        refine lv_iadd hx hb dX9_load_124 ?_
        refine lv_iconst (v := (0 : Int32)) hx hb dX9_load_125 (by decide) ?_
        refine g_iast (j := (((x3 * ((18 : Int32))) + (x1 * ((6 : Int32)))) + x4).toNatClampNeg) hx hb hK hJ hP hS (kk_M_flips) (ce_M_flips) 0 rfl (vin_of hi5) rfl dX9_load_126 (fun H locs hP hS => ?_)
        refine lv_iinc (v := x4 + (1 : Int32)) (lv' := [(4, .int (x4 + (1 : Int32))), (0, .ref (q (0))), (1, .int x1), (2, .int x2), (3, .int x3)]) hx hb dX9_load_127 hl (k := 4) rfl rfl (by decide) rfl (fun ls hl => ?_)
        refine lv_goto (tgt := 67) hx hb dX9_load_130 (by decide) ?_
        exact ih _ _ _ _ _ _ _  hP hS _ (lv_sub hl [1, 2, 3, 4, 0] rfl) hp
def sX9_load_59 : Nat → Int32 → Int32 → Int32 → TS → Option (Int32 × TS)
  | 0, _, _, _, _ => none
  | n + 1, x1, x2, x3, σ => (if ((4 : Int32)) ≤ x3 then (if vin x2 36 = true then some (σ 30 (x2.toNatClampNeg), σ) else none) else sX9_load_67 (sX9_load_59 n) 7 x1 x2 x3 ((0 : Int32)) σ)
set_option maxHeartbeats 4000000 in
set_option maxRecDepth 100000 in
theorem kX9_load_59 {r : Int32} {u : TS} (C0 : gC RX9 cX9_load 5 ((some .int)) wsX9_load p s m args meth c) (hK : va_K D vwCl (tyL cy) s) (hJ : gJ 39 q) : ∀ (n : Nat) (H : Heap) (locs : List Loc) (σ : TS) (x1 : Int32) (x2 : Int32) (x3 : Int32) (hP : va_P D vwCl (gS 39 q (MX cy q) σ) H) (hS : va_S (gA 39 q) s.heap H locs) (ls : Array Slot) (hl : lv_has ls 5 [(0, .ref (q (0))), (1, .int x1), (2, .int x2), (3, .int x3)]) (hp : sX9_load_59 n x1 x2 x3 σ = some (r, u)), W p l e rmX9_load s m args below meth c H locs 0 0 (MQ below (gQi D vwCl r (gS 39 q (MX cy q) u) (gA 39 q)) args s 0 0 (gA 39 q)) (F0 m 59 ls []) := by
  obtain ⟨hx, hb, hr, hml, hown, hts, hlocks⟩ := id C0
  intro n
  induction n with
  | zero =>
    intro H locs σ x1 x2 x3 hP hS ls hl hp
    cases hp
  | succ n ih =>
    intro H locs σ x1 x2 x3 hP hS ls hl hp
    unfold sX9_load_59 at hp
    refine lv_iload_n hx hb dX9_load_59 rfl (lv_at hl 3 rfl) ?_
    refine lv_iconst (v := (4 : Int32)) hx hb dX9_load_60 (by decide) ?_
    refine lv_icmp_ge (tgt := 139) hx hb dX9_load_61 (by decide) (fun hcd6 => ?_) (fun hcd6 => ?_)
    · have hp := o_t hp hcd6
      refine lv_aload_n hx hb dX9_load_139 rfl (lv_at hl 0 rfl) ?_
      refine g_get (v := .ref (q (30))) hx hb hts miX9_load_X9 hown hK hP (kk_Mod) (ce_Mod) rfl 32 (by decide) mwX9_load_2 rfl dX9_load_140 ?_
      refine lv_iload_n hx hb dX9_load_143 rfl (lv_at hl 2 rfl) ?_
      obtain ⟨hi7, hp⟩ := o_chk hp
      refine g_iald (j := x2.toNatClampNeg) hx hb hK hP (kk_M_copies) (ce_M_copies) 0 rfl (vin_of hi7) rfl dX9_load_144 ?_
      obtain ⟨rfl, rfl⟩ := o_r hp
      exact W.iret (v := σ 30 (x2.toNatClampNeg)) hx hb hr (fun t ht hW => ⟨⟨σ 30 (x2.toNatClampNeg), (), rfl, rfl, by subst ht; exact hP⟩, hS.F ht⟩) hS.2.2 dX9_load_145
    · have hp := o_f hp hcd6
      refine lv_iconst (v := (0 : Int32)) hx hb dX9_load_64 (by decide) ?_
      refine lv_istore (lv' := [(4, .int ((0 : Int32))), (0, .ref (q (0))), (1, .int x1), (2, .int x2), (3, .int x3)]) hx hb dX9_load_65 hl (by decide) rfl (fun ls hl => ?_)
      exact kX9_load_67 C0 hK hJ ih _ _ _ _ _ _ _ _  hP hS _ (lv_sub hl [1, 2, 3, 4, 0] rfl) hp
def sX9_load_28 (x1 : Int32) (sx1 : Int32) (σ : TS) : Option (Int32 × TS) := (if ((st2 σ 0 0 sx1) 0 0) ≤ 0 then (if vin x1 3 = true then sX9_load_59 5 x1 (((((st2 σ 0 0 sx1) 32 (x1.toNatClampNeg)) - ((1 : Int32))) * ((18 : Int32))) + (x1 * ((6 : Int32)))) ((0 : Int32)) (st2 σ 0 0 sx1) else none) else some ((0 : Int32), st2 σ 0 0 sx1))
set_option maxHeartbeats 4000000 in
set_option maxRecDepth 100000 in
theorem kX9_load_28 {r : Int32} {u : TS} (C0 : gC RX9 cX9_load 5 ((some .int)) wsX9_load p s m args meth c) (hK : va_K D vwCl (tyL cy) s) (hJ : gJ 39 q) {H : Heap} {locs : List Loc} {σ : TS} {x1 : Int32} {sx1 : Int32} (hP : va_P D vwCl (gS 39 q (MX cy q) σ) H) (hS : va_S (gA 39 q) s.heap H locs) {ls : Array Slot} (hl : lv_has ls 5 [(0, .ref (q (0))), (1, .int x1)]) (hp : sX9_load_28 x1 sx1 σ = some (r, u)) : W p l e rmX9_load s m args below meth c H locs 0 0 (MQ below (gQi D vwCl r (gS 39 q (MX cy q) u) (gA 39 q)) args s 0 0 (gA 39 q)) (F0 m 28 ls [.int sx1, .ref (q (0))]) := by
  obtain ⟨hx, hb, hr, hml, hown, hts, hlocks⟩ := id C0
  unfold sX9_load_28 at hp
  refine g_put (v := sx1) hx hb hts miX9_load_X9 tyX9 tyX9_ok nmX9 hown hK hJ hP hS (kk_Mod) (ce_Mod) rfl 0 (by decide) mwX9_load_4 rfl rfl rfl (Nat.le_of_ble_eq_true rfl) rfl dX9_load_28 (fun H locs hP hS => ?_)
  refine lv_aload_n hx hb dX9_load_31 rfl (lv_at hl 0 rfl) ?_
  refine g_get (v := .int ((st2 σ 0 0 sx1) 0 0)) hx hb hts miX9_load_X9 hown hK hP (kk_Mod) (ce_Mod) rfl 0 (by decide) mwX9_load_4 rfl dX9_load_32 ?_
  refine lv_if_le (tgt := 40) hx hb dX9_load_35 (by decide) (fun hcd8 => ?_) (fun hcd8 => ?_)
  · have hp := o_t hp hcd8
    refine lv_aload_n hx hb dX9_load_40 rfl (lv_at hl 0 rfl) ?_
    refine g_get (v := .ref (q (32))) hx hb hts miX9_load_X9 hown hK hP (kk_Mod) (ce_Mod) rfl 34 (by decide) mwX9_load_5 rfl dX9_load_41 ?_
    refine lv_iload_n hx hb dX9_load_44 rfl (lv_at hl 1 rfl) ?_
    obtain ⟨hi9, hp⟩ := o_chk hp
    refine g_iald (j := x1.toNatClampNeg) hx hb hK hP (kk_M_newest) (ce_M_newest) 0 rfl (vin_of hi9) rfl dX9_load_45 ?_
    refine lv_iconst (v := (1 : Int32)) hx hb dX9_load_46 (by decide) ?_
    refine lv_isub hx hb dX9_load_47 ?_
    refine lv_bipush (v := (18 : Int32)) hx hb dX9_load_48 (by decide) ?_
    refine lv_imul hx hb dX9_load_50 ?_
    refine lv_iload_n hx hb dX9_load_51 rfl (lv_at hl 1 rfl) ?_
    refine lv_bipush (v := (6 : Int32)) hx hb dX9_load_52 (by decide) ?_
    refine lv_imul hx hb dX9_load_54 ?_
    refine lv_iadd hx hb dX9_load_55 ?_
    refine lv_istore_n (lv' := [(2, .int (((((st2 σ 0 0 sx1) 32 (x1.toNatClampNeg)) - ((1 : Int32))) * ((18 : Int32))) + (x1 * ((6 : Int32))))), (0, .ref (q (0))), (1, .int x1)]) hx hb dX9_load_56 rfl hl (by decide) rfl (fun ls hl => ?_)
    refine lv_iconst (v := (0 : Int32)) hx hb dX9_load_57 (by decide) ?_
    refine lv_istore_n (lv' := [(3, .int ((0 : Int32))), (2, .int (((((st2 σ 0 0 sx1) 32 (x1.toNatClampNeg)) - ((1 : Int32))) * ((18 : Int32))) + (x1 * ((6 : Int32))))), (0, .ref (q (0))), (1, .int x1)]) hx hb dX9_load_58 rfl hl (by decide) rfl (fun ls hl => ?_)
    exact kX9_load_59 C0 hK hJ _ _ _ _ _ _ _  hP hS _ (lv_sub hl [2, 3, 1, 0] rfl) hp
  · have hp := o_f hp hcd8
    refine lv_iconst (v := (0 : Int32)) hx hb dX9_load_38 (by decide) ?_
    obtain ⟨rfl, rfl⟩ := o_r hp
    exact W.iret (v := (0 : Int32)) hx hb hr (fun t ht hW => ⟨⟨(0 : Int32), (), rfl, rfl, by subst ht; exact hP⟩, hS.F ht⟩) hS.2.2 dX9_load_39
def sX9_load_8 (x1 : Int32) (sx0 : Int32) (σ : TS) : Option (Int32 × TS) := (if sx0 = 0 then (if vin x1 3 = true then (if (σ 32 (x1.toNatClampNeg)) = 0 then sX9_load_28 x1 ((2 : Int32)) σ else sX9_load_28 x1 ((0 : Int32)) σ) else none) else some ((0 : Int32), σ))
set_option maxHeartbeats 4000000 in
set_option maxRecDepth 100000 in
theorem kX9_load_8 {r : Int32} {u : TS} (C0 : gC RX9 cX9_load 5 ((some .int)) wsX9_load p s m args meth c) (hK : va_K D vwCl (tyL cy) s) (hJ : gJ 39 q) {H : Heap} {locs : List Loc} {σ : TS} {x1 : Int32} {sx0 : Int32} (hP : va_P D vwCl (gS 39 q (MX cy q) σ) H) (hS : va_S (gA 39 q) s.heap H locs) {ls : Array Slot} (hl : lv_has ls 5 [(0, .ref (q (0))), (1, .int x1)]) (hp : sX9_load_8 x1 sx0 σ = some (r, u)) : W p l e rmX9_load s m args below meth c H locs 0 0 (MQ below (gQi D vwCl r (gS 39 q (MX cy q) u) (gA 39 q)) args s 0 0 (gA 39 q)) (F0 m 8 ls [.int sx0]) := by
  obtain ⟨hx, hb, hr, hml, hown, hts, hlocks⟩ := id C0
  unfold sX9_load_8 at hp
  refine lv_if_eq (tgt := 13) hx hb dX9_load_8 (by decide) (fun hcd10 => ?_) (fun hcd10 => ?_)
  · have hp := o_t hp hcd10
    refine lv_aload_n hx hb dX9_load_13 rfl (lv_at hl 0 rfl) ?_
    refine lv_aload_n hx hb dX9_load_14 rfl (lv_at hl 0 rfl) ?_
    refine g_get (v := .ref (q (32))) hx hb hts miX9_load_X9 hown hK hP (kk_Mod) (ce_Mod) rfl 34 (by decide) mwX9_load_5 rfl dX9_load_15 ?_
    refine lv_iload_n hx hb dX9_load_18 rfl (lv_at hl 1 rfl) ?_
    obtain ⟨hi11, hp⟩ := o_chk hp
    refine g_iald (j := x1.toNatClampNeg) hx hb hK hP (kk_M_newest) (ce_M_newest) 0 rfl (vin_of hi11) rfl dX9_load_19 ?_
    refine lv_if_ne (tgt := 27) hx hb dX9_load_20 (by decide) (fun hcd12 => ?_) (fun hcd12 => ?_)
    · have hp := o_f hp hcd12
      refine lv_iconst (v := (0 : Int32)) hx hb dX9_load_27 (by decide) ?_
      exact kX9_load_28 C0 hK hJ  hP hS hl hp
    · have hp := o_t hp hcd12
      refine lv_iconst (v := (2 : Int32)) hx hb dX9_load_23 (by decide) ?_
      refine lv_goto (tgt := 28) hx hb dX9_load_24 (by decide) ?_
      exact kX9_load_28 C0 hK hJ  hP hS hl hp
  · have hp := o_f hp hcd10
    refine lv_iconst (v := (0 : Int32)) hx hb dX9_load_11 (by decide) ?_
    obtain ⟨rfl, rfl⟩ := o_r hp
    exact W.iret (v := (0 : Int32)) hx hb hr (fun t ht hW => ⟨⟨(0 : Int32), (), rfl, rfl, by subst ht; exact hP⟩, hS.F ht⟩) hS.2.2 dX9_load_12
def sX9_load_5 (x1 : Int32) (sx1 : Int32) (σ : TS) : Option (Int32 × TS) := ((sX9_isOut sx1 σ).bind (fun z => sX9_load_8 x1 z.1 z.2))
set_option maxHeartbeats 4000000 in
set_option maxRecDepth 100000 in
theorem kX9_load_5 {r : Int32} {u : TS} (C0 : gC RX9 cX9_load 5 ((some .int)) wsX9_load p s m args meth c) (hK : va_K D vwCl (tyL cy) s) (hJ : gJ 39 q) {H : Heap} {locs : List Loc} {σ : TS} {x1 : Int32} {sx1 : Int32} (hP : va_P D vwCl (gS 39 q (MX cy q) σ) H) (hS : va_S (gA 39 q) s.heap H locs) {ls : Array Slot} (hl : lv_has ls 5 [(0, .ref (q (0))), (1, .int x1)]) (hp : sX9_load_5 x1 sx1 σ = some (r, u)) : W p l e rmX9_load s m args below meth c H locs 0 0 (MQ below (gQi D vwCl r (gS 39 q (MX cy q) u) (gA 39 q)) args s 0 0 (gA 39 q)) (F0 m 5 ls [.int sx1, .ref (q (0))]) := by
  obtain ⟨hx, hb, hr, hml, hown, hts, hlocks⟩ := id C0
  unfold sX9_load_5 at hp
  obtain ⟨⟨r13, u14⟩, hq15, hp⟩ := o_b hp
  refine g_cVi (As := [.int sx1]) (rest := []) hx hb hml hown hts hK hP hS (mX9_isOut l hJ hq15) (cwV 1 hts gX9_load_X9_isOut rfl rfl rfl nVX9_isOut ⟨Nat.le_of_ble_eq_true rfl, Nat.le_of_ble_eq_true rfl⟩) (g_recv hK hP (kk_Mod) (ce_Mod) rfl) rfl hl.1 rfl (Nat.le_of_ble_eq_true rfl) dX9_load_5 ⟨Nat.le_of_ble_eq_true rfl, Nat.le_of_ble_eq_true rfl⟩ (fun H locs hP hS => ?_)
  exact kX9_load_8 C0 hK hJ  hP hS hl hp
def sX9_load_0 (x1 : Int32) (σ : TS) : Option (Int32 × TS) := ((sX9_isThree x1 σ).bind (fun z => sX9_load_5 x1 z.1 z.2))
set_option maxHeartbeats 4000000 in
set_option maxRecDepth 100000 in
theorem kX9_load_0 {r : Int32} {u : TS} (C0 : gC RX9 cX9_load 5 ((some .int)) wsX9_load p s m args meth c) (hK : va_K D vwCl (tyL cy) s) (hJ : gJ 39 q) {H : Heap} {locs : List Loc} {σ : TS} {x1 : Int32} (hP : va_P D vwCl (gS 39 q (MX cy q) σ) H) (hS : va_S (gA 39 q) s.heap H locs) {ls : Array Slot} (hl : lv_has ls 5 [(0, .ref (q (0))), (1, .int x1)]) (hp : sX9_load_0 x1 σ = some (r, u)) : W p l e rmX9_load s m args below meth c H locs 0 0 (MQ below (gQi D vwCl r (gS 39 q (MX cy q) u) (gA 39 q)) args s 0 0 (gA 39 q)) (F0 m 0 ls []) := by
  obtain ⟨hx, hb, hr, hml, hown, hts, hlocks⟩ := id C0
  unfold sX9_load_0 at hp
  refine lv_aload_n hx hb dX9_load_0 rfl (lv_at hl 0 rfl) ?_
  refine lv_iload_n hx hb dX9_load_1 rfl (lv_at hl 1 rfl) ?_
  obtain ⟨⟨r16, u17⟩, hq18, hp⟩ := o_b hp
  refine g_cSi (As := [.int x1]) (rest := [.ref (q (0))]) hx hb hml hown hts hK hP hS (mX9_isThree l hJ hq18) (va_cwS 1 hts gX9_load_X9_isThree rfl rfl rfl nVX9_isThree ⟨Nat.le_of_ble_eq_true rfl, Nat.le_of_ble_eq_true rfl⟩) rfl hl.1 rfl (Nat.le_of_ble_eq_true rfl) dX9_load_2 ⟨Nat.le_of_ble_eq_true rfl, Nat.le_of_ble_eq_true rfl⟩ (fun H locs hP hS => ?_)
  exact kX9_load_5 C0 hK hJ  hP hS hl hp
def sX9_load (x1 : Int32) (σ : TS) : Option (Int32 × TS) := sX9_load_0 x1 σ
theorem nVX9_load : yX9_load.cls = RX9 ∧ yX9_load.cls ≠ "java/lang/invoke/MethodHandle" ∧ yX9_load.cls ≠ "java/lang/invoke/VarHandle" ∧ (parseMethodDescriptor yX9_load.desc).map (fun d => d.parameters.length) = some 1 := by decide +kernel
set_option maxHeartbeats 4000000 in
set_option maxRecDepth 100000 in
theorem mX9_load (l : Launch) (hJ : gJ 39 q) {x1 : Int32} {σ : TS} {r : Int32} {u : TS} (hp : sX9_load x1 σ = some (r, u)) : Met l yX9_load wsX9_load rmX9_load (va_Pc [.ref (q (0)), .int x1] (gPre D vwCl (tyL cy) (gS 39 q (MX cy q) σ))) (gQi D vwCl r (gS 39 q (MX cy q) u) (gA 39 q)) 0 0 (gA 39 q) := by
  refine Met.ofW (cc := cX9_load) (maxL := 5) (ret := (some .int)) (by decide +kernel) rfl ?_
  intro p e s m args below meth c s₁ B hml hv
  obtain ⟨rfl, hP, hK⟩ := hv
  have hl := lv_entry ([.ref (q (0)), .int x1]) (n := 5) (Nat.le_of_ble_eq_true rfl)
  rw [lg_entry_eq]
  generalize (lg_sl ([.ref (q (0)), .int x1]) ++ List.replicate (5 - (lg_sl ([.ref (q (0)), .int x1])).length) Slot.unset).toArray = ls at hl ⊢
  have hl : lv_has ls 5 [(0, .ref (q (0))), (1, .int x1)] := hl
  exact kX9_load_0 ⟨B.exec, B.bytes, B.returns, hml, findClass_of_methodNamed B.named, atoms_spec (ws := wsX9_load) B.pre, B.notSynchronized⟩ hK hJ  hP va_S.rf hl hp
theorem miX9_fault_X9 : ∀ w ∈ u_ws RX9 TX9 44, w ∈ wsX9_fault := by decide +kernel
theorem mwX9_fault_0 : Cond.fieldLink RX9 130 "TriplaneModel" "thrown" "I" ∈ wsX9_fault := by decide +kernel
theorem mwX9_fault_1 : Cond.fieldLink RX9 108 "TriplaneModel" "faults" "[I" ∈ wsX9_fault := by decide +kernel
abbrev rmX9_fault : Room := { frames := 2, cells := 0, slots := 0, locals := 42 }
def sX9_fault_47 (x1 : Int32) (x2 : Int32) (x3 : Int32) (sx1 : Int32) (σ : TS) : Option (Int32 × TS) := (if ((st2 σ 0 0 sx1) 0 0) ≤ 0 then (if vin ((x1 * ((3 : Int32))) + x2) 12 = true then some ((st2 σ 0 0 sx1) 33 (((x1 * ((3 : Int32))) + x2).toNatClampNeg), st2 (st2 σ 0 0 sx1) 33 (((x1 * ((3 : Int32))) + x2).toNatClampNeg) x3) else none) else some ((0 : Int32), st2 σ 0 0 sx1))
set_option maxHeartbeats 4000000 in
set_option maxRecDepth 100000 in
theorem kX9_fault_47 {r : Int32} {u : TS} (C0 : gC RX9 cX9_fault 5 ((some .int)) wsX9_fault p s m args meth c) (hK : va_K D vwCl (tyL cy) s) (hJ : gJ 39 q) {H : Heap} {locs : List Loc} {σ : TS} {x1 : Int32} {x2 : Int32} {x3 : Int32} {sx1 : Int32} (hP : va_P D vwCl (gS 39 q (MX cy q) σ) H) (hS : va_S (gA 39 q) s.heap H locs) {ls : Array Slot} (hl : lv_has ls 5 [(0, .ref (q (0))), (1, .int x1), (2, .int x2), (3, .int x3)]) (hp : sX9_fault_47 x1 x2 x3 sx1 σ = some (r, u)) : W p l e rmX9_fault s m args below meth c H locs 0 0 (MQ below (gQi D vwCl r (gS 39 q (MX cy q) u) (gA 39 q)) args s 0 0 (gA 39 q)) (F0 m 47 ls [.int sx1, .ref (q (0))]) := by
  obtain ⟨hx, hb, hr, hml, hown, hts, hlocks⟩ := id C0
  unfold sX9_fault_47 at hp
  refine g_put (v := sx1) hx hb hts miX9_fault_X9 tyX9 tyX9_ok nmX9 hown hK hJ hP hS (kk_Mod) (ce_Mod) rfl 0 (by decide) mwX9_fault_0 rfl rfl rfl (Nat.le_of_ble_eq_true rfl) rfl dX9_fault_47 (fun H locs hP hS => ?_)
  refine lv_aload_n hx hb dX9_fault_50 rfl (lv_at hl 0 rfl) ?_
  refine g_get (v := .int ((st2 σ 0 0 sx1) 0 0)) hx hb hts miX9_fault_X9 hown hK hP (kk_Mod) (ce_Mod) rfl 0 (by decide) mwX9_fault_0 rfl dX9_fault_51 ?_
  refine lv_if_le (tgt := 59) hx hb dX9_fault_54 (by decide) (fun hcd1 => ?_) (fun hcd1 => ?_)
  · have hp := o_t hp hcd1
    refine lv_aload_n hx hb dX9_fault_59 rfl (lv_at hl 0 rfl) ?_
    refine g_get (v := .ref (q (33))) hx hb hts miX9_fault_X9 hown hK hP (kk_Mod) (ce_Mod) rfl 35 (by decide) mwX9_fault_1 rfl dX9_fault_60 ?_
    refine lv_iload_n hx hb dX9_fault_63 rfl (lv_at hl 1 rfl) ?_
    refine lv_iconst (v := (3 : Int32)) hx hb dX9_fault_64 (by decide) ?_
    refine lv_imul hx hb dX9_fault_65 ?_
    refine lv_iload_n hx hb dX9_fault_66 rfl (lv_at hl 2 rfl) ?_
    refine lv_iadd hx hb dX9_fault_67 ?_
    obtain ⟨hi2, hp⟩ := o_chk hp
    refine g_iald (j := ((x1 * ((3 : Int32))) + x2).toNatClampNeg) hx hb hK hP (kk_M_faults) (ce_M_faults) 0 rfl (vin_of hi2) rfl dX9_fault_68 ?_
    refine lv_istore (lv' := [(4, .int ((st2 σ 0 0 sx1) 33 (((x1 * ((3 : Int32))) + x2).toNatClampNeg))), (0, .ref (q (0))), (1, .int x1), (2, .int x2), (3, .int x3)]) hx hb dX9_fault_69 hl (by decide) rfl (fun ls hl => ?_)
    refine lv_aload_n hx hb dX9_fault_71 rfl (lv_at hl 1 rfl) ?_
    refine g_get (v := .ref (q (33))) hx hb hts miX9_fault_X9 hown hK hP (kk_Mod) (ce_Mod) rfl 35 (by decide) mwX9_fault_1 rfl dX9_fault_72 ?_
    refine lv_iload_n hx hb dX9_fault_75 rfl (lv_at hl 2 rfl) ?_
    refine lv_iconst (v := (3 : Int32)) hx hb dX9_fault_76 (by decide) ?_
    refine lv_imul hx hb dX9_fault_77 ?_
    refine lv_iload_n hx hb dX9_fault_78 rfl (lv_at hl 3 rfl) ?_
    refine lv_iadd hx hb dX9_fault_79 ?_
    refine lv_iload_n hx hb dX9_fault_80 rfl (lv_at hl 4 rfl) ?_
    refine g_iast (j := ((x1 * ((3 : Int32))) + x2).toNatClampNeg) hx hb hK hJ hP hS (kk_M_faults) (ce_M_faults) 0 rfl (vin_of hi2) rfl dX9_fault_81 (fun H locs hP hS => ?_)
    refine lv_iload hx hb dX9_fault_82 (lv_at hl 0 rfl) ?_
    obtain ⟨rfl, rfl⟩ := o_r hp
    exact W.iret (v := (st2 σ 0 0 sx1) 33 (((x1 * ((3 : Int32))) + x2).toNatClampNeg)) hx hb hr (fun t ht hW => ⟨⟨(st2 σ 0 0 sx1) 33 (((x1 * ((3 : Int32))) + x2).toNatClampNeg), (), rfl, rfl, by subst ht; exact hP⟩, hS.F ht⟩) hS.2.2 dX9_fault_84
  · have hp := o_f hp hcd1
    refine lv_iconst (v := (0 : Int32)) hx hb dX9_fault_57 (by decide) ?_
    obtain ⟨rfl, rfl⟩ := o_r hp
    exact W.iret (v := (0 : Int32)) hx hb hr (fun t ht hW => ⟨⟨(0 : Int32), (), rfl, rfl, by subst ht; exact hP⟩, hS.F ht⟩) hS.2.2 dX9_fault_58
def sX9_fault_39 (x1 : Int32) (x2 : Int32) (x3 : Int32) (sx1 : Int32) (σ : TS) : Option (Int32 × TS) := (if sx1 = 0 then sX9_fault_47 x1 x2 x3 ((2 : Int32)) σ else sX9_fault_47 x1 x2 x3 ((0 : Int32)) σ)
set_option maxHeartbeats 4000000 in
set_option maxRecDepth 100000 in
theorem kX9_fault_39 {r : Int32} {u : TS} (C0 : gC RX9 cX9_fault 5 ((some .int)) wsX9_fault p s m args meth c) (hK : va_K D vwCl (tyL cy) s) (hJ : gJ 39 q) {H : Heap} {locs : List Loc} {σ : TS} {x1 : Int32} {x2 : Int32} {x3 : Int32} {sx1 : Int32} (hP : va_P D vwCl (gS 39 q (MX cy q) σ) H) (hS : va_S (gA 39 q) s.heap H locs) {ls : Array Slot} (hl : lv_has ls 5 [(0, .ref (q (0))), (1, .int x1), (2, .int x2), (3, .int x3)]) (hp : sX9_fault_39 x1 x2 x3 sx1 σ = some (r, u)) : W p l e rmX9_fault s m args below meth c H locs 0 0 (MQ below (gQi D vwCl r (gS 39 q (MX cy q) u) (gA 39 q)) args s 0 0 (gA 39 q)) (F0 m 39 ls [.int sx1, .ref (q (0))]) := by
  obtain ⟨hx, hb, hr, hml, hown, hts, hlocks⟩ := id C0
  unfold sX9_fault_39 at hp
  refine lv_if_eq (tgt := 46) hx hb dX9_fault_39 (by decide) (fun hcd3 => ?_) (fun hcd3 => ?_)
  · have hp := o_t hp hcd3
    refine lv_iconst (v := (2 : Int32)) hx hb dX9_fault_46 (by decide) ?_
    exact kX9_fault_47 C0 hK hJ  hP hS hl hp
  · have hp := o_f hp hcd3
    refine lv_iconst (v := (0 : Int32)) hx hb dX9_fault_42 (by decide) ?_
    refine lv_goto (tgt := 47) hx hb dX9_fault_43 (by decide) ?_
    exact kX9_fault_47 C0 hK hJ  hP hS hl hp
def sX9_fault_23 (x1 : Int32) (x2 : Int32) (x3 : Int32) (sx0 : Int32) (σ : TS) : Option (Int32 × TS) := (if sx0 = 0 then ((sX9_in x3 ((-999 : Int32)) ((999 : Int32)) σ).bind (fun z => sX9_fault_39 x1 x2 x3 z.1 z.2)) else some ((0 : Int32), σ))
set_option maxHeartbeats 4000000 in
set_option maxRecDepth 100000 in
theorem kX9_fault_23 {r : Int32} {u : TS} (C0 : gC RX9 cX9_fault 5 ((some .int)) wsX9_fault p s m args meth c) (hK : va_K D vwCl (tyL cy) s) (hJ : gJ 39 q) {H : Heap} {locs : List Loc} {σ : TS} {x1 : Int32} {x2 : Int32} {x3 : Int32} {sx0 : Int32} (hP : va_P D vwCl (gS 39 q (MX cy q) σ) H) (hS : va_S (gA 39 q) s.heap H locs) {ls : Array Slot} (hl : lv_has ls 5 [(0, .ref (q (0))), (1, .int x1), (2, .int x2), (3, .int x3)]) (hp : sX9_fault_23 x1 x2 x3 sx0 σ = some (r, u)) : W p l e rmX9_fault s m args below meth c H locs 0 0 (MQ below (gQi D vwCl r (gS 39 q (MX cy q) u) (gA 39 q)) args s 0 0 (gA 39 q)) (F0 m 23 ls [.int sx0]) := by
  obtain ⟨hx, hb, hr, hml, hown, hts, hlocks⟩ := id C0
  unfold sX9_fault_23 at hp
  refine lv_if_eq (tgt := 28) hx hb dX9_fault_23 (by decide) (fun hcd4 => ?_) (fun hcd4 => ?_)
  · have hp := o_t hp hcd4
    refine lv_aload_n hx hb dX9_fault_28 rfl (lv_at hl 0 rfl) ?_
    refine lv_iload_n hx hb dX9_fault_29 rfl (lv_at hl 3 rfl) ?_
    refine lv_sipush (v := (-999 : Int32)) hx hb dX9_fault_30 (by decide) ?_
    refine lv_sipush (v := (999 : Int32)) hx hb dX9_fault_33 (by decide) ?_
    obtain ⟨⟨r5, u6⟩, hq7, hp⟩ := o_b hp
    refine g_cSi (As := [.int x3, .int ((-999 : Int32)), .int ((999 : Int32))]) (rest := [.ref (q (0))]) hx hb hml hown hts hK hP hS (mX9_in l hJ hq7) (va_cwS 3 hts gX9_fault_X9_in rfl rfl rfl nVX9_in ⟨Nat.le_of_ble_eq_true rfl, Nat.le_of_ble_eq_true rfl⟩) rfl hl.1 rfl (Nat.le_of_ble_eq_true rfl) dX9_fault_36 ⟨Nat.le_of_ble_eq_true rfl, Nat.le_of_ble_eq_true rfl⟩ (fun H locs hP hS => ?_)
    exact kX9_fault_39 C0 hK hJ  hP hS hl hp
  · have hp := o_f hp hcd4
    refine lv_iconst (v := (0 : Int32)) hx hb dX9_fault_26 (by decide) ?_
    obtain ⟨rfl, rfl⟩ := o_r hp
    exact W.iret (v := (0 : Int32)) hx hb hr (fun t ht hW => ⟨⟨(0 : Int32), (), rfl, rfl, by subst ht; exact hP⟩, hS.F ht⟩) hS.2.2 dX9_fault_27
def sX9_fault_20 (x1 : Int32) (x2 : Int32) (x3 : Int32) (sx1 : Int32) (σ : TS) : Option (Int32 × TS) := ((sX9_isOut sx1 σ).bind (fun z => sX9_fault_23 x1 x2 x3 z.1 z.2))
set_option maxHeartbeats 4000000 in
set_option maxRecDepth 100000 in
theorem kX9_fault_20 {r : Int32} {u : TS} (C0 : gC RX9 cX9_fault 5 ((some .int)) wsX9_fault p s m args meth c) (hK : va_K D vwCl (tyL cy) s) (hJ : gJ 39 q) {H : Heap} {locs : List Loc} {σ : TS} {x1 : Int32} {x2 : Int32} {x3 : Int32} {sx1 : Int32} (hP : va_P D vwCl (gS 39 q (MX cy q) σ) H) (hS : va_S (gA 39 q) s.heap H locs) {ls : Array Slot} (hl : lv_has ls 5 [(0, .ref (q (0))), (1, .int x1), (2, .int x2), (3, .int x3)]) (hp : sX9_fault_20 x1 x2 x3 sx1 σ = some (r, u)) : W p l e rmX9_fault s m args below meth c H locs 0 0 (MQ below (gQi D vwCl r (gS 39 q (MX cy q) u) (gA 39 q)) args s 0 0 (gA 39 q)) (F0 m 20 ls [.int sx1, .ref (q (0))]) := by
  obtain ⟨hx, hb, hr, hml, hown, hts, hlocks⟩ := id C0
  unfold sX9_fault_20 at hp
  obtain ⟨⟨r8, u9⟩, hq10, hp⟩ := o_b hp
  refine g_cVi (As := [.int sx1]) (rest := []) hx hb hml hown hts hK hP hS (mX9_isOut l hJ hq10) (cwV 1 hts gX9_fault_X9_isOut rfl rfl rfl nVX9_isOut ⟨Nat.le_of_ble_eq_true rfl, Nat.le_of_ble_eq_true rfl⟩) (g_recv hK hP (kk_Mod) (ce_Mod) rfl) rfl hl.1 rfl (Nat.le_of_ble_eq_true rfl) dX9_fault_20 ⟨Nat.le_of_ble_eq_true rfl, Nat.le_of_ble_eq_true rfl⟩ (fun H locs hP hS => ?_)
  exact kX9_fault_23 C0 hK hJ  hP hS hl hp
def sX9_fault_19 (x1 : Int32) (x2 : Int32) (x3 : Int32) (σ : TS) : Option (Int32 × TS) := sX9_fault_20 x1 x2 x3 ((0 : Int32)) σ
set_option maxHeartbeats 4000000 in
set_option maxRecDepth 100000 in
theorem kX9_fault_19 {r : Int32} {u : TS} (C0 : gC RX9 cX9_fault 5 ((some .int)) wsX9_fault p s m args meth c) (hK : va_K D vwCl (tyL cy) s) (hJ : gJ 39 q) {H : Heap} {locs : List Loc} {σ : TS} {x1 : Int32} {x2 : Int32} {x3 : Int32} (hP : va_P D vwCl (gS 39 q (MX cy q) σ) H) (hS : va_S (gA 39 q) s.heap H locs) {ls : Array Slot} (hl : lv_has ls 5 [(0, .ref (q (0))), (1, .int x1), (2, .int x2), (3, .int x3)]) (hp : sX9_fault_19 x1 x2 x3 σ = some (r, u)) : W p l e rmX9_fault s m args below meth c H locs 0 0 (MQ below (gQi D vwCl r (gS 39 q (MX cy q) u) (gA 39 q)) args s 0 0 (gA 39 q)) (F0 m 19 ls [.ref (q (0))]) := by
  obtain ⟨hx, hb, hr, hml, hown, hts, hlocks⟩ := id C0
  unfold sX9_fault_19 at hp
  refine lv_iconst (v := (0 : Int32)) hx hb dX9_fault_19 (by decide) ?_
  exact kX9_fault_20 C0 hK hJ  hP hS hl hp
def sX9_fault_12 (x1 : Int32) (x2 : Int32) (x3 : Int32) (sx1 : Int32) (σ : TS) : Option (Int32 × TS) := (if sx1 = 0 then sX9_fault_19 x1 x2 x3 σ else sX9_fault_20 x1 x2 x3 ((1 : Int32)) σ)
set_option maxHeartbeats 4000000 in
set_option maxRecDepth 100000 in
theorem kX9_fault_12 {r : Int32} {u : TS} (C0 : gC RX9 cX9_fault 5 ((some .int)) wsX9_fault p s m args meth c) (hK : va_K D vwCl (tyL cy) s) (hJ : gJ 39 q) {H : Heap} {locs : List Loc} {σ : TS} {x1 : Int32} {x2 : Int32} {x3 : Int32} {sx1 : Int32} (hP : va_P D vwCl (gS 39 q (MX cy q) σ) H) (hS : va_S (gA 39 q) s.heap H locs) {ls : Array Slot} (hl : lv_has ls 5 [(0, .ref (q (0))), (1, .int x1), (2, .int x2), (3, .int x3)]) (hp : sX9_fault_12 x1 x2 x3 sx1 σ = some (r, u)) : W p l e rmX9_fault s m args below meth c H locs 0 0 (MQ below (gQi D vwCl r (gS 39 q (MX cy q) u) (gA 39 q)) args s 0 0 (gA 39 q)) (F0 m 12 ls [.int sx1, .ref (q (0))]) := by
  obtain ⟨hx, hb, hr, hml, hown, hts, hlocks⟩ := id C0
  unfold sX9_fault_12 at hp
  refine lv_if_eq (tgt := 19) hx hb dX9_fault_12 (by decide) (fun hcd11 => ?_) (fun hcd11 => ?_)
  · have hp := o_t hp hcd11
    exact kX9_fault_19 C0 hK hJ  hP hS hl hp
  · have hp := o_f hp hcd11
    refine lv_iconst (v := (1 : Int32)) hx hb dX9_fault_15 (by decide) ?_
    refine lv_goto (tgt := 20) hx hb dX9_fault_16 (by decide) ?_
    exact kX9_fault_20 C0 hK hJ  hP hS hl hp
def sX9_fault_5 (x1 : Int32) (x2 : Int32) (x3 : Int32) (sx1 : Int32) (σ : TS) : Option (Int32 × TS) := (if sx1 = 0 then sX9_fault_19 x1 x2 x3 σ else ((sX9_isThree x2 σ).bind (fun z => sX9_fault_12 x1 x2 x3 z.1 z.2)))
set_option maxHeartbeats 4000000 in
set_option maxRecDepth 100000 in
theorem kX9_fault_5 {r : Int32} {u : TS} (C0 : gC RX9 cX9_fault 5 ((some .int)) wsX9_fault p s m args meth c) (hK : va_K D vwCl (tyL cy) s) (hJ : gJ 39 q) {H : Heap} {locs : List Loc} {σ : TS} {x1 : Int32} {x2 : Int32} {x3 : Int32} {sx1 : Int32} (hP : va_P D vwCl (gS 39 q (MX cy q) σ) H) (hS : va_S (gA 39 q) s.heap H locs) {ls : Array Slot} (hl : lv_has ls 5 [(0, .ref (q (0))), (1, .int x1), (2, .int x2), (3, .int x3)]) (hp : sX9_fault_5 x1 x2 x3 sx1 σ = some (r, u)) : W p l e rmX9_fault s m args below meth c H locs 0 0 (MQ below (gQi D vwCl r (gS 39 q (MX cy q) u) (gA 39 q)) args s 0 0 (gA 39 q)) (F0 m 5 ls [.int sx1, .ref (q (0))]) := by
  obtain ⟨hx, hb, hr, hml, hown, hts, hlocks⟩ := id C0
  unfold sX9_fault_5 at hp
  refine lv_if_eq (tgt := 19) hx hb dX9_fault_5 (by decide) (fun hcd12 => ?_) (fun hcd12 => ?_)
  · have hp := o_t hp hcd12
    exact kX9_fault_19 C0 hK hJ  hP hS hl hp
  · have hp := o_f hp hcd12
    refine lv_iload_n hx hb dX9_fault_8 rfl (lv_at hl 2 rfl) ?_
    obtain ⟨⟨r13, u14⟩, hq15, hp⟩ := o_b hp
    refine g_cSi (As := [.int x2]) (rest := [.ref (q (0))]) hx hb hml hown hts hK hP hS (mX9_isThree l hJ hq15) (va_cwS 1 hts gX9_fault_X9_isThree rfl rfl rfl nVX9_isThree ⟨Nat.le_of_ble_eq_true rfl, Nat.le_of_ble_eq_true rfl⟩) rfl hl.1 rfl (Nat.le_of_ble_eq_true rfl) dX9_fault_9 ⟨Nat.le_of_ble_eq_true rfl, Nat.le_of_ble_eq_true rfl⟩ (fun H locs hP hS => ?_)
    exact kX9_fault_12 C0 hK hJ  hP hS hl hp
def sX9_fault_0 (x1 : Int32) (x2 : Int32) (x3 : Int32) (σ : TS) : Option (Int32 × TS) := ((sX9_isFour x1 σ).bind (fun z => sX9_fault_5 x1 x2 x3 z.1 z.2))
set_option maxHeartbeats 4000000 in
set_option maxRecDepth 100000 in
theorem kX9_fault_0 {r : Int32} {u : TS} (C0 : gC RX9 cX9_fault 5 ((some .int)) wsX9_fault p s m args meth c) (hK : va_K D vwCl (tyL cy) s) (hJ : gJ 39 q) {H : Heap} {locs : List Loc} {σ : TS} {x1 : Int32} {x2 : Int32} {x3 : Int32} (hP : va_P D vwCl (gS 39 q (MX cy q) σ) H) (hS : va_S (gA 39 q) s.heap H locs) {ls : Array Slot} (hl : lv_has ls 5 [(0, .ref (q (0))), (1, .int x1), (2, .int x2), (3, .int x3)]) (hp : sX9_fault_0 x1 x2 x3 σ = some (r, u)) : W p l e rmX9_fault s m args below meth c H locs 0 0 (MQ below (gQi D vwCl r (gS 39 q (MX cy q) u) (gA 39 q)) args s 0 0 (gA 39 q)) (F0 m 0 ls []) := by
  obtain ⟨hx, hb, hr, hml, hown, hts, hlocks⟩ := id C0
  unfold sX9_fault_0 at hp
  refine lv_aload_n hx hb dX9_fault_0 rfl (lv_at hl 0 rfl) ?_
  refine lv_iload_n hx hb dX9_fault_1 rfl (lv_at hl 1 rfl) ?_
  obtain ⟨⟨r16, u17⟩, hq18, hp⟩ := o_b hp
  refine g_cSi (As := [.int x1]) (rest := [.ref (q (0))]) hx hb hml hown hts hK hP hS (mX9_isFour l hJ hq18) (va_cwS 1 hts gX9_fault_X9_isFour rfl rfl rfl nVX9_isFour ⟨Nat.le_of_ble_eq_true rfl, Nat.le_of_ble_eq_true rfl⟩) rfl hl.1 rfl (Nat.le_of_ble_eq_true rfl) dX9_fault_2 ⟨Nat.le_of_ble_eq_true rfl, Nat.le_of_ble_eq_true rfl⟩ (fun H locs hP hS => ?_)
  exact kX9_fault_5 C0 hK hJ  hP hS hl hp
def sX9_fault (x1 : Int32) (x2 : Int32) (x3 : Int32) (σ : TS) : Option (Int32 × TS) := sX9_fault_0 x1 x2 x3 σ
theorem nVX9_fault : yX9_fault.cls = RX9 ∧ yX9_fault.cls ≠ "java/lang/invoke/MethodHandle" ∧ yX9_fault.cls ≠ "java/lang/invoke/VarHandle" ∧ (parseMethodDescriptor yX9_fault.desc).map (fun d => d.parameters.length) = some 3 := by decide +kernel
set_option maxHeartbeats 4000000 in
set_option maxRecDepth 100000 in
theorem mX9_fault (l : Launch) (hJ : gJ 39 q) {x1 : Int32} {x2 : Int32} {x3 : Int32} {σ : TS} {r : Int32} {u : TS} (hp : sX9_fault x1 x2 x3 σ = some (r, u)) : Met l yX9_fault wsX9_fault rmX9_fault (va_Pc [.ref (q (0)), .int x1, .int x2, .int x3] (gPre D vwCl (tyL cy) (gS 39 q (MX cy q) σ))) (gQi D vwCl r (gS 39 q (MX cy q) u) (gA 39 q)) 0 0 (gA 39 q) := by
  refine Met.ofW (cc := cX9_fault) (maxL := 5) (ret := (some .int)) (by decide +kernel) rfl ?_
  intro p e s m args below meth c s₁ B hml hv
  obtain ⟨rfl, hP, hK⟩ := hv
  have hl := lv_entry ([.ref (q (0)), .int x1, .int x2, .int x3]) (n := 5) (Nat.le_of_ble_eq_true rfl)
  rw [lg_entry_eq]
  generalize (lg_sl ([.ref (q (0)), .int x1, .int x2, .int x3]) ++ List.replicate (5 - (lg_sl ([.ref (q (0)), .int x1, .int x2, .int x3])).length) Slot.unset).toArray = ls at hl ⊢
  have hl : lv_has ls 5 [(0, .ref (q (0))), (1, .int x1), (2, .int x2), (3, .int x3)] := hl
  exact kX9_fault_0 ⟨B.exec, B.bytes, B.returns, hml, findClass_of_methodNamed B.named, atoms_spec (ws := wsX9_fault) B.pre, B.notSynchronized⟩ hK hJ  hP va_S.rf hl hp
theorem miX9_position_X9 : ∀ w ∈ u_ws RX9 TX9 44, w ∈ wsX9_position := by decide +kernel
theorem mwX9_position_0 : Cond.fieldLink RX9 111 "TriplaneModel" "positions" "[I" ∈ wsX9_position := by decide +kernel
abbrev rmX9_position : Room := { frames := 2, cells := 0, slots := 0, locals := 42 }
def sX9_position_21 (sx0 : Int32) (σ : TS) : Option (Int32 × TS) := some (sx0, σ)
set_option maxHeartbeats 4000000 in
set_option maxRecDepth 100000 in
theorem kX9_position_21 {r : Int32} {u : TS} (C0 : gC RX9 cX9_position 2 ((some .int)) wsX9_position p s m args meth c) (hK : va_K D vwCl (tyL cy) s) (hJ : gJ 39 q) {H : Heap} {locs : List Loc} {σ : TS} {sx0 : Int32} (hP : va_P D vwCl (gS 39 q (MX cy q) σ) H) (hS : va_S (gA 39 q) s.heap H locs) {ls : Array Slot} (hl : lv_has ls 2 []) (hp : sX9_position_21 sx0 σ = some (r, u)) : W p l e rmX9_position s m args below meth c H locs 0 0 (MQ below (gQi D vwCl r (gS 39 q (MX cy q) u) (gA 39 q)) args s 0 0 (gA 39 q)) (F0 m 21 ls [.int sx0]) := by
  obtain ⟨hx, hb, hr, hml, hown, hts, hlocks⟩ := id C0
  unfold sX9_position_21 at hp
  obtain ⟨rfl, rfl⟩ := o_r hp
  exact W.iret (v := sx0) hx hb hr (fun t ht hW => ⟨⟨sx0, (), rfl, rfl, by subst ht; exact hP⟩, hS.F ht⟩) hS.2.2 dX9_position_21
def sX9_position_8 (x1 : Int32) (sx0 : Int32) (σ : TS) : Option (Int32 × TS) := (if sx0 = 0 then (if vin x1 4 = true then sX9_position_21 (σ 34 (x1.toNatClampNeg)) σ else none) else sX9_position_21 ((0 : Int32)) σ)
set_option maxHeartbeats 4000000 in
set_option maxRecDepth 100000 in
theorem kX9_position_8 {r : Int32} {u : TS} (C0 : gC RX9 cX9_position 2 ((some .int)) wsX9_position p s m args meth c) (hK : va_K D vwCl (tyL cy) s) (hJ : gJ 39 q) {H : Heap} {locs : List Loc} {σ : TS} {x1 : Int32} {sx0 : Int32} (hP : va_P D vwCl (gS 39 q (MX cy q) σ) H) (hS : va_S (gA 39 q) s.heap H locs) {ls : Array Slot} (hl : lv_has ls 2 [(0, .ref (q (0))), (1, .int x1)]) (hp : sX9_position_8 x1 sx0 σ = some (r, u)) : W p l e rmX9_position s m args below meth c H locs 0 0 (MQ below (gQi D vwCl r (gS 39 q (MX cy q) u) (gA 39 q)) args s 0 0 (gA 39 q)) (F0 m 8 ls [.int sx0]) := by
  obtain ⟨hx, hb, hr, hml, hown, hts, hlocks⟩ := id C0
  unfold sX9_position_8 at hp
  refine lv_if_eq (tgt := 15) hx hb dX9_position_8 (by decide) (fun hcd1 => ?_) (fun hcd1 => ?_)
  · have hp := o_t hp hcd1
    refine lv_aload_n hx hb dX9_position_15 rfl (lv_at hl 0 rfl) ?_
    refine g_get (v := .ref (q (34))) hx hb hts miX9_position_X9 hown hK hP (kk_Mod) (ce_Mod) rfl 36 (by decide) mwX9_position_0 rfl dX9_position_16 ?_
    refine lv_iload_n hx hb dX9_position_19 rfl (lv_at hl 1 rfl) ?_
    obtain ⟨hi2, hp⟩ := o_chk hp
    refine g_iald (j := x1.toNatClampNeg) hx hb hK hP (kk_M_positions) (ce_M_positions) 0 rfl (vin_of hi2) rfl dX9_position_20 ?_
    exact kX9_position_21 C0 hK hJ  hP hS (lv_sub hl [] rfl) hp
  · have hp := o_f hp hcd1
    refine lv_iconst (v := (0 : Int32)) hx hb dX9_position_11 (by decide) ?_
    refine lv_goto (tgt := 21) hx hb dX9_position_12 (by decide) ?_
    exact kX9_position_21 C0 hK hJ  hP hS (lv_sub hl [] rfl) hp
def sX9_position_5 (x1 : Int32) (sx1 : Int32) (σ : TS) : Option (Int32 × TS) := ((sX9_isOut sx1 σ).bind (fun z => sX9_position_8 x1 z.1 z.2))
set_option maxHeartbeats 4000000 in
set_option maxRecDepth 100000 in
theorem kX9_position_5 {r : Int32} {u : TS} (C0 : gC RX9 cX9_position 2 ((some .int)) wsX9_position p s m args meth c) (hK : va_K D vwCl (tyL cy) s) (hJ : gJ 39 q) {H : Heap} {locs : List Loc} {σ : TS} {x1 : Int32} {sx1 : Int32} (hP : va_P D vwCl (gS 39 q (MX cy q) σ) H) (hS : va_S (gA 39 q) s.heap H locs) {ls : Array Slot} (hl : lv_has ls 2 [(0, .ref (q (0))), (1, .int x1)]) (hp : sX9_position_5 x1 sx1 σ = some (r, u)) : W p l e rmX9_position s m args below meth c H locs 0 0 (MQ below (gQi D vwCl r (gS 39 q (MX cy q) u) (gA 39 q)) args s 0 0 (gA 39 q)) (F0 m 5 ls [.int sx1, .ref (q (0))]) := by
  obtain ⟨hx, hb, hr, hml, hown, hts, hlocks⟩ := id C0
  unfold sX9_position_5 at hp
  obtain ⟨⟨r3, u4⟩, hq5, hp⟩ := o_b hp
  refine g_cVi (As := [.int sx1]) (rest := []) hx hb hml hown hts hK hP hS (mX9_isOut l hJ hq5) (cwV 1 hts gX9_position_X9_isOut rfl rfl rfl nVX9_isOut ⟨Nat.le_of_ble_eq_true rfl, Nat.le_of_ble_eq_true rfl⟩) (g_recv hK hP (kk_Mod) (ce_Mod) rfl) rfl hl.1 rfl (Nat.le_of_ble_eq_true rfl) dX9_position_5 ⟨Nat.le_of_ble_eq_true rfl, Nat.le_of_ble_eq_true rfl⟩ (fun H locs hP hS => ?_)
  exact kX9_position_8 C0 hK hJ  hP hS hl hp
def sX9_position_0 (x1 : Int32) (σ : TS) : Option (Int32 × TS) := ((sX9_isFour x1 σ).bind (fun z => sX9_position_5 x1 z.1 z.2))
set_option maxHeartbeats 4000000 in
set_option maxRecDepth 100000 in
theorem kX9_position_0 {r : Int32} {u : TS} (C0 : gC RX9 cX9_position 2 ((some .int)) wsX9_position p s m args meth c) (hK : va_K D vwCl (tyL cy) s) (hJ : gJ 39 q) {H : Heap} {locs : List Loc} {σ : TS} {x1 : Int32} (hP : va_P D vwCl (gS 39 q (MX cy q) σ) H) (hS : va_S (gA 39 q) s.heap H locs) {ls : Array Slot} (hl : lv_has ls 2 [(0, .ref (q (0))), (1, .int x1)]) (hp : sX9_position_0 x1 σ = some (r, u)) : W p l e rmX9_position s m args below meth c H locs 0 0 (MQ below (gQi D vwCl r (gS 39 q (MX cy q) u) (gA 39 q)) args s 0 0 (gA 39 q)) (F0 m 0 ls []) := by
  obtain ⟨hx, hb, hr, hml, hown, hts, hlocks⟩ := id C0
  unfold sX9_position_0 at hp
  refine lv_aload_n hx hb dX9_position_0 rfl (lv_at hl 0 rfl) ?_
  refine lv_iload_n hx hb dX9_position_1 rfl (lv_at hl 1 rfl) ?_
  obtain ⟨⟨r6, u7⟩, hq8, hp⟩ := o_b hp
  refine g_cSi (As := [.int x1]) (rest := [.ref (q (0))]) hx hb hml hown hts hK hP hS (mX9_isFour l hJ hq8) (va_cwS 1 hts gX9_position_X9_isFour rfl rfl rfl nVX9_isFour ⟨Nat.le_of_ble_eq_true rfl, Nat.le_of_ble_eq_true rfl⟩) rfl hl.1 rfl (Nat.le_of_ble_eq_true rfl) dX9_position_2 ⟨Nat.le_of_ble_eq_true rfl, Nat.le_of_ble_eq_true rfl⟩ (fun H locs hP hS => ?_)
  exact kX9_position_5 C0 hK hJ  hP hS hl hp
def sX9_position (x1 : Int32) (σ : TS) : Option (Int32 × TS) := sX9_position_0 x1 σ
theorem nVX9_position : yX9_position.cls = RX9 ∧ yX9_position.cls ≠ "java/lang/invoke/MethodHandle" ∧ yX9_position.cls ≠ "java/lang/invoke/VarHandle" ∧ (parseMethodDescriptor yX9_position.desc).map (fun d => d.parameters.length) = some 1 := by decide +kernel
set_option maxHeartbeats 4000000 in
set_option maxRecDepth 100000 in
theorem mX9_position (l : Launch) (hJ : gJ 39 q) {x1 : Int32} {σ : TS} {r : Int32} {u : TS} (hp : sX9_position x1 σ = some (r, u)) : Met l yX9_position wsX9_position rmX9_position (va_Pc [.ref (q (0)), .int x1] (gPre D vwCl (tyL cy) (gS 39 q (MX cy q) σ))) (gQi D vwCl r (gS 39 q (MX cy q) u) (gA 39 q)) 0 0 (gA 39 q) := by
  refine Met.ofW (cc := cX9_position) (maxL := 2) (ret := (some .int)) (by decide +kernel) rfl ?_
  intro p e s m args below meth c s₁ B hml hv
  obtain ⟨rfl, hP, hK⟩ := hv
  have hl := lv_entry ([.ref (q (0)), .int x1]) (n := 2) (Nat.le_of_ble_eq_true rfl)
  rw [lg_entry_eq]
  generalize (lg_sl ([.ref (q (0)), .int x1]) ++ List.replicate (2 - (lg_sl ([.ref (q (0)), .int x1])).length) Slot.unset).toArray = ls at hl ⊢
  have hl : lv_has ls 2 [(0, .ref (q (0))), (1, .int x1)] := hl
  exact kX9_position_0 ⟨B.exec, B.bytes, B.returns, hml, findClass_of_methodNamed B.named, atoms_spec (ws := wsX9_position) B.pre, B.notSynchronized⟩ hK hJ  hP va_S.rf hl hp
theorem miX9_hasLetGo_X9 : ∀ w ∈ u_ws RX9 TX9 44, w ∈ wsX9_hasLetGo := by decide +kernel
theorem mwX9_hasLetGo_0 : Cond.fieldLink RX9 114 "TriplaneModel" "hasLetGo" "[Z" ∈ wsX9_hasLetGo := by decide +kernel
abbrev rmX9_hasLetGo : Room := { frames := 2, cells := 0, slots := 0, locals := 42 }
def sX9_hasLetGo_25 (sx0 : Int32) (σ : TS) : Option (Int32 × TS) := (if zok sx0 = true then some (sx0, σ) else none)
set_option maxHeartbeats 4000000 in
set_option maxRecDepth 100000 in
theorem kX9_hasLetGo_25 {r : Int32} {u : TS} (C0 : gC RX9 cX9_hasLetGo 2 ((some .boolean)) wsX9_hasLetGo p s m args meth c) (hK : va_K D vwCl (tyL cy) s) (hJ : gJ 39 q) {H : Heap} {locs : List Loc} {σ : TS} {sx0 : Int32} (hP : va_P D vwCl (gS 39 q (MX cy q) σ) H) (hS : va_S (gA 39 q) s.heap H locs) {ls : Array Slot} (hl : lv_has ls 2 []) (hp : sX9_hasLetGo_25 sx0 σ = some (r, u)) : W p l e rmX9_hasLetGo s m args below meth c H locs 0 0 (MQ below (gQi D vwCl r (gS 39 q (MX cy q) u) (gA 39 q)) args s 0 0 (gA 39 q)) (F0 m 25 ls [.int sx0]) := by
  obtain ⟨hx, hb, hr, hml, hown, hts, hlocks⟩ := id C0
  unfold sX9_hasLetGo_25 at hp
  obtain ⟨hz1, hp⟩ := o_chk hp
  obtain ⟨rfl, rfl⟩ := o_r hp
  exact W.zret (v := sx0) hx hb hr (zok_n hz1).1 (fun t ht hW => ⟨⟨sx0, (), rfl, rfl, by subst ht; exact hP⟩, hS.F ht⟩) hS.2.2 dX9_hasLetGo_25
def sX9_hasLetGo_24 (σ : TS) : Option (Int32 × TS) := sX9_hasLetGo_25 ((0 : Int32)) σ
set_option maxHeartbeats 4000000 in
set_option maxRecDepth 100000 in
theorem kX9_hasLetGo_24 {r : Int32} {u : TS} (C0 : gC RX9 cX9_hasLetGo 2 ((some .boolean)) wsX9_hasLetGo p s m args meth c) (hK : va_K D vwCl (tyL cy) s) (hJ : gJ 39 q) {H : Heap} {locs : List Loc} {σ : TS} (hP : va_P D vwCl (gS 39 q (MX cy q) σ) H) (hS : va_S (gA 39 q) s.heap H locs) {ls : Array Slot} (hl : lv_has ls 2 []) (hp : sX9_hasLetGo_24 σ = some (r, u)) : W p l e rmX9_hasLetGo s m args below meth c H locs 0 0 (MQ below (gQi D vwCl r (gS 39 q (MX cy q) u) (gA 39 q)) args s 0 0 (gA 39 q)) (F0 m 24 ls []) := by
  obtain ⟨hx, hb, hr, hml, hown, hts, hlocks⟩ := id C0
  unfold sX9_hasLetGo_24 at hp
  refine lv_iconst (v := (0 : Int32)) hx hb dX9_hasLetGo_24 (by decide) ?_
  exact kX9_hasLetGo_25 C0 hK hJ  hP hS hl hp
def sX9_hasLetGo_8 (x1 : Int32) (sx0 : Int32) (σ : TS) : Option (Int32 × TS) := (if sx0 = 0 then (if vin x1 4 = true then (if (σ 35 (x1.toNatClampNeg)) = 0 then sX9_hasLetGo_24 σ else sX9_hasLetGo_25 ((1 : Int32)) σ) else none) else sX9_hasLetGo_24 σ)
set_option maxHeartbeats 4000000 in
set_option maxRecDepth 100000 in
theorem kX9_hasLetGo_8 {r : Int32} {u : TS} (C0 : gC RX9 cX9_hasLetGo 2 ((some .boolean)) wsX9_hasLetGo p s m args meth c) (hK : va_K D vwCl (tyL cy) s) (hJ : gJ 39 q) {H : Heap} {locs : List Loc} {σ : TS} {x1 : Int32} {sx0 : Int32} (hP : va_P D vwCl (gS 39 q (MX cy q) σ) H) (hS : va_S (gA 39 q) s.heap H locs) {ls : Array Slot} (hl : lv_has ls 2 [(0, .ref (q (0))), (1, .int x1)]) (hp : sX9_hasLetGo_8 x1 sx0 σ = some (r, u)) : W p l e rmX9_hasLetGo s m args below meth c H locs 0 0 (MQ below (gQi D vwCl r (gS 39 q (MX cy q) u) (gA 39 q)) args s 0 0 (gA 39 q)) (F0 m 8 ls [.int sx0]) := by
  obtain ⟨hx, hb, hr, hml, hown, hts, hlocks⟩ := id C0
  unfold sX9_hasLetGo_8 at hp
  refine lv_if_ne (tgt := 24) hx hb dX9_hasLetGo_8 (by decide) (fun hcd2 => ?_) (fun hcd2 => ?_)
  · have hp := o_f hp hcd2
    exact kX9_hasLetGo_24 C0 hK hJ  hP hS (lv_sub hl [] rfl) hp
  · have hp := o_t hp hcd2
    refine lv_aload_n hx hb dX9_hasLetGo_11 rfl (lv_at hl 0 rfl) ?_
    refine g_get (v := .ref (q (35))) hx hb hts miX9_hasLetGo_X9 hown hK hP (kk_Mod) (ce_Mod) rfl 37 (by decide) mwX9_hasLetGo_0 rfl dX9_hasLetGo_12 ?_
    refine lv_iload_n hx hb dX9_hasLetGo_15 rfl (lv_at hl 1 rfl) ?_
    obtain ⟨hi3, hp⟩ := o_chk hp
    refine g_zald (j := x1.toNatClampNeg) hx hb hK hP (kk_M_hasLetGo) (ce_M_hasLetGo) 1 rfl (vin_of hi3) rfl dX9_hasLetGo_16 ?_
    refine lv_if_eq (tgt := 24) hx hb dX9_hasLetGo_17 (by decide) (fun hcd4 => ?_) (fun hcd4 => ?_)
    · have hp := o_t hp hcd4
      exact kX9_hasLetGo_24 C0 hK hJ  hP hS (lv_sub hl [] rfl) hp
    · have hp := o_f hp hcd4
      refine lv_iconst (v := (1 : Int32)) hx hb dX9_hasLetGo_20 (by decide) ?_
      refine lv_goto (tgt := 25) hx hb dX9_hasLetGo_21 (by decide) ?_
      exact kX9_hasLetGo_25 C0 hK hJ  hP hS (lv_sub hl [] rfl) hp
def sX9_hasLetGo_5 (x1 : Int32) (sx1 : Int32) (σ : TS) : Option (Int32 × TS) := ((sX9_isOut sx1 σ).bind (fun z => sX9_hasLetGo_8 x1 z.1 z.2))
set_option maxHeartbeats 4000000 in
set_option maxRecDepth 100000 in
theorem kX9_hasLetGo_5 {r : Int32} {u : TS} (C0 : gC RX9 cX9_hasLetGo 2 ((some .boolean)) wsX9_hasLetGo p s m args meth c) (hK : va_K D vwCl (tyL cy) s) (hJ : gJ 39 q) {H : Heap} {locs : List Loc} {σ : TS} {x1 : Int32} {sx1 : Int32} (hP : va_P D vwCl (gS 39 q (MX cy q) σ) H) (hS : va_S (gA 39 q) s.heap H locs) {ls : Array Slot} (hl : lv_has ls 2 [(0, .ref (q (0))), (1, .int x1)]) (hp : sX9_hasLetGo_5 x1 sx1 σ = some (r, u)) : W p l e rmX9_hasLetGo s m args below meth c H locs 0 0 (MQ below (gQi D vwCl r (gS 39 q (MX cy q) u) (gA 39 q)) args s 0 0 (gA 39 q)) (F0 m 5 ls [.int sx1, .ref (q (0))]) := by
  obtain ⟨hx, hb, hr, hml, hown, hts, hlocks⟩ := id C0
  unfold sX9_hasLetGo_5 at hp
  obtain ⟨⟨r5, u6⟩, hq7, hp⟩ := o_b hp
  refine g_cVi (As := [.int sx1]) (rest := []) hx hb hml hown hts hK hP hS (mX9_isOut l hJ hq7) (cwV 1 hts gX9_hasLetGo_X9_isOut rfl rfl rfl nVX9_isOut ⟨Nat.le_of_ble_eq_true rfl, Nat.le_of_ble_eq_true rfl⟩) (g_recv hK hP (kk_Mod) (ce_Mod) rfl) rfl hl.1 rfl (Nat.le_of_ble_eq_true rfl) dX9_hasLetGo_5 ⟨Nat.le_of_ble_eq_true rfl, Nat.le_of_ble_eq_true rfl⟩ (fun H locs hP hS => ?_)
  exact kX9_hasLetGo_8 C0 hK hJ  hP hS hl hp
def sX9_hasLetGo_0 (x1 : Int32) (σ : TS) : Option (Int32 × TS) := ((sX9_isFour x1 σ).bind (fun z => sX9_hasLetGo_5 x1 z.1 z.2))
set_option maxHeartbeats 4000000 in
set_option maxRecDepth 100000 in
theorem kX9_hasLetGo_0 {r : Int32} {u : TS} (C0 : gC RX9 cX9_hasLetGo 2 ((some .boolean)) wsX9_hasLetGo p s m args meth c) (hK : va_K D vwCl (tyL cy) s) (hJ : gJ 39 q) {H : Heap} {locs : List Loc} {σ : TS} {x1 : Int32} (hP : va_P D vwCl (gS 39 q (MX cy q) σ) H) (hS : va_S (gA 39 q) s.heap H locs) {ls : Array Slot} (hl : lv_has ls 2 [(0, .ref (q (0))), (1, .int x1)]) (hp : sX9_hasLetGo_0 x1 σ = some (r, u)) : W p l e rmX9_hasLetGo s m args below meth c H locs 0 0 (MQ below (gQi D vwCl r (gS 39 q (MX cy q) u) (gA 39 q)) args s 0 0 (gA 39 q)) (F0 m 0 ls []) := by
  obtain ⟨hx, hb, hr, hml, hown, hts, hlocks⟩ := id C0
  unfold sX9_hasLetGo_0 at hp
  refine lv_aload_n hx hb dX9_hasLetGo_0 rfl (lv_at hl 0 rfl) ?_
  refine lv_iload_n hx hb dX9_hasLetGo_1 rfl (lv_at hl 1 rfl) ?_
  obtain ⟨⟨r8, u9⟩, hq10, hp⟩ := o_b hp
  refine g_cSi (As := [.int x1]) (rest := [.ref (q (0))]) hx hb hml hown hts hK hP hS (mX9_isFour l hJ hq10) (va_cwS 1 hts gX9_hasLetGo_X9_isFour rfl rfl rfl nVX9_isFour ⟨Nat.le_of_ble_eq_true rfl, Nat.le_of_ble_eq_true rfl⟩) rfl hl.1 rfl (Nat.le_of_ble_eq_true rfl) dX9_hasLetGo_2 ⟨Nat.le_of_ble_eq_true rfl, Nat.le_of_ble_eq_true rfl⟩ (fun H locs hP hS => ?_)
  exact kX9_hasLetGo_5 C0 hK hJ  hP hS hl hp
def sX9_hasLetGo (x1 : Int32) (σ : TS) : Option (Int32 × TS) := sX9_hasLetGo_0 x1 σ
theorem nVX9_hasLetGo : yX9_hasLetGo.cls = RX9 ∧ yX9_hasLetGo.cls ≠ "java/lang/invoke/MethodHandle" ∧ yX9_hasLetGo.cls ≠ "java/lang/invoke/VarHandle" ∧ (parseMethodDescriptor yX9_hasLetGo.desc).map (fun d => d.parameters.length) = some 1 := by decide +kernel
set_option maxHeartbeats 4000000 in
set_option maxRecDepth 100000 in
theorem mX9_hasLetGo (l : Launch) (hJ : gJ 39 q) {x1 : Int32} {σ : TS} {r : Int32} {u : TS} (hp : sX9_hasLetGo x1 σ = some (r, u)) : Met l yX9_hasLetGo wsX9_hasLetGo rmX9_hasLetGo (va_Pc [.ref (q (0)), .int x1] (gPre D vwCl (tyL cy) (gS 39 q (MX cy q) σ))) (gQi D vwCl r (gS 39 q (MX cy q) u) (gA 39 q)) 0 0 (gA 39 q) := by
  refine Met.ofW (cc := cX9_hasLetGo) (maxL := 2) (ret := (some .boolean)) (by decide +kernel) rfl ?_
  intro p e s m args below meth c s₁ B hml hv
  obtain ⟨rfl, hP, hK⟩ := hv
  have hl := lv_entry ([.ref (q (0)), .int x1]) (n := 2) (Nat.le_of_ble_eq_true rfl)
  rw [lg_entry_eq]
  generalize (lg_sl ([.ref (q (0)), .int x1]) ++ List.replicate (2 - (lg_sl ([.ref (q (0)), .int x1])).length) Slot.unset).toArray = ls at hl ⊢
  have hl : lv_has ls 2 [(0, .ref (q (0))), (1, .int x1)] := hl
  exact kX9_hasLetGo_0 ⟨B.exec, B.bytes, B.returns, hml, findClass_of_methodNamed B.named, atoms_spec (ws := wsX9_hasLetGo) B.pre, B.notSynchronized⟩ hK hJ  hP va_S.rf hl hp
abbrev rmX9_isCommand : Room := { frames := 0, cells := 0, slots := 0, locals := 0 }
def sX9_isCommand_17 (sx0 : Int32) (σ : TS) : Option (Int32 × TS) := (if zok sx0 = true then some (sx0, σ) else none)
set_option maxHeartbeats 4000000 in
set_option maxRecDepth 100000 in
theorem kX9_isCommand_17 {r : Int32} {u : TS} (C0 : gC RX9 cX9_isCommand 1 ((some .boolean)) wsX9_isCommand p s m args meth c) (hK : va_K D vwCl (tyL cy) s) (hJ : gJ 39 q) {H : Heap} {locs : List Loc} {σ : TS} {sx0 : Int32} (hP : va_P D vwCl (gS 39 q (MX cy q) σ) H) (hS : va_S (gA 39 q) s.heap H locs) {ls : Array Slot} (hl : lv_has ls 1 []) (hp : sX9_isCommand_17 sx0 σ = some (r, u)) : W p l e rmX9_isCommand s m args below meth c H locs 0 0 (MQ below (gQi D vwCl r (gS 39 q (MX cy q) u) (gA 39 q)) args s 0 0 (gA 39 q)) (F0 m 17 ls [.int sx0]) := by
  obtain ⟨hx, hb, hr, hml, hown, hts, hlocks⟩ := id C0
  unfold sX9_isCommand_17 at hp
  obtain ⟨hz1, hp⟩ := o_chk hp
  obtain ⟨rfl, rfl⟩ := o_r hp
  exact W.zret (v := sx0) hx hb hr (zok_n hz1).1 (fun t ht hW => ⟨⟨sx0, (), rfl, rfl, by subst ht; exact hP⟩, hS.F ht⟩) hS.2.2 dX9_isCommand_17
def sX9_isCommand_12 (σ : TS) : Option (Int32 × TS) := sX9_isCommand_17 ((1 : Int32)) σ
set_option maxHeartbeats 4000000 in
set_option maxRecDepth 100000 in
theorem kX9_isCommand_12 {r : Int32} {u : TS} (C0 : gC RX9 cX9_isCommand 1 ((some .boolean)) wsX9_isCommand p s m args meth c) (hK : va_K D vwCl (tyL cy) s) (hJ : gJ 39 q) {H : Heap} {locs : List Loc} {σ : TS} (hP : va_P D vwCl (gS 39 q (MX cy q) σ) H) (hS : va_S (gA 39 q) s.heap H locs) {ls : Array Slot} (hl : lv_has ls 1 []) (hp : sX9_isCommand_12 σ = some (r, u)) : W p l e rmX9_isCommand s m args below meth c H locs 0 0 (MQ below (gQi D vwCl r (gS 39 q (MX cy q) u) (gA 39 q)) args s 0 0 (gA 39 q)) (F0 m 12 ls []) := by
  obtain ⟨hx, hb, hr, hml, hown, hts, hlocks⟩ := id C0
  unfold sX9_isCommand_12 at hp
  refine lv_iconst (v := (1 : Int32)) hx hb dX9_isCommand_12 (by decide) ?_
  refine lv_goto (tgt := 17) hx hb dX9_isCommand_13 (by decide) ?_
  exact kX9_isCommand_17 C0 hK hJ  hP hS hl hp
def sX9_isCommand_0 (x0 : Int32) (σ : TS) : Option (Int32 × TS) := (if x0 = ((109 : Int32)) then sX9_isCommand_12 σ else (if x0 = ((97 : Int32)) then sX9_isCommand_12 σ else sX9_isCommand_17 ((0 : Int32)) σ))
set_option maxHeartbeats 4000000 in
set_option maxRecDepth 100000 in
theorem kX9_isCommand_0 {r : Int32} {u : TS} (C0 : gC RX9 cX9_isCommand 1 ((some .boolean)) wsX9_isCommand p s m args meth c) (hK : va_K D vwCl (tyL cy) s) (hJ : gJ 39 q) {H : Heap} {locs : List Loc} {σ : TS} {x0 : Int32} (hP : va_P D vwCl (gS 39 q (MX cy q) σ) H) (hS : va_S (gA 39 q) s.heap H locs) {ls : Array Slot} (hl : lv_has ls 1 [(0, .int x0)]) (hp : sX9_isCommand_0 x0 σ = some (r, u)) : W p l e rmX9_isCommand s m args below meth c H locs 0 0 (MQ below (gQi D vwCl r (gS 39 q (MX cy q) u) (gA 39 q)) args s 0 0 (gA 39 q)) (F0 m 0 ls []) := by
  obtain ⟨hx, hb, hr, hml, hown, hts, hlocks⟩ := id C0
  unfold sX9_isCommand_0 at hp
  refine lv_iload_n hx hb dX9_isCommand_0 rfl (lv_at hl 0 rfl) ?_
  refine lv_bipush (v := (109 : Int32)) hx hb dX9_isCommand_1 (by decide) ?_
  refine lv_icmp_eq (tgt := 12) hx hb dX9_isCommand_3 (by decide) (fun hcd2 => ?_) (fun hcd2 => ?_)
  · have hp := o_t hp hcd2
    exact kX9_isCommand_12 C0 hK hJ  hP hS (lv_sub hl [] rfl) hp
  · have hp := o_f hp hcd2
    refine lv_iload_n hx hb dX9_isCommand_6 rfl (lv_at hl 0 rfl) ?_
    refine lv_bipush (v := (97 : Int32)) hx hb dX9_isCommand_7 (by decide) ?_
    refine lv_icmp_ne (tgt := 16) hx hb dX9_isCommand_9 (by decide) (fun hcd3 => ?_) (fun hcd3 => ?_)
    · have hp := o_f hp hcd3
      refine lv_iconst (v := (0 : Int32)) hx hb dX9_isCommand_16 (by decide) ?_
      exact kX9_isCommand_17 C0 hK hJ  hP hS (lv_sub hl [] rfl) hp
    · have hp := o_t hp hcd3
      exact kX9_isCommand_12 C0 hK hJ  hP hS (lv_sub hl [] rfl) hp
def sX9_isCommand (x0 : Int32) (σ : TS) : Option (Int32 × TS) := sX9_isCommand_0 x0 σ
theorem nVX9_isCommand : yX9_isCommand.cls ≠ "java/lang/invoke/MethodHandle" ∧ yX9_isCommand.cls ≠ "java/lang/invoke/VarHandle" ∧ (parseMethodDescriptor yX9_isCommand.desc).map (fun d => d.parameters.length) = some 1 := by decide +kernel
set_option maxHeartbeats 4000000 in
set_option maxRecDepth 100000 in
theorem mX9_isCommand (l : Launch) (hJ : gJ 39 q) {x0 : Int32} {σ : TS} {r : Int32} {u : TS} (hp : sX9_isCommand x0 σ = some (r, u)) : Met l yX9_isCommand wsX9_isCommand rmX9_isCommand (va_Pc [.int x0] (gPre D vwCl (tyL cy) (gS 39 q (MX cy q) σ))) (gQi D vwCl r (gS 39 q (MX cy q) u) (gA 39 q)) 0 0 (gA 39 q) := by
  refine Met.ofW (cc := cX9_isCommand) (maxL := 1) (ret := (some .boolean)) (by decide +kernel) rfl ?_
  intro p e s m args below meth c s₁ B hml hv
  obtain ⟨rfl, hP, hK⟩ := hv
  have hl := lv_entry ([.int x0]) (n := 1) (Nat.le_of_ble_eq_true rfl)
  rw [lg_entry_eq]
  generalize (lg_sl ([.int x0]) ++ List.replicate (1 - (lg_sl ([.int x0])).length) Slot.unset).toArray = ls at hl ⊢
  have hl : lv_has ls 1 [(0, .int x0)] := hl
  exact kX9_isCommand_0 ⟨B.exec, B.bytes, B.returns, hml, findClass_of_methodNamed B.named, atoms_spec (ws := wsX9_isCommand) B.pre, B.notSynchronized⟩ hK hJ  hP va_S.rf hl hp
theorem miX9_arm_X9 : ∀ w ∈ u_ws RX9 TX9 44, w ∈ wsX9_arm := by decide +kernel
theorem mwX9_arm_0 : Cond.fieldLink RX9 117 "TriplaneModel" "armed" "C" ∈ wsX9_arm := by decide +kernel
theorem mwX9_arm_1 : Cond.fieldLink RX9 148 "TriplaneModel" "time" "I" ∈ wsX9_arm := by decide +kernel
theorem mwX9_arm_2 : Cond.fieldLink RX9 244 "TriplaneModel" "armedTo" "I" ∈ wsX9_arm := by decide +kernel
abbrev rmX9_arm : Room := { frames := 1, cells := 0, slots := 0, locals := 21 }
def sX9_arm_8 (x1 : Int32) (sx0 : Int32) (σ : TS) : Option (Int32 × TS) := (if sx0 = 0 then (if cok x1 = true then some ((st2 (st2 σ 0 38 x1) 0 39 (((st2 σ 0 38 x1) 0 1) + ((3 : Int32)))) 0 39, st2 (st2 σ 0 38 x1) 0 39 (((st2 σ 0 38 x1) 0 1) + ((3 : Int32)))) else none) else some ((0 : Int32), σ))
set_option maxHeartbeats 4000000 in
set_option maxRecDepth 100000 in
theorem kX9_arm_8 {r : Int32} {u : TS} (C0 : gC RX9 cX9_arm 2 ((some .int)) wsX9_arm p s m args meth c) (hK : va_K D vwCl (tyL cy) s) (hJ : gJ 39 q) {H : Heap} {locs : List Loc} {σ : TS} {x1 : Int32} {sx0 : Int32} (hP : va_P D vwCl (gS 39 q (MX cy q) σ) H) (hS : va_S (gA 39 q) s.heap H locs) {ls : Array Slot} (hl : lv_has ls 2 [(0, .ref (q (0))), (1, .int x1)]) (hp : sX9_arm_8 x1 sx0 σ = some (r, u)) : W p l e rmX9_arm s m args below meth c H locs 0 0 (MQ below (gQi D vwCl r (gS 39 q (MX cy q) u) (gA 39 q)) args s 0 0 (gA 39 q)) (F0 m 8 ls [.int sx0]) := by
  obtain ⟨hx, hb, hr, hml, hown, hts, hlocks⟩ := id C0
  unfold sX9_arm_8 at hp
  refine lv_if_eq (tgt := 13) hx hb dX9_arm_8 (by decide) (fun hcd1 => ?_) (fun hcd1 => ?_)
  · have hp := o_t hp hcd1
    refine lv_aload_n hx hb dX9_arm_13 rfl (lv_at hl 0 rfl) ?_
    refine lv_iload_n hx hb dX9_arm_14 rfl (lv_at hl 1 rfl) ?_
    obtain ⟨hz2, hp⟩ := o_chk hp
    refine g_put (v := x1) hx hb hts miX9_arm_X9 tyX9 tyX9_ok nmX9 hown hK hJ hP hS (kk_Mod) (ce_Mod) rfl 38 (by decide) mwX9_arm_0 rfl (cok_n hz2).1 (cok_n hz2).2 (Nat.le_of_ble_eq_true rfl) rfl dX9_arm_15 (fun H locs hP hS => ?_)
    refine lv_aload_n hx hb dX9_arm_18 rfl (lv_at hl 0 rfl) ?_
    refine lv_aload_n hx hb dX9_arm_19 rfl (lv_at hl 0 rfl) ?_
    refine g_get (v := .int ((st2 σ 0 38 x1) 0 1)) hx hb hts miX9_arm_X9 hown hK hP (kk_Mod) (ce_Mod) rfl 1 (by decide) mwX9_arm_1 rfl dX9_arm_20 ?_
    refine lv_iconst (v := (3 : Int32)) hx hb dX9_arm_23 (by decide) ?_
    refine lv_iadd hx hb dX9_arm_24 ?_
    refine g_put (v := ((st2 σ 0 38 x1) 0 1) + ((3 : Int32))) hx hb hts miX9_arm_X9 tyX9 tyX9_ok nmX9 hown hK hJ hP hS (kk_Mod) (ce_Mod) rfl 39 (by decide) mwX9_arm_2 rfl rfl rfl (Nat.le_of_ble_eq_true rfl) rfl dX9_arm_25 (fun H locs hP hS => ?_)
    refine lv_aload_n hx hb dX9_arm_28 rfl (lv_at hl 0 rfl) ?_
    refine g_get (v := .int ((st2 (st2 σ 0 38 x1) 0 39 (((st2 σ 0 38 x1) 0 1) + ((3 : Int32)))) 0 39)) hx hb hts miX9_arm_X9 hown hK hP (kk_Mod) (ce_Mod) rfl 39 (by decide) mwX9_arm_2 rfl dX9_arm_29 ?_
    obtain ⟨rfl, rfl⟩ := o_r hp
    exact W.iret (v := (st2 (st2 σ 0 38 x1) 0 39 (((st2 σ 0 38 x1) 0 1) + ((3 : Int32)))) 0 39) hx hb hr (fun t ht hW => ⟨⟨(st2 (st2 σ 0 38 x1) 0 39 (((st2 σ 0 38 x1) 0 1) + ((3 : Int32)))) 0 39, (), rfl, rfl, by subst ht; exact hP⟩, hS.F ht⟩) hS.2.2 dX9_arm_32
  · have hp := o_f hp hcd1
    refine lv_iconst (v := (0 : Int32)) hx hb dX9_arm_11 (by decide) ?_
    obtain ⟨rfl, rfl⟩ := o_r hp
    exact W.iret (v := (0 : Int32)) hx hb hr (fun t ht hW => ⟨⟨(0 : Int32), (), rfl, rfl, by subst ht; exact hP⟩, hS.F ht⟩) hS.2.2 dX9_arm_12
def sX9_arm_5 (x1 : Int32) (sx1 : Int32) (σ : TS) : Option (Int32 × TS) := ((sX9_isOut sx1 σ).bind (fun z => sX9_arm_8 x1 z.1 z.2))
set_option maxHeartbeats 4000000 in
set_option maxRecDepth 100000 in
theorem kX9_arm_5 {r : Int32} {u : TS} (C0 : gC RX9 cX9_arm 2 ((some .int)) wsX9_arm p s m args meth c) (hK : va_K D vwCl (tyL cy) s) (hJ : gJ 39 q) {H : Heap} {locs : List Loc} {σ : TS} {x1 : Int32} {sx1 : Int32} (hP : va_P D vwCl (gS 39 q (MX cy q) σ) H) (hS : va_S (gA 39 q) s.heap H locs) {ls : Array Slot} (hl : lv_has ls 2 [(0, .ref (q (0))), (1, .int x1)]) (hp : sX9_arm_5 x1 sx1 σ = some (r, u)) : W p l e rmX9_arm s m args below meth c H locs 0 0 (MQ below (gQi D vwCl r (gS 39 q (MX cy q) u) (gA 39 q)) args s 0 0 (gA 39 q)) (F0 m 5 ls [.int sx1, .ref (q (0))]) := by
  obtain ⟨hx, hb, hr, hml, hown, hts, hlocks⟩ := id C0
  unfold sX9_arm_5 at hp
  obtain ⟨⟨r3, u4⟩, hq5, hp⟩ := o_b hp
  refine g_cVi (As := [.int sx1]) (rest := []) hx hb hml hown hts hK hP hS (mX9_isOut l hJ hq5) (cwV 1 hts gX9_arm_X9_isOut rfl rfl rfl nVX9_isOut ⟨Nat.le_of_ble_eq_true rfl, Nat.le_of_ble_eq_true rfl⟩) (g_recv hK hP (kk_Mod) (ce_Mod) rfl) rfl hl.1 rfl (Nat.le_of_ble_eq_true rfl) dX9_arm_5 ⟨Nat.le_of_ble_eq_true rfl, Nat.le_of_ble_eq_true rfl⟩ (fun H locs hP hS => ?_)
  exact kX9_arm_8 C0 hK hJ  hP hS hl hp
def sX9_arm_0 (x1 : Int32) (σ : TS) : Option (Int32 × TS) := ((sX9_isCommand x1 σ).bind (fun z => sX9_arm_5 x1 z.1 z.2))
set_option maxHeartbeats 4000000 in
set_option maxRecDepth 100000 in
theorem kX9_arm_0 {r : Int32} {u : TS} (C0 : gC RX9 cX9_arm 2 ((some .int)) wsX9_arm p s m args meth c) (hK : va_K D vwCl (tyL cy) s) (hJ : gJ 39 q) {H : Heap} {locs : List Loc} {σ : TS} {x1 : Int32} (hP : va_P D vwCl (gS 39 q (MX cy q) σ) H) (hS : va_S (gA 39 q) s.heap H locs) {ls : Array Slot} (hl : lv_has ls 2 [(0, .ref (q (0))), (1, .int x1)]) (hp : sX9_arm_0 x1 σ = some (r, u)) : W p l e rmX9_arm s m args below meth c H locs 0 0 (MQ below (gQi D vwCl r (gS 39 q (MX cy q) u) (gA 39 q)) args s 0 0 (gA 39 q)) (F0 m 0 ls []) := by
  obtain ⟨hx, hb, hr, hml, hown, hts, hlocks⟩ := id C0
  unfold sX9_arm_0 at hp
  refine lv_aload_n hx hb dX9_arm_0 rfl (lv_at hl 0 rfl) ?_
  refine lv_iload_n hx hb dX9_arm_1 rfl (lv_at hl 1 rfl) ?_
  obtain ⟨⟨r6, u7⟩, hq8, hp⟩ := o_b hp
  refine g_cSi (As := [.int x1]) (rest := [.ref (q (0))]) hx hb hml hown hts hK hP hS (mX9_isCommand l hJ hq8) (va_cwS 1 hts gX9_arm_X9_isCommand rfl rfl rfl nVX9_isCommand ⟨Nat.le_of_ble_eq_true rfl, Nat.le_of_ble_eq_true rfl⟩) rfl hl.1 rfl (Nat.le_of_ble_eq_true rfl) dX9_arm_2 ⟨Nat.le_of_ble_eq_true rfl, Nat.le_of_ble_eq_true rfl⟩ (fun H locs hP hS => ?_)
  exact kX9_arm_5 C0 hK hJ  hP hS hl hp
def sX9_arm (x1 : Int32) (σ : TS) : Option (Int32 × TS) := sX9_arm_0 x1 σ
theorem nVX9_arm : yX9_arm.cls = RX9 ∧ yX9_arm.cls ≠ "java/lang/invoke/MethodHandle" ∧ yX9_arm.cls ≠ "java/lang/invoke/VarHandle" ∧ (parseMethodDescriptor yX9_arm.desc).map (fun d => d.parameters.length) = some 1 := by decide +kernel
set_option maxHeartbeats 4000000 in
set_option maxRecDepth 100000 in
theorem mX9_arm (l : Launch) (hJ : gJ 39 q) {x1 : Int32} {σ : TS} {r : Int32} {u : TS} (hp : sX9_arm x1 σ = some (r, u)) : Met l yX9_arm wsX9_arm rmX9_arm (va_Pc [.ref (q (0)), .int x1] (gPre D vwCl (tyL cy) (gS 39 q (MX cy q) σ))) (gQi D vwCl r (gS 39 q (MX cy q) u) (gA 39 q)) 0 0 (gA 39 q) := by
  refine Met.ofW (cc := cX9_arm) (maxL := 2) (ret := (some .int)) (by decide +kernel) rfl ?_
  intro p e s m args below meth c s₁ B hml hv
  obtain ⟨rfl, hP, hK⟩ := hv
  have hl := lv_entry ([.ref (q (0)), .int x1]) (n := 2) (Nat.le_of_ble_eq_true rfl)
  rw [lg_entry_eq]
  generalize (lg_sl ([.ref (q (0)), .int x1]) ++ List.replicate (2 - (lg_sl ([.ref (q (0)), .int x1])).length) Slot.unset).toArray = ls at hl ⊢
  have hl : lv_has ls 2 [(0, .ref (q (0))), (1, .int x1)] := hl
  exact kX9_arm_0 ⟨B.exec, B.bytes, B.returns, hml, findClass_of_methodNamed B.named, atoms_spec (ws := wsX9_arm) B.pre, B.notSynchronized⟩ hK hJ  hP va_S.rf hl hp
theorem miX9_give_X9 : ∀ w ∈ u_ws RX9 TX9 44, w ∈ wsX9_give := by decide +kernel
theorem mwX9_give_0 : Cond.fieldLink RX9 114 "TriplaneModel" "hasLetGo" "[Z" ∈ wsX9_give := by decide +kernel
theorem mwX9_give_1 : Cond.fieldLink RX9 130 "TriplaneModel" "thrown" "I" ∈ wsX9_give := by decide +kernel
theorem mwX9_give_2 : Cond.fieldLink RX9 117 "TriplaneModel" "armed" "C" ∈ wsX9_give := by decide +kernel
theorem mwX9_give_3 : Cond.fieldLink RX9 222 "TriplaneModel" "mode" "I" ∈ wsX9_give := by decide +kernel
theorem mwX9_give_4 : Cond.fieldLink RX9 148 "TriplaneModel" "time" "I" ∈ wsX9_give := by decide +kernel
theorem mwX9_give_5 : Cond.fieldLink RX9 244 "TriplaneModel" "armedTo" "I" ∈ wsX9_give := by decide +kernel
abbrev rmX9_give : Room := { frames := 1, cells := 0, slots := 0, locals := 21 }
def sX9_give_101 (K81 : Int32 → Int32 → TS → Option (Int32 × TS)) (x3 : Int32) (sx0 : Int32) (sx1 : Int32) (σ : TS) : Option (Int32 × TS) := (if vin x3 4 = true then K81 (sx0 + sx1) (x3 + (1 : Int32)) (st2 σ 35 (x3.toNatClampNeg) (vp_nar .boolean ((0 : Int32)))) else none)
set_option maxHeartbeats 4000000 in
set_option maxRecDepth 100000 in
theorem kX9_give_101 {r : Int32} {u : TS} {K81 : Int32 → Int32 → TS → Option (Int32 × TS)} (C0 : gC RX9 cX9_give 4 ((some .int)) wsX9_give p s m args meth c) (hK : va_K D vwCl (tyL cy) s) (hJ : gJ 39 q) (kh81 : ∀ (H : Heap) (locs : List Loc) (σ : TS) (x2 : Int32) (x3 : Int32) (hP : va_P D vwCl (gS 39 q (MX cy q) σ) H) (hS : va_S (gA 39 q) s.heap H locs) (ls : Array Slot) (hl : lv_has ls 4 [(0, .ref (q (0))), (2, .int x2), (3, .int x3)]) (hp : K81 x2 x3 σ = some (r, u)), W p l e rmX9_give s m args below meth c H locs 0 0 (MQ below (gQi D vwCl r (gS 39 q (MX cy q) u) (gA 39 q)) args s 0 0 (gA 39 q)) (F0 m 81 ls [])) {H : Heap} {locs : List Loc} {σ : TS} {x3 : Int32} {sx0 : Int32} {sx1 : Int32} (hP : va_P D vwCl (gS 39 q (MX cy q) σ) H) (hS : va_S (gA 39 q) s.heap H locs) {ls : Array Slot} (hl : lv_has ls 4 [(0, .ref (q (0))), (3, .int x3)]) (hp : sX9_give_101 K81 x3 sx0 sx1 σ = some (r, u)) : W p l e rmX9_give s m args below meth c H locs 0 0 (MQ below (gQi D vwCl r (gS 39 q (MX cy q) u) (gA 39 q)) args s 0 0 (gA 39 q)) (F0 m 101 ls [.int sx1, .int sx0]) := by
  obtain ⟨hx, hb, hr, hml, hown, hts, hlocks⟩ := id C0
  unfold sX9_give_101 at hp
  refine lv_iadd hx hb dX9_give_101 ?_
  refine lv_istore_n (lv' := [(2, .int (sx0 + sx1)), (0, .ref (q (0))), (3, .int x3)]) hx hb dX9_give_102 rfl hl (by decide) rfl (fun ls hl => ?_)
  refine lv_aload_n hx hb dX9_give_103 rfl (lv_at hl 1 rfl) ?_
  refine g_get (v := .ref (q (35))) hx hb hts miX9_give_X9 hown hK hP (kk_Mod) (ce_Mod) rfl 37 (by decide) mwX9_give_0 rfl dX9_give_104 ?_
  refine lv_iload_n hx hb dX9_give_107 rfl (lv_at hl 2 rfl) ?_
  refine lv_iconst (v := (0 : Int32)) hx hb dX9_give_108 (by decide) ?_
  obtain ⟨hi1, hp⟩ := o_chk hp
  refine g_zast (j := x3.toNatClampNeg) hx hb hK hJ hP hS (kk_M_hasLetGo) (ce_M_hasLetGo) 1 rfl (vin_of hi1) rfl dX9_give_109 (fun H locs hP hS => ?_)
  refine lv_iinc (v := x3 + (1 : Int32)) (lv' := [(3, .int (x3 + (1 : Int32))), (2, .int (sx0 + sx1)), (0, .ref (q (0)))]) hx hb dX9_give_110 hl (k := 2) rfl rfl (by decide) rfl (fun ls hl => ?_)
  refine lv_goto (tgt := 81) hx hb dX9_give_113 (by decide) ?_
  exact kh81 _ _ _ _ _  hP hS _ (lv_sub hl [2, 1, 0] rfl) hp
def sX9_give_81 : Nat → Int32 → Int32 → TS → Option (Int32 × TS)
  | 0, _, _, _ => none
  | n + 1, x2, x3, σ => (if ((4 : Int32)) ≤ x3 then some (x2, σ) else (if vin x3 4 = true then (if (σ 35 (x3.toNatClampNeg)) = 0 then sX9_give_101 (sX9_give_81 n) x3 x2 ((0 : Int32)) σ else sX9_give_101 (sX9_give_81 n) x3 x2 ((1 : Int32)) σ) else none))
set_option maxHeartbeats 4000000 in
set_option maxRecDepth 100000 in
theorem kX9_give_81 {r : Int32} {u : TS} (C0 : gC RX9 cX9_give 4 ((some .int)) wsX9_give p s m args meth c) (hK : va_K D vwCl (tyL cy) s) (hJ : gJ 39 q) : ∀ (n : Nat) (H : Heap) (locs : List Loc) (σ : TS) (x2 : Int32) (x3 : Int32) (hP : va_P D vwCl (gS 39 q (MX cy q) σ) H) (hS : va_S (gA 39 q) s.heap H locs) (ls : Array Slot) (hl : lv_has ls 4 [(0, .ref (q (0))), (2, .int x2), (3, .int x3)]) (hp : sX9_give_81 n x2 x3 σ = some (r, u)), W p l e rmX9_give s m args below meth c H locs 0 0 (MQ below (gQi D vwCl r (gS 39 q (MX cy q) u) (gA 39 q)) args s 0 0 (gA 39 q)) (F0 m 81 ls []) := by
  obtain ⟨hx, hb, hr, hml, hown, hts, hlocks⟩ := id C0
  intro n
  induction n with
  | zero =>
    intro H locs σ x2 x3 hP hS ls hl hp
    cases hp
  | succ n ih =>
    intro H locs σ x2 x3 hP hS ls hl hp
    unfold sX9_give_81 at hp
    refine lv_iload_n hx hb dX9_give_81 rfl (lv_at hl 2 rfl) ?_
    refine lv_iconst (v := (4 : Int32)) hx hb dX9_give_82 (by decide) ?_
    refine lv_icmp_ge (tgt := 116) hx hb dX9_give_83 (by decide) (fun hcd2 => ?_) (fun hcd2 => ?_)
    · have hp := o_t hp hcd2
      refine lv_iload_n hx hb dX9_give_116 rfl (lv_at hl 1 rfl) ?_
      obtain ⟨rfl, rfl⟩ := o_r hp
      exact W.iret (v := x2) hx hb hr (fun t ht hW => ⟨⟨x2, (), rfl, rfl, by subst ht; exact hP⟩, hS.F ht⟩) hS.2.2 dX9_give_117
    · have hp := o_f hp hcd2
      refine lv_iload_n hx hb dX9_give_86 rfl (lv_at hl 1 rfl) ?_
      refine lv_aload_n hx hb dX9_give_87 rfl (lv_at hl 0 rfl) ?_
      refine g_get (v := .ref (q (35))) hx hb hts miX9_give_X9 hown hK hP (kk_Mod) (ce_Mod) rfl 37 (by decide) mwX9_give_0 rfl dX9_give_88 ?_
      refine lv_iload_n hx hb dX9_give_91 rfl (lv_at hl 2 rfl) ?_
      obtain ⟨hi3, hp⟩ := o_chk hp
      refine g_zald (j := x3.toNatClampNeg) hx hb hK hP (kk_M_hasLetGo) (ce_M_hasLetGo) 1 rfl (vin_of hi3) rfl dX9_give_92 ?_
      refine lv_if_eq (tgt := 100) hx hb dX9_give_93 (by decide) (fun hcd4 => ?_) (fun hcd4 => ?_)
      · have hp := o_t hp hcd4
        refine lv_iconst (v := (0 : Int32)) hx hb dX9_give_100 (by decide) ?_
        exact kX9_give_101 C0 hK hJ ih  hP hS (lv_sub hl [0, 2] rfl) hp
      · have hp := o_f hp hcd4
        refine lv_iconst (v := (1 : Int32)) hx hb dX9_give_96 (by decide) ?_
        refine lv_goto (tgt := 101) hx hb dX9_give_97 (by decide) ?_
        exact kX9_give_101 C0 hK hJ ih  hP hS (lv_sub hl [0, 2] rfl) hp
def sX9_give_38 (x1 : Int32) (sx1 : Int32) (σ : TS) : Option (Int32 × TS) := (if ((st2 σ 0 0 sx1) 0 0) ≤ 0 then (if x1 = ((109 : Int32)) then some ((st2 (st2 (st2 σ 0 0 sx1) 0 38 ((32 : Int32))) 0 2 (((1 : Int32)) - ((st2 (st2 σ 0 0 sx1) 0 38 ((32 : Int32))) 0 2))) 0 2, st2 (st2 (st2 σ 0 0 sx1) 0 38 ((32 : Int32))) 0 2 (((1 : Int32)) - ((st2 (st2 σ 0 0 sx1) 0 38 ((32 : Int32))) 0 2))) else sX9_give_81 5 ((0 : Int32)) ((0 : Int32)) (st2 (st2 σ 0 0 sx1) 0 38 ((32 : Int32)))) else some ((0 : Int32), st2 σ 0 0 sx1))
set_option maxHeartbeats 4000000 in
set_option maxRecDepth 100000 in
theorem kX9_give_38 {r : Int32} {u : TS} (C0 : gC RX9 cX9_give 4 ((some .int)) wsX9_give p s m args meth c) (hK : va_K D vwCl (tyL cy) s) (hJ : gJ 39 q) {H : Heap} {locs : List Loc} {σ : TS} {x1 : Int32} {sx1 : Int32} (hP : va_P D vwCl (gS 39 q (MX cy q) σ) H) (hS : va_S (gA 39 q) s.heap H locs) {ls : Array Slot} (hl : lv_has ls 4 [(0, .ref (q (0))), (1, .int x1)]) (hp : sX9_give_38 x1 sx1 σ = some (r, u)) : W p l e rmX9_give s m args below meth c H locs 0 0 (MQ below (gQi D vwCl r (gS 39 q (MX cy q) u) (gA 39 q)) args s 0 0 (gA 39 q)) (F0 m 38 ls [.int sx1, .ref (q (0))]) := by
  obtain ⟨hx, hb, hr, hml, hown, hts, hlocks⟩ := id C0
  unfold sX9_give_38 at hp
  refine g_put (v := sx1) hx hb hts miX9_give_X9 tyX9 tyX9_ok nmX9 hown hK hJ hP hS (kk_Mod) (ce_Mod) rfl 0 (by decide) mwX9_give_1 rfl rfl rfl (Nat.le_of_ble_eq_true rfl) rfl dX9_give_38 (fun H locs hP hS => ?_)
  refine lv_aload_n hx hb dX9_give_41 rfl (lv_at hl 0 rfl) ?_
  refine g_get (v := .int ((st2 σ 0 0 sx1) 0 0)) hx hb hts miX9_give_X9 hown hK hP (kk_Mod) (ce_Mod) rfl 0 (by decide) mwX9_give_1 rfl dX9_give_42 ?_
  refine lv_if_le (tgt := 50) hx hb dX9_give_45 (by decide) (fun hcd5 => ?_) (fun hcd5 => ?_)
  · have hp := o_t hp hcd5
    refine lv_aload_n hx hb dX9_give_50 rfl (lv_at hl 0 rfl) ?_
    refine lv_bipush (v := (32 : Int32)) hx hb dX9_give_51 (by decide) ?_
    refine g_put (v := (32 : Int32)) hx hb hts miX9_give_X9 tyX9 tyX9_ok nmX9 hown hK hJ hP hS (kk_Mod) (ce_Mod) rfl 38 (by decide) mwX9_give_2 rfl (cok_n (by decide)).1 (cok_n (by decide)).2 (Nat.le_of_ble_eq_true rfl) rfl dX9_give_53 (fun H locs hP hS => ?_)
    refine lv_iload_n hx hb dX9_give_56 rfl (lv_at hl 1 rfl) ?_
    refine lv_bipush (v := (109 : Int32)) hx hb dX9_give_57 (by decide) ?_
    refine lv_icmp_ne (tgt := 77) hx hb dX9_give_59 (by decide) (fun hcd6 => ?_) (fun hcd6 => ?_)
    · have hp := o_f hp hcd6
      refine lv_iconst (v := (0 : Int32)) hx hb dX9_give_77 (by decide) ?_
      refine lv_istore_n (lv' := [(2, .int ((0 : Int32))), (0, .ref (q (0))), (1, .int x1)]) hx hb dX9_give_78 rfl hl (by decide) rfl (fun ls hl => ?_)
      refine lv_iconst (v := (0 : Int32)) hx hb dX9_give_79 (by decide) ?_
      refine lv_istore_n (lv' := [(3, .int ((0 : Int32))), (2, .int ((0 : Int32))), (0, .ref (q (0))), (1, .int x1)]) hx hb dX9_give_80 rfl hl (by decide) rfl (fun ls hl => ?_)
      exact kX9_give_81 C0 hK hJ _ _ _ _ _ _  hP hS _ (lv_sub hl [2, 1, 0] rfl) hp
    · have hp := o_t hp hcd6
      refine lv_aload_n hx hb dX9_give_62 rfl (lv_at hl 0 rfl) ?_
      refine lv_iconst (v := (1 : Int32)) hx hb dX9_give_63 (by decide) ?_
      refine lv_aload_n hx hb dX9_give_64 rfl (lv_at hl 0 rfl) ?_
      refine g_get (v := .int ((st2 (st2 σ 0 0 sx1) 0 38 ((32 : Int32))) 0 2)) hx hb hts miX9_give_X9 hown hK hP (kk_Mod) (ce_Mod) rfl 2 (by decide) mwX9_give_3 rfl dX9_give_65 ?_
      refine lv_isub hx hb dX9_give_68 ?_
      refine g_put (v := ((1 : Int32)) - ((st2 (st2 σ 0 0 sx1) 0 38 ((32 : Int32))) 0 2)) hx hb hts miX9_give_X9 tyX9 tyX9_ok nmX9 hown hK hJ hP hS (kk_Mod) (ce_Mod) rfl 2 (by decide) mwX9_give_3 rfl rfl rfl (Nat.le_of_ble_eq_true rfl) rfl dX9_give_69 (fun H locs hP hS => ?_)
      refine lv_aload_n hx hb dX9_give_72 rfl (lv_at hl 0 rfl) ?_
      refine g_get (v := .int ((st2 (st2 (st2 σ 0 0 sx1) 0 38 ((32 : Int32))) 0 2 (((1 : Int32)) - ((st2 (st2 σ 0 0 sx1) 0 38 ((32 : Int32))) 0 2))) 0 2)) hx hb hts miX9_give_X9 hown hK hP (kk_Mod) (ce_Mod) rfl 2 (by decide) mwX9_give_3 rfl dX9_give_73 ?_
      obtain ⟨rfl, rfl⟩ := o_r hp
      exact W.iret (v := (st2 (st2 (st2 σ 0 0 sx1) 0 38 ((32 : Int32))) 0 2 (((1 : Int32)) - ((st2 (st2 σ 0 0 sx1) 0 38 ((32 : Int32))) 0 2))) 0 2) hx hb hr (fun t ht hW => ⟨⟨(st2 (st2 (st2 σ 0 0 sx1) 0 38 ((32 : Int32))) 0 2 (((1 : Int32)) - ((st2 (st2 σ 0 0 sx1) 0 38 ((32 : Int32))) 0 2))) 0 2, (), rfl, rfl, by subst ht; exact hP⟩, hS.F ht⟩) hS.2.2 dX9_give_76
  · have hp := o_f hp hcd5
    refine lv_iconst (v := (0 : Int32)) hx hb dX9_give_48 (by decide) ?_
    obtain ⟨rfl, rfl⟩ := o_r hp
    exact W.iret (v := (0 : Int32)) hx hb hr (fun t ht hW => ⟨⟨(0 : Int32), (), rfl, rfl, by subst ht; exact hP⟩, hS.F ht⟩) hS.2.2 dX9_give_49
def sX9_give_33 (x1 : Int32) (σ : TS) : Option (Int32 × TS) := sX9_give_38 x1 ((2 : Int32)) σ
set_option maxHeartbeats 4000000 in
set_option maxRecDepth 100000 in
theorem kX9_give_33 {r : Int32} {u : TS} (C0 : gC RX9 cX9_give 4 ((some .int)) wsX9_give p s m args meth c) (hK : va_K D vwCl (tyL cy) s) (hJ : gJ 39 q) {H : Heap} {locs : List Loc} {σ : TS} {x1 : Int32} (hP : va_P D vwCl (gS 39 q (MX cy q) σ) H) (hS : va_S (gA 39 q) s.heap H locs) {ls : Array Slot} (hl : lv_has ls 4 [(0, .ref (q (0))), (1, .int x1)]) (hp : sX9_give_33 x1 σ = some (r, u)) : W p l e rmX9_give s m args below meth c H locs 0 0 (MQ below (gQi D vwCl r (gS 39 q (MX cy q) u) (gA 39 q)) args s 0 0 (gA 39 q)) (F0 m 33 ls [.ref (q (0))]) := by
  obtain ⟨hx, hb, hr, hml, hown, hts, hlocks⟩ := id C0
  unfold sX9_give_33 at hp
  refine lv_iconst (v := (2 : Int32)) hx hb dX9_give_33 (by decide) ?_
  refine lv_goto (tgt := 38) hx hb dX9_give_34 (by decide) ?_
  exact kX9_give_38 C0 hK hJ  hP hS hl hp
def sX9_give_8 (x1 : Int32) (sx0 : Int32) (σ : TS) : Option (Int32 × TS) := (if sx0 = 0 then (if (σ 0 38) = x1 then (if (σ 0 1) ≤ (σ 0 39) then sX9_give_38 x1 ((0 : Int32)) σ else sX9_give_33 x1 σ) else sX9_give_33 x1 σ) else some ((0 : Int32), σ))
set_option maxHeartbeats 4000000 in
set_option maxRecDepth 100000 in
theorem kX9_give_8 {r : Int32} {u : TS} (C0 : gC RX9 cX9_give 4 ((some .int)) wsX9_give p s m args meth c) (hK : va_K D vwCl (tyL cy) s) (hJ : gJ 39 q) {H : Heap} {locs : List Loc} {σ : TS} {x1 : Int32} {sx0 : Int32} (hP : va_P D vwCl (gS 39 q (MX cy q) σ) H) (hS : va_S (gA 39 q) s.heap H locs) {ls : Array Slot} (hl : lv_has ls 4 [(0, .ref (q (0))), (1, .int x1)]) (hp : sX9_give_8 x1 sx0 σ = some (r, u)) : W p l e rmX9_give s m args below meth c H locs 0 0 (MQ below (gQi D vwCl r (gS 39 q (MX cy q) u) (gA 39 q)) args s 0 0 (gA 39 q)) (F0 m 8 ls [.int sx0]) := by
  obtain ⟨hx, hb, hr, hml, hown, hts, hlocks⟩ := id C0
  unfold sX9_give_8 at hp
  refine lv_if_eq (tgt := 13) hx hb dX9_give_8 (by decide) (fun hcd7 => ?_) (fun hcd7 => ?_)
  · have hp := o_t hp hcd7
    refine lv_aload_n hx hb dX9_give_13 rfl (lv_at hl 0 rfl) ?_
    refine lv_aload_n hx hb dX9_give_14 rfl (lv_at hl 0 rfl) ?_
    refine g_get (v := .int (σ 0 38)) hx hb hts miX9_give_X9 hown hK hP (kk_Mod) (ce_Mod) rfl 38 (by decide) mwX9_give_2 rfl dX9_give_15 ?_
    refine lv_iload_n hx hb dX9_give_18 rfl (lv_at hl 1 rfl) ?_
    refine lv_icmp_ne (tgt := 33) hx hb dX9_give_19 (by decide) (fun hcd8 => ?_) (fun hcd8 => ?_)
    · have hp := o_f hp hcd8
      exact kX9_give_33 C0 hK hJ  hP hS hl hp
    · have hp := o_t hp hcd8
      refine lv_aload_n hx hb dX9_give_22 rfl (lv_at hl 0 rfl) ?_
      refine g_get (v := .int (σ 0 1)) hx hb hts miX9_give_X9 hown hK hP (kk_Mod) (ce_Mod) rfl 1 (by decide) mwX9_give_4 rfl dX9_give_23 ?_
      refine lv_aload_n hx hb dX9_give_26 rfl (lv_at hl 0 rfl) ?_
      refine g_get (v := .int (σ 0 39)) hx hb hts miX9_give_X9 hown hK hP (kk_Mod) (ce_Mod) rfl 39 (by decide) mwX9_give_5 rfl dX9_give_27 ?_
      refine lv_icmp_le (tgt := 37) hx hb dX9_give_30 (by decide) (fun hcd9 => ?_) (fun hcd9 => ?_)
      · have hp := o_t hp hcd9
        refine lv_iconst (v := (0 : Int32)) hx hb dX9_give_37 (by decide) ?_
        exact kX9_give_38 C0 hK hJ  hP hS hl hp
      · have hp := o_f hp hcd9
        exact kX9_give_33 C0 hK hJ  hP hS hl hp
  · have hp := o_f hp hcd7
    refine lv_iconst (v := (0 : Int32)) hx hb dX9_give_11 (by decide) ?_
    obtain ⟨rfl, rfl⟩ := o_r hp
    exact W.iret (v := (0 : Int32)) hx hb hr (fun t ht hW => ⟨⟨(0 : Int32), (), rfl, rfl, by subst ht; exact hP⟩, hS.F ht⟩) hS.2.2 dX9_give_12
def sX9_give_5 (x1 : Int32) (sx1 : Int32) (σ : TS) : Option (Int32 × TS) := ((sX9_isOut sx1 σ).bind (fun z => sX9_give_8 x1 z.1 z.2))
set_option maxHeartbeats 4000000 in
set_option maxRecDepth 100000 in
theorem kX9_give_5 {r : Int32} {u : TS} (C0 : gC RX9 cX9_give 4 ((some .int)) wsX9_give p s m args meth c) (hK : va_K D vwCl (tyL cy) s) (hJ : gJ 39 q) {H : Heap} {locs : List Loc} {σ : TS} {x1 : Int32} {sx1 : Int32} (hP : va_P D vwCl (gS 39 q (MX cy q) σ) H) (hS : va_S (gA 39 q) s.heap H locs) {ls : Array Slot} (hl : lv_has ls 4 [(0, .ref (q (0))), (1, .int x1)]) (hp : sX9_give_5 x1 sx1 σ = some (r, u)) : W p l e rmX9_give s m args below meth c H locs 0 0 (MQ below (gQi D vwCl r (gS 39 q (MX cy q) u) (gA 39 q)) args s 0 0 (gA 39 q)) (F0 m 5 ls [.int sx1, .ref (q (0))]) := by
  obtain ⟨hx, hb, hr, hml, hown, hts, hlocks⟩ := id C0
  unfold sX9_give_5 at hp
  obtain ⟨⟨r10, u11⟩, hq12, hp⟩ := o_b hp
  refine g_cVi (As := [.int sx1]) (rest := []) hx hb hml hown hts hK hP hS (mX9_isOut l hJ hq12) (cwV 1 hts gX9_give_X9_isOut rfl rfl rfl nVX9_isOut ⟨Nat.le_of_ble_eq_true rfl, Nat.le_of_ble_eq_true rfl⟩) (g_recv hK hP (kk_Mod) (ce_Mod) rfl) rfl hl.1 rfl (Nat.le_of_ble_eq_true rfl) dX9_give_5 ⟨Nat.le_of_ble_eq_true rfl, Nat.le_of_ble_eq_true rfl⟩ (fun H locs hP hS => ?_)
  exact kX9_give_8 C0 hK hJ  hP hS hl hp
def sX9_give_0 (x1 : Int32) (σ : TS) : Option (Int32 × TS) := ((sX9_isCommand x1 σ).bind (fun z => sX9_give_5 x1 z.1 z.2))
set_option maxHeartbeats 4000000 in
set_option maxRecDepth 100000 in
theorem kX9_give_0 {r : Int32} {u : TS} (C0 : gC RX9 cX9_give 4 ((some .int)) wsX9_give p s m args meth c) (hK : va_K D vwCl (tyL cy) s) (hJ : gJ 39 q) {H : Heap} {locs : List Loc} {σ : TS} {x1 : Int32} (hP : va_P D vwCl (gS 39 q (MX cy q) σ) H) (hS : va_S (gA 39 q) s.heap H locs) {ls : Array Slot} (hl : lv_has ls 4 [(0, .ref (q (0))), (1, .int x1)]) (hp : sX9_give_0 x1 σ = some (r, u)) : W p l e rmX9_give s m args below meth c H locs 0 0 (MQ below (gQi D vwCl r (gS 39 q (MX cy q) u) (gA 39 q)) args s 0 0 (gA 39 q)) (F0 m 0 ls []) := by
  obtain ⟨hx, hb, hr, hml, hown, hts, hlocks⟩ := id C0
  unfold sX9_give_0 at hp
  refine lv_aload_n hx hb dX9_give_0 rfl (lv_at hl 0 rfl) ?_
  refine lv_iload_n hx hb dX9_give_1 rfl (lv_at hl 1 rfl) ?_
  obtain ⟨⟨r13, u14⟩, hq15, hp⟩ := o_b hp
  refine g_cSi (As := [.int x1]) (rest := [.ref (q (0))]) hx hb hml hown hts hK hP hS (mX9_isCommand l hJ hq15) (va_cwS 1 hts gX9_give_X9_isCommand rfl rfl rfl nVX9_isCommand ⟨Nat.le_of_ble_eq_true rfl, Nat.le_of_ble_eq_true rfl⟩) rfl hl.1 rfl (Nat.le_of_ble_eq_true rfl) dX9_give_2 ⟨Nat.le_of_ble_eq_true rfl, Nat.le_of_ble_eq_true rfl⟩ (fun H locs hP hS => ?_)
  exact kX9_give_5 C0 hK hJ  hP hS hl hp
def sX9_give (x1 : Int32) (σ : TS) : Option (Int32 × TS) := sX9_give_0 x1 σ
theorem nVX9_give : yX9_give.cls = RX9 ∧ yX9_give.cls ≠ "java/lang/invoke/MethodHandle" ∧ yX9_give.cls ≠ "java/lang/invoke/VarHandle" ∧ (parseMethodDescriptor yX9_give.desc).map (fun d => d.parameters.length) = some 1 := by decide +kernel
set_option maxHeartbeats 4000000 in
set_option maxRecDepth 100000 in
theorem mX9_give (l : Launch) (hJ : gJ 39 q) {x1 : Int32} {σ : TS} {r : Int32} {u : TS} (hp : sX9_give x1 σ = some (r, u)) : Met l yX9_give wsX9_give rmX9_give (va_Pc [.ref (q (0)), .int x1] (gPre D vwCl (tyL cy) (gS 39 q (MX cy q) σ))) (gQi D vwCl r (gS 39 q (MX cy q) u) (gA 39 q)) 0 0 (gA 39 q) := by
  refine Met.ofW (cc := cX9_give) (maxL := 4) (ret := (some .int)) (by decide +kernel) rfl ?_
  intro p e s m args below meth c s₁ B hml hv
  obtain ⟨rfl, hP, hK⟩ := hv
  have hl := lv_entry ([.ref (q (0)), .int x1]) (n := 4) (Nat.le_of_ble_eq_true rfl)
  rw [lg_entry_eq]
  generalize (lg_sl ([.ref (q (0)), .int x1]) ++ List.replicate (4 - (lg_sl ([.ref (q (0)), .int x1])).length) Slot.unset).toArray = ls at hl ⊢
  have hl : lv_has ls 4 [(0, .ref (q (0))), (1, .int x1)] := hl
  exact kX9_give_0 ⟨B.exec, B.bytes, B.returns, hml, findClass_of_methodNamed B.named, atoms_spec (ws := wsX9_give) B.pre, B.notSynchronized⟩ hK hJ  hP va_S.rf hl hp
theorem miX9_line_X9 : ∀ w ∈ u_ws RX9 TX9 44, w ∈ wsX9_line := by decide +kernel
theorem mwX9_line_0 : Cond.fieldLink RX9 130 "TriplaneModel" "thrown" "I" ∈ wsX9_line := by decide +kernel
theorem mwX9_line_1 : Cond.fieldLink RX9 145 "TriplaneModel" "logged" "I" ∈ wsX9_line := by decide +kernel
theorem mwX9_line_2 : Cond.fieldLink RX9 127 "TriplaneModel" "lineLetters" "[I" ∈ wsX9_line := by decide +kernel
theorem mwX9_line_3 : Cond.fieldLink RX9 124 "TriplaneModel" "lineComputers" "[I" ∈ wsX9_line := by decide +kernel
theorem mwX9_line_4 : Cond.fieldLink RX9 121 "TriplaneModel" "lineTimes" "[I" ∈ wsX9_line := by decide +kernel
abbrev rmX9_line : Room := { frames := 1, cells := 0, slots := 0, locals := 22 }
def sX9_line_117 (sx0 : Int32) (σ : TS) : Option (Int32 × TS) := some (sx0, σ)
set_option maxHeartbeats 4000000 in
set_option maxRecDepth 100000 in
theorem kX9_line_117 {r : Int32} {u : TS} (C0 : gC RX9 cX9_line 4 ((some .int)) wsX9_line p s m args meth c) (hK : va_K D vwCl (tyL cy) s) (hJ : gJ 39 q) {H : Heap} {locs : List Loc} {σ : TS} {sx0 : Int32} (hP : va_P D vwCl (gS 39 q (MX cy q) σ) H) (hS : va_S (gA 39 q) s.heap H locs) {ls : Array Slot} (hl : lv_has ls 4 []) (hp : sX9_line_117 sx0 σ = some (r, u)) : W p l e rmX9_line s m args below meth c H locs 0 0 (MQ below (gQi D vwCl r (gS 39 q (MX cy q) u) (gA 39 q)) args s 0 0 (gA 39 q)) (F0 m 117 ls [.int sx0]) := by
  obtain ⟨hx, hb, hr, hml, hown, hts, hlocks⟩ := id C0
  unfold sX9_line_117 at hp
  obtain ⟨rfl, rfl⟩ := o_r hp
  exact W.iret (v := sx0) hx hb hr (fun t ht hW => ⟨⟨sx0, (), rfl, rfl, by subst ht; exact hP⟩, hS.F ht⟩) hS.2.2 dX9_line_117
def sX9_line_57 (x1 : Int32) (x2 : Int32) (sx1 : Int32) (σ : TS) : Option (Int32 × TS) := (if ((st2 σ 0 0 sx1) 0 0) ≤ 0 then (if x2 = ((116 : Int32)) then (if vin (((((st2 σ 0 0 sx1) 0 43) - ((1 : Int32))) - x1) - ((((st2 σ 0 0 sx1) 0 43) - ((1 : Int32))) - x1) / ((30 : Int32)) * ((30 : Int32))) 30 = true then sX9_line_117 ((st2 σ 0 0 sx1) 36 ((((((st2 σ 0 0 sx1) 0 43) - ((1 : Int32))) - x1) - ((((st2 σ 0 0 sx1) 0 43) - ((1 : Int32))) - x1) / ((30 : Int32)) * ((30 : Int32))).toNatClampNeg)) (st2 σ 0 0 sx1) else none) else (if x2 = ((99 : Int32)) then (if vin (((((st2 σ 0 0 sx1) 0 43) - ((1 : Int32))) - x1) - ((((st2 σ 0 0 sx1) 0 43) - ((1 : Int32))) - x1) / ((30 : Int32)) * ((30 : Int32))) 30 = true then sX9_line_117 ((st2 σ 0 0 sx1) 37 ((((((st2 σ 0 0 sx1) 0 43) - ((1 : Int32))) - x1) - ((((st2 σ 0 0 sx1) 0 43) - ((1 : Int32))) - x1) / ((30 : Int32)) * ((30 : Int32))).toNatClampNeg)) (st2 σ 0 0 sx1) else none) else (if vin (((((st2 σ 0 0 sx1) 0 43) - ((1 : Int32))) - x1) - ((((st2 σ 0 0 sx1) 0 43) - ((1 : Int32))) - x1) / ((30 : Int32)) * ((30 : Int32))) 30 = true then sX9_line_117 ((st2 σ 0 0 sx1) 38 ((((((st2 σ 0 0 sx1) 0 43) - ((1 : Int32))) - x1) - ((((st2 σ 0 0 sx1) 0 43) - ((1 : Int32))) - x1) / ((30 : Int32)) * ((30 : Int32))).toNatClampNeg)) (st2 σ 0 0 sx1) else none))) else some ((0 : Int32), st2 σ 0 0 sx1))
set_option maxHeartbeats 4000000 in
set_option maxRecDepth 100000 in
theorem kX9_line_57 {r : Int32} {u : TS} (C0 : gC RX9 cX9_line 4 ((some .int)) wsX9_line p s m args meth c) (hK : va_K D vwCl (tyL cy) s) (hJ : gJ 39 q) {H : Heap} {locs : List Loc} {σ : TS} {x1 : Int32} {x2 : Int32} {sx1 : Int32} (hP : va_P D vwCl (gS 39 q (MX cy q) σ) H) (hS : va_S (gA 39 q) s.heap H locs) {ls : Array Slot} (hl : lv_has ls 4 [(0, .ref (q (0))), (1, .int x1), (2, .int x2)]) (hp : sX9_line_57 x1 x2 sx1 σ = some (r, u)) : W p l e rmX9_line s m args below meth c H locs 0 0 (MQ below (gQi D vwCl r (gS 39 q (MX cy q) u) (gA 39 q)) args s 0 0 (gA 39 q)) (F0 m 57 ls [.int sx1, .ref (q (0))]) := by
  obtain ⟨hx, hb, hr, hml, hown, hts, hlocks⟩ := id C0
  unfold sX9_line_57 at hp
  refine g_put (v := sx1) hx hb hts miX9_line_X9 tyX9 tyX9_ok nmX9 hown hK hJ hP hS (kk_Mod) (ce_Mod) rfl 0 (by decide) mwX9_line_0 rfl rfl rfl (Nat.le_of_ble_eq_true rfl) rfl dX9_line_57 (fun H locs hP hS => ?_)
  refine lv_aload_n hx hb dX9_line_60 rfl (lv_at hl 0 rfl) ?_
  refine g_get (v := .int ((st2 σ 0 0 sx1) 0 0)) hx hb hts miX9_line_X9 hown hK hP (kk_Mod) (ce_Mod) rfl 0 (by decide) mwX9_line_0 rfl dX9_line_61 ?_
  refine lv_if_le (tgt := 69) hx hb dX9_line_64 (by decide) (fun hcd1 => ?_) (fun hcd1 => ?_)
  · have hp := o_t hp hcd1
    refine lv_aload_n hx hb dX9_line_69 rfl (lv_at hl 0 rfl) ?_
    refine g_get (v := .int ((st2 σ 0 0 sx1) 0 43)) hx hb hts miX9_line_X9 hown hK hP (kk_Mod) (ce_Mod) rfl 43 (by decide) mwX9_line_1 rfl dX9_line_70 ?_
    refine lv_iconst (v := (1 : Int32)) hx hb dX9_line_73 (by decide) ?_
    refine lv_isub hx hb dX9_line_74 ?_
    refine lv_iload_n hx hb dX9_line_75 rfl (lv_at hl 1 rfl) ?_
    refine lv_isub hx hb dX9_line_76 ?_
    refine lv_bipush (v := (30 : Int32)) hx hb dX9_line_77 (by decide) ?_
    refine lv_irem hx hb dX9_line_79 (by decide) ?_
    refine lv_istore_n (lv' := [(3, .int (((((st2 σ 0 0 sx1) 0 43) - ((1 : Int32))) - x1) - ((((st2 σ 0 0 sx1) 0 43) - ((1 : Int32))) - x1) / ((30 : Int32)) * ((30 : Int32)))), (0, .ref (q (0))), (1, .int x1), (2, .int x2)]) hx hb dX9_line_80 rfl hl (by decide) rfl (fun ls hl => ?_)
    refine lv_iload_n hx hb dX9_line_81 rfl (lv_at hl 3 rfl) ?_
    refine lv_bipush (v := (116 : Int32)) hx hb dX9_line_82 (by decide) ?_
    refine lv_icmp_ne (tgt := 96) hx hb dX9_line_84 (by decide) (fun hcd2 => ?_) (fun hcd2 => ?_)
    · have hp := o_f hp hcd2
      refine lv_iload_n hx hb dX9_line_96 rfl (lv_at hl 3 rfl) ?_
      refine lv_bipush (v := (99 : Int32)) hx hb dX9_line_97 (by decide) ?_
      refine lv_icmp_ne (tgt := 111) hx hb dX9_line_99 (by decide) (fun hcd3 => ?_) (fun hcd3 => ?_)
      · have hp := o_f hp hcd3
        refine lv_aload_n hx hb dX9_line_111 rfl (lv_at hl 1 rfl) ?_
        refine g_get (v := .ref (q (38))) hx hb hts miX9_line_X9 hown hK hP (kk_Mod) (ce_Mod) rfl 42 (by decide) mwX9_line_2 rfl dX9_line_112 ?_
        refine lv_iload_n hx hb dX9_line_115 rfl (lv_at hl 0 rfl) ?_
        obtain ⟨hi4, hp⟩ := o_chk hp
        refine g_iald (j := (((((st2 σ 0 0 sx1) 0 43) - ((1 : Int32))) - x1) - ((((st2 σ 0 0 sx1) 0 43) - ((1 : Int32))) - x1) / ((30 : Int32)) * ((30 : Int32))).toNatClampNeg) hx hb hK hP (kk_M_lineLetters) (ce_M_lineLetters) 0 rfl (vin_of hi4) rfl dX9_line_116 ?_
        exact kX9_line_117 C0 hK hJ  hP hS (lv_sub hl [] rfl) hp
      · have hp := o_t hp hcd3
        refine lv_aload_n hx hb dX9_line_102 rfl (lv_at hl 1 rfl) ?_
        refine g_get (v := .ref (q (37))) hx hb hts miX9_line_X9 hown hK hP (kk_Mod) (ce_Mod) rfl 41 (by decide) mwX9_line_3 rfl dX9_line_103 ?_
        refine lv_iload_n hx hb dX9_line_106 rfl (lv_at hl 0 rfl) ?_
        obtain ⟨hi5, hp⟩ := o_chk hp
        refine g_iald (j := (((((st2 σ 0 0 sx1) 0 43) - ((1 : Int32))) - x1) - ((((st2 σ 0 0 sx1) 0 43) - ((1 : Int32))) - x1) / ((30 : Int32)) * ((30 : Int32))).toNatClampNeg) hx hb hK hP (kk_M_lineComputers) (ce_M_lineComputers) 0 rfl (vin_of hi5) rfl dX9_line_107 ?_
        refine lv_goto (tgt := 117) hx hb dX9_line_108 (by decide) ?_
        exact kX9_line_117 C0 hK hJ  hP hS (lv_sub hl [] rfl) hp
    · have hp := o_t hp hcd2
      refine lv_aload_n hx hb dX9_line_87 rfl (lv_at hl 1 rfl) ?_
      refine g_get (v := .ref (q (36))) hx hb hts miX9_line_X9 hown hK hP (kk_Mod) (ce_Mod) rfl 40 (by decide) mwX9_line_4 rfl dX9_line_88 ?_
      refine lv_iload_n hx hb dX9_line_91 rfl (lv_at hl 0 rfl) ?_
      obtain ⟨hi6, hp⟩ := o_chk hp
      refine g_iald (j := (((((st2 σ 0 0 sx1) 0 43) - ((1 : Int32))) - x1) - ((((st2 σ 0 0 sx1) 0 43) - ((1 : Int32))) - x1) / ((30 : Int32)) * ((30 : Int32))).toNatClampNeg) hx hb hK hP (kk_M_lineTimes) (ce_M_lineTimes) 0 rfl (vin_of hi6) rfl dX9_line_92 ?_
      refine lv_goto (tgt := 117) hx hb dX9_line_93 (by decide) ?_
      exact kX9_line_117 C0 hK hJ  hP hS (lv_sub hl [] rfl) hp
  · have hp := o_f hp hcd1
    refine lv_iconst (v := (0 : Int32)) hx hb dX9_line_67 (by decide) ?_
    obtain ⟨rfl, rfl⟩ := o_r hp
    exact W.iret (v := (0 : Int32)) hx hb hr (fun t ht hW => ⟨⟨(0 : Int32), (), rfl, rfl, by subst ht; exact hP⟩, hS.F ht⟩) hS.2.2 dX9_line_68
def sX9_line_49 (x1 : Int32) (x2 : Int32) (sx1 : Int32) (σ : TS) : Option (Int32 × TS) := (if sx1 = 0 then sX9_line_57 x1 x2 ((2 : Int32)) σ else sX9_line_57 x1 x2 ((0 : Int32)) σ)
set_option maxHeartbeats 4000000 in
set_option maxRecDepth 100000 in
theorem kX9_line_49 {r : Int32} {u : TS} (C0 : gC RX9 cX9_line 4 ((some .int)) wsX9_line p s m args meth c) (hK : va_K D vwCl (tyL cy) s) (hJ : gJ 39 q) {H : Heap} {locs : List Loc} {σ : TS} {x1 : Int32} {x2 : Int32} {sx1 : Int32} (hP : va_P D vwCl (gS 39 q (MX cy q) σ) H) (hS : va_S (gA 39 q) s.heap H locs) {ls : Array Slot} (hl : lv_has ls 4 [(0, .ref (q (0))), (1, .int x1), (2, .int x2)]) (hp : sX9_line_49 x1 x2 sx1 σ = some (r, u)) : W p l e rmX9_line s m args below meth c H locs 0 0 (MQ below (gQi D vwCl r (gS 39 q (MX cy q) u) (gA 39 q)) args s 0 0 (gA 39 q)) (F0 m 49 ls [.int sx1, .ref (q (0))]) := by
  obtain ⟨hx, hb, hr, hml, hown, hts, hlocks⟩ := id C0
  unfold sX9_line_49 at hp
  refine lv_if_eq (tgt := 56) hx hb dX9_line_49 (by decide) (fun hcd7 => ?_) (fun hcd7 => ?_)
  · have hp := o_t hp hcd7
    refine lv_iconst (v := (2 : Int32)) hx hb dX9_line_56 (by decide) ?_
    exact kX9_line_57 C0 hK hJ  hP hS hl hp
  · have hp := o_f hp hcd7
    refine lv_iconst (v := (0 : Int32)) hx hb dX9_line_52 (by decide) ?_
    refine lv_goto (tgt := 57) hx hb dX9_line_53 (by decide) ?_
    exact kX9_line_57 C0 hK hJ  hP hS hl hp
def sX9_line_44 (x1 : Int32) (x2 : Int32) (sx1 : Int32) (sx2 : Int32) (sx3 : Int32) (σ : TS) : Option (Int32 × TS) := ((sX9_in sx1 sx2 (sx3 - ((1 : Int32))) σ).bind (fun z => sX9_line_49 x1 x2 z.1 z.2))
set_option maxHeartbeats 4000000 in
set_option maxRecDepth 100000 in
theorem kX9_line_44 {r : Int32} {u : TS} (C0 : gC RX9 cX9_line 4 ((some .int)) wsX9_line p s m args meth c) (hK : va_K D vwCl (tyL cy) s) (hJ : gJ 39 q) {H : Heap} {locs : List Loc} {σ : TS} {x1 : Int32} {x2 : Int32} {sx1 : Int32} {sx2 : Int32} {sx3 : Int32} (hP : va_P D vwCl (gS 39 q (MX cy q) σ) H) (hS : va_S (gA 39 q) s.heap H locs) {ls : Array Slot} (hl : lv_has ls 4 [(0, .ref (q (0))), (1, .int x1), (2, .int x2)]) (hp : sX9_line_44 x1 x2 sx1 sx2 sx3 σ = some (r, u)) : W p l e rmX9_line s m args below meth c H locs 0 0 (MQ below (gQi D vwCl r (gS 39 q (MX cy q) u) (gA 39 q)) args s 0 0 (gA 39 q)) (F0 m 44 ls [.int sx3, .int sx2, .int sx1, .ref (q (0))]) := by
  obtain ⟨hx, hb, hr, hml, hown, hts, hlocks⟩ := id C0
  unfold sX9_line_44 at hp
  refine lv_iconst (v := (1 : Int32)) hx hb dX9_line_44 (by decide) ?_
  refine lv_isub hx hb dX9_line_45 ?_
  obtain ⟨⟨r8, u9⟩, hq10, hp⟩ := o_b hp
  refine g_cSi (As := [.int sx1, .int sx2, .int (sx3 - ((1 : Int32)))]) (rest := [.ref (q (0))]) hx hb hml hown hts hK hP hS (mX9_in l hJ hq10) (va_cwS 3 hts gX9_line_X9_in rfl rfl rfl nVX9_in ⟨Nat.le_of_ble_eq_true rfl, Nat.le_of_ble_eq_true rfl⟩) rfl hl.1 rfl (Nat.le_of_ble_eq_true rfl) dX9_line_46 ⟨Nat.le_of_ble_eq_true rfl, Nat.le_of_ble_eq_true rfl⟩ (fun H locs hP hS => ?_)
  exact kX9_line_49 C0 hK hJ  hP hS hl hp
def sX9_line_27 (x1 : Int32) (x2 : Int32) (sx0 : Int32) (σ : TS) : Option (Int32 × TS) := (if sx0 = 0 then ((sX9_lesser (σ 0 43) ((30 : Int32)) σ).bind (fun z => sX9_line_44 x1 x2 x1 ((0 : Int32)) z.1 z.2)) else some ((0 : Int32), σ))
set_option maxHeartbeats 4000000 in
set_option maxRecDepth 100000 in
theorem kX9_line_27 {r : Int32} {u : TS} (C0 : gC RX9 cX9_line 4 ((some .int)) wsX9_line p s m args meth c) (hK : va_K D vwCl (tyL cy) s) (hJ : gJ 39 q) {H : Heap} {locs : List Loc} {σ : TS} {x1 : Int32} {x2 : Int32} {sx0 : Int32} (hP : va_P D vwCl (gS 39 q (MX cy q) σ) H) (hS : va_S (gA 39 q) s.heap H locs) {ls : Array Slot} (hl : lv_has ls 4 [(0, .ref (q (0))), (1, .int x1), (2, .int x2)]) (hp : sX9_line_27 x1 x2 sx0 σ = some (r, u)) : W p l e rmX9_line s m args below meth c H locs 0 0 (MQ below (gQi D vwCl r (gS 39 q (MX cy q) u) (gA 39 q)) args s 0 0 (gA 39 q)) (F0 m 27 ls [.int sx0]) := by
  obtain ⟨hx, hb, hr, hml, hown, hts, hlocks⟩ := id C0
  unfold sX9_line_27 at hp
  refine lv_if_eq (tgt := 32) hx hb dX9_line_27 (by decide) (fun hcd11 => ?_) (fun hcd11 => ?_)
  · have hp := o_t hp hcd11
    refine lv_aload_n hx hb dX9_line_32 rfl (lv_at hl 0 rfl) ?_
    refine lv_iload_n hx hb dX9_line_33 rfl (lv_at hl 1 rfl) ?_
    refine lv_iconst (v := (0 : Int32)) hx hb dX9_line_34 (by decide) ?_
    refine lv_aload_n hx hb dX9_line_35 rfl (lv_at hl 0 rfl) ?_
    refine g_get (v := .int (σ 0 43)) hx hb hts miX9_line_X9 hown hK hP (kk_Mod) (ce_Mod) rfl 43 (by decide) mwX9_line_1 rfl dX9_line_36 ?_
    refine lv_bipush (v := (30 : Int32)) hx hb dX9_line_39 (by decide) ?_
    obtain ⟨⟨r12, u13⟩, hq14, hp⟩ := o_b hp
    refine g_cSi (As := [.int (σ 0 43), .int ((30 : Int32))]) (rest := [.int ((0 : Int32)), .int x1, .ref (q (0))]) hx hb hml hown hts hK hP hS (mX9_lesser l hJ hq14) (va_cwS 2 hts gX9_line_X9_lesser rfl rfl rfl nVX9_lesser ⟨Nat.le_of_ble_eq_true rfl, Nat.le_of_ble_eq_true rfl⟩) rfl hl.1 rfl (Nat.le_of_ble_eq_true rfl) dX9_line_41 ⟨Nat.le_of_ble_eq_true rfl, Nat.le_of_ble_eq_true rfl⟩ (fun H locs hP hS => ?_)
    exact kX9_line_44 C0 hK hJ  hP hS hl hp
  · have hp := o_f hp hcd11
    refine lv_iconst (v := (0 : Int32)) hx hb dX9_line_30 (by decide) ?_
    obtain ⟨rfl, rfl⟩ := o_r hp
    exact W.iret (v := (0 : Int32)) hx hb hr (fun t ht hW => ⟨⟨(0 : Int32), (), rfl, rfl, by subst ht; exact hP⟩, hS.F ht⟩) hS.2.2 dX9_line_31
def sX9_line_24 (x1 : Int32) (x2 : Int32) (sx1 : Int32) (σ : TS) : Option (Int32 × TS) := ((sX9_isOut sx1 σ).bind (fun z => sX9_line_27 x1 x2 z.1 z.2))
set_option maxHeartbeats 4000000 in
set_option maxRecDepth 100000 in
theorem kX9_line_24 {r : Int32} {u : TS} (C0 : gC RX9 cX9_line 4 ((some .int)) wsX9_line p s m args meth c) (hK : va_K D vwCl (tyL cy) s) (hJ : gJ 39 q) {H : Heap} {locs : List Loc} {σ : TS} {x1 : Int32} {x2 : Int32} {sx1 : Int32} (hP : va_P D vwCl (gS 39 q (MX cy q) σ) H) (hS : va_S (gA 39 q) s.heap H locs) {ls : Array Slot} (hl : lv_has ls 4 [(0, .ref (q (0))), (1, .int x1), (2, .int x2)]) (hp : sX9_line_24 x1 x2 sx1 σ = some (r, u)) : W p l e rmX9_line s m args below meth c H locs 0 0 (MQ below (gQi D vwCl r (gS 39 q (MX cy q) u) (gA 39 q)) args s 0 0 (gA 39 q)) (F0 m 24 ls [.int sx1, .ref (q (0))]) := by
  obtain ⟨hx, hb, hr, hml, hown, hts, hlocks⟩ := id C0
  unfold sX9_line_24 at hp
  obtain ⟨⟨r15, u16⟩, hq17, hp⟩ := o_b hp
  refine g_cVi (As := [.int sx1]) (rest := []) hx hb hml hown hts hK hP hS (mX9_isOut l hJ hq17) (cwV 1 hts gX9_line_X9_isOut rfl rfl rfl nVX9_isOut ⟨Nat.le_of_ble_eq_true rfl, Nat.le_of_ble_eq_true rfl⟩) (g_recv hK hP (kk_Mod) (ce_Mod) rfl) rfl hl.1 rfl (Nat.le_of_ble_eq_true rfl) dX9_line_24 ⟨Nat.le_of_ble_eq_true rfl, Nat.le_of_ble_eq_true rfl⟩ (fun H locs hP hS => ?_)
  exact kX9_line_27 C0 hK hJ  hP hS hl hp
def sX9_line_19 (x1 : Int32) (x2 : Int32) (σ : TS) : Option (Int32 × TS) := sX9_line_24 x1 x2 ((1 : Int32)) σ
set_option maxHeartbeats 4000000 in
set_option maxRecDepth 100000 in
theorem kX9_line_19 {r : Int32} {u : TS} (C0 : gC RX9 cX9_line 4 ((some .int)) wsX9_line p s m args meth c) (hK : va_K D vwCl (tyL cy) s) (hJ : gJ 39 q) {H : Heap} {locs : List Loc} {σ : TS} {x1 : Int32} {x2 : Int32} (hP : va_P D vwCl (gS 39 q (MX cy q) σ) H) (hS : va_S (gA 39 q) s.heap H locs) {ls : Array Slot} (hl : lv_has ls 4 [(0, .ref (q (0))), (1, .int x1), (2, .int x2)]) (hp : sX9_line_19 x1 x2 σ = some (r, u)) : W p l e rmX9_line s m args below meth c H locs 0 0 (MQ below (gQi D vwCl r (gS 39 q (MX cy q) u) (gA 39 q)) args s 0 0 (gA 39 q)) (F0 m 19 ls [.ref (q (0))]) := by
  obtain ⟨hx, hb, hr, hml, hown, hts, hlocks⟩ := id C0
  unfold sX9_line_19 at hp
  refine lv_iconst (v := (1 : Int32)) hx hb dX9_line_19 (by decide) ?_
  refine lv_goto (tgt := 24) hx hb dX9_line_20 (by decide) ?_
  exact kX9_line_24 C0 hK hJ  hP hS hl hp
def sX9_line_0 (x1 : Int32) (x2 : Int32) (σ : TS) : Option (Int32 × TS) := (if x2 = ((116 : Int32)) then sX9_line_19 x1 x2 σ else (if x2 = ((99 : Int32)) then sX9_line_19 x1 x2 σ else (if x2 = ((114 : Int32)) then sX9_line_19 x1 x2 σ else sX9_line_24 x1 x2 ((0 : Int32)) σ)))
set_option maxHeartbeats 4000000 in
set_option maxRecDepth 100000 in
theorem kX9_line_0 {r : Int32} {u : TS} (C0 : gC RX9 cX9_line 4 ((some .int)) wsX9_line p s m args meth c) (hK : va_K D vwCl (tyL cy) s) (hJ : gJ 39 q) {H : Heap} {locs : List Loc} {σ : TS} {x1 : Int32} {x2 : Int32} (hP : va_P D vwCl (gS 39 q (MX cy q) σ) H) (hS : va_S (gA 39 q) s.heap H locs) {ls : Array Slot} (hl : lv_has ls 4 [(0, .ref (q (0))), (1, .int x1), (2, .int x2)]) (hp : sX9_line_0 x1 x2 σ = some (r, u)) : W p l e rmX9_line s m args below meth c H locs 0 0 (MQ below (gQi D vwCl r (gS 39 q (MX cy q) u) (gA 39 q)) args s 0 0 (gA 39 q)) (F0 m 0 ls []) := by
  obtain ⟨hx, hb, hr, hml, hown, hts, hlocks⟩ := id C0
  unfold sX9_line_0 at hp
  refine lv_aload_n hx hb dX9_line_0 rfl (lv_at hl 0 rfl) ?_
  refine lv_iload_n hx hb dX9_line_1 rfl (lv_at hl 2 rfl) ?_
  refine lv_bipush (v := (116 : Int32)) hx hb dX9_line_2 (by decide) ?_
  refine lv_icmp_eq (tgt := 19) hx hb dX9_line_4 (by decide) (fun hcd18 => ?_) (fun hcd18 => ?_)
  · have hp := o_t hp hcd18
    exact kX9_line_19 C0 hK hJ  hP hS hl hp
  · have hp := o_f hp hcd18
    refine lv_iload_n hx hb dX9_line_7 rfl (lv_at hl 2 rfl) ?_
    refine lv_bipush (v := (99 : Int32)) hx hb dX9_line_8 (by decide) ?_
    refine lv_icmp_eq (tgt := 19) hx hb dX9_line_10 (by decide) (fun hcd19 => ?_) (fun hcd19 => ?_)
    · have hp := o_t hp hcd19
      exact kX9_line_19 C0 hK hJ  hP hS hl hp
    · have hp := o_f hp hcd19
      refine lv_iload_n hx hb dX9_line_13 rfl (lv_at hl 2 rfl) ?_
      refine lv_bipush (v := (114 : Int32)) hx hb dX9_line_14 (by decide) ?_
      refine lv_icmp_ne (tgt := 23) hx hb dX9_line_16 (by decide) (fun hcd20 => ?_) (fun hcd20 => ?_)
      · have hp := o_f hp hcd20
        refine lv_iconst (v := (0 : Int32)) hx hb dX9_line_23 (by decide) ?_
        exact kX9_line_24 C0 hK hJ  hP hS hl hp
      · have hp := o_t hp hcd20
        exact kX9_line_19 C0 hK hJ  hP hS hl hp
def sX9_line (x1 : Int32) (x2 : Int32) (σ : TS) : Option (Int32 × TS) := sX9_line_0 x1 x2 σ
theorem nVX9_line : yX9_line.cls = RX9 ∧ yX9_line.cls ≠ "java/lang/invoke/MethodHandle" ∧ yX9_line.cls ≠ "java/lang/invoke/VarHandle" ∧ (parseMethodDescriptor yX9_line.desc).map (fun d => d.parameters.length) = some 2 := by decide +kernel
set_option maxHeartbeats 4000000 in
set_option maxRecDepth 100000 in
theorem mX9_line (l : Launch) (hJ : gJ 39 q) {x1 : Int32} {x2 : Int32} {σ : TS} {r : Int32} {u : TS} (hp : sX9_line x1 x2 σ = some (r, u)) : Met l yX9_line wsX9_line rmX9_line (va_Pc [.ref (q (0)), .int x1, .int x2] (gPre D vwCl (tyL cy) (gS 39 q (MX cy q) σ))) (gQi D vwCl r (gS 39 q (MX cy q) u) (gA 39 q)) 0 0 (gA 39 q) := by
  refine Met.ofW (cc := cX9_line) (maxL := 4) (ret := (some .int)) (by decide +kernel) rfl ?_
  intro p e s m args below meth c s₁ B hml hv
  obtain ⟨rfl, hP, hK⟩ := hv
  have hl := lv_entry ([.ref (q (0)), .int x1, .int x2]) (n := 4) (Nat.le_of_ble_eq_true rfl)
  rw [lg_entry_eq]
  generalize (lg_sl ([.ref (q (0)), .int x1, .int x2]) ++ List.replicate (4 - (lg_sl ([.ref (q (0)), .int x1, .int x2])).length) Slot.unset).toArray = ls at hl ⊢
  have hl : lv_has ls 4 [(0, .ref (q (0))), (1, .int x1), (2, .int x2)] := hl
  exact kX9_line_0 ⟨B.exec, B.bytes, B.returns, hml, findClass_of_methodNamed B.named, atoms_spec (ws := wsX9_line) B.pre, B.notSynchronized⟩ hK hJ  hP va_S.rf hl hp
theorem miX9_onShare_X9 : ∀ w ∈ u_ws RX9 TX9 44, w ∈ wsX9_onShare := by decide +kernel
theorem mwX9_onShare_0 : Cond.constantFloat RX9 247 (1077936128) ∈ wsX9_onShare := by decide +kernel
theorem mwX9_onShare_1 : Cond.fieldLink RX9 130 "TriplaneModel" "thrown" "I" ∈ wsX9_onShare := by decide +kernel
abbrev rmX9_onShare : Room := { frames := 1, cells := 0, slots := 0, locals := 22 }
def sX9_onShare_9 (sx0 : Int32) (σ : TS) : Option (UInt32 × TS) := (if fok (FP.fdiv (FP.i2f sx0) ((1077936128 : UInt32))) = true then some (FP.fdiv (FP.i2f sx0) ((1077936128 : UInt32)), σ) else none)
set_option maxHeartbeats 4000000 in
set_option maxRecDepth 100000 in
theorem kX9_onShare_9 {r : UInt32} {u : TS} (C0 : gC RX9 cX9_onShare 1 ((some .float)) wsX9_onShare p s m args meth c) (hK : va_K D vwCl (tyL cy) s) (hJ : gJ 39 q) {H : Heap} {locs : List Loc} {σ : TS} {sx0 : Int32} (hP : va_P D vwCl (gS 39 q (MX cy q) σ) H) (hS : va_S (gA 39 q) s.heap H locs) {ls : Array Slot} (hl : lv_has ls 1 []) (hp : sX9_onShare_9 sx0 σ = some (r, u)) : W p l e rmX9_onShare s m args below meth c H locs 0 0 (MQ below (gQf D vwCl r (gS 39 q (MX cy q) u) (gA 39 q)) args s 0 0 (gA 39 q)) (F0 m 9 ls [.int sx0]) := by
  obtain ⟨hx, hb, hr, hml, hown, hts, hlocks⟩ := id C0
  unfold sX9_onShare_9 at hp
  refine lv_i2f hx hb dX9_onShare_9 ?_
  refine lv_ldcf (v := (1077936128 : UInt32)) hx hb hown (hts _ mwX9_onShare_0) dX9_onShare_10 ?_
  obtain ⟨hz1, hp⟩ := o_chk hp
  refine lv_fdiv hx hb dX9_onShare_12 (fok_n hz1) ?_
  obtain ⟨rfl, rfl⟩ := o_r hp
  exact W.fret (v := FP.fdiv (FP.i2f sx0) ((1077936128 : UInt32))) hx hb hr (fun t ht hW => ⟨⟨FP.fdiv (FP.i2f sx0) ((1077936128 : UInt32)), (), rfl, rfl, by subst ht; exact hP⟩, hS.F ht⟩) hS.2.2 dX9_onShare_13
def sX9_onShare_0 (σ : TS) : Option (UInt32 × TS) := ((sX9_on (st2 σ 0 0 ((0 : Int32)))).bind (fun z => sX9_onShare_9 z.1 z.2))
set_option maxHeartbeats 4000000 in
set_option maxRecDepth 100000 in
theorem kX9_onShare_0 {r : UInt32} {u : TS} (C0 : gC RX9 cX9_onShare 1 ((some .float)) wsX9_onShare p s m args meth c) (hK : va_K D vwCl (tyL cy) s) (hJ : gJ 39 q) {H : Heap} {locs : List Loc} {σ : TS} (hP : va_P D vwCl (gS 39 q (MX cy q) σ) H) (hS : va_S (gA 39 q) s.heap H locs) {ls : Array Slot} (hl : lv_has ls 1 [(0, .ref (q (0)))]) (hp : sX9_onShare_0 σ = some (r, u)) : W p l e rmX9_onShare s m args below meth c H locs 0 0 (MQ below (gQf D vwCl r (gS 39 q (MX cy q) u) (gA 39 q)) args s 0 0 (gA 39 q)) (F0 m 0 ls []) := by
  obtain ⟨hx, hb, hr, hml, hown, hts, hlocks⟩ := id C0
  unfold sX9_onShare_0 at hp
  refine lv_aload_n hx hb dX9_onShare_0 rfl (lv_at hl 0 rfl) ?_
  refine lv_iconst (v := (0 : Int32)) hx hb dX9_onShare_1 (by decide) ?_
  refine g_put (v := (0 : Int32)) hx hb hts miX9_onShare_X9 tyX9 tyX9_ok nmX9 hown hK hJ hP hS (kk_Mod) (ce_Mod) rfl 0 (by decide) mwX9_onShare_1 rfl rfl rfl (Nat.le_of_ble_eq_true rfl) rfl dX9_onShare_2 (fun H locs hP hS => ?_)
  refine lv_aload_n hx hb dX9_onShare_5 rfl (lv_at hl 0 rfl) ?_
  obtain ⟨⟨r2, u3⟩, hq4, hp⟩ := o_b hp
  refine g_cVi (As := []) (rest := []) hx hb hml hown hts hK hP hS (mX9_on l hJ hq4) (cwV 0 hts gX9_onShare_X9_on rfl rfl rfl nVX9_on ⟨Nat.le_of_ble_eq_true rfl, Nat.le_of_ble_eq_true rfl⟩) (g_recv hK hP (kk_Mod) (ce_Mod) rfl) rfl hl.1 rfl (Nat.le_of_ble_eq_true rfl) dX9_onShare_6 ⟨Nat.le_of_ble_eq_true rfl, Nat.le_of_ble_eq_true rfl⟩ (fun H locs hP hS => ?_)
  exact kX9_onShare_9 C0 hK hJ  hP hS (lv_sub hl [] rfl) hp
def sX9_onShare (σ : TS) : Option (UInt32 × TS) := sX9_onShare_0 σ
theorem nVX9_onShare : yX9_onShare.cls = RX9 ∧ yX9_onShare.cls ≠ "java/lang/invoke/MethodHandle" ∧ yX9_onShare.cls ≠ "java/lang/invoke/VarHandle" ∧ (parseMethodDescriptor yX9_onShare.desc).map (fun d => d.parameters.length) = some 0 := by decide +kernel
set_option maxHeartbeats 4000000 in
set_option maxRecDepth 100000 in
theorem mX9_onShare (l : Launch) (hJ : gJ 39 q) {σ : TS} {r : UInt32} {u : TS} (hp : sX9_onShare σ = some (r, u)) : Met l yX9_onShare wsX9_onShare rmX9_onShare (va_Pc [.ref (q (0))] (gPre D vwCl (tyL cy) (gS 39 q (MX cy q) σ))) (gQf D vwCl r (gS 39 q (MX cy q) u) (gA 39 q)) 0 0 (gA 39 q) := by
  refine Met.ofW (cc := cX9_onShare) (maxL := 1) (ret := (some .float)) (by decide +kernel) rfl ?_
  intro p e s m args below meth c s₁ B hml hv
  obtain ⟨rfl, hP, hK⟩ := hv
  have hl := lv_entry ([.ref (q (0))]) (n := 1) (Nat.le_of_ble_eq_true rfl)
  rw [lg_entry_eq]
  generalize (lg_sl ([.ref (q (0))]) ++ List.replicate (1 - (lg_sl ([.ref (q (0))])).length) Slot.unset).toArray = ls at hl ⊢
  have hl : lv_has ls 1 [(0, .ref (q (0)))] := hl
  exact kX9_onShare_0 ⟨B.exec, B.bytes, B.returns, hml, findClass_of_methodNamed B.named, atoms_spec (ws := wsX9_onShare) B.pre, B.notSynchronized⟩ hK hJ  hP va_S.rf hl hp
theorem miX9_meanOutput_X9 : ∀ w ∈ u_ws RX9 TX9 44, w ∈ wsX9_meanOutput := by decide +kernel
theorem mwX9_meanOutput_0 : Cond.constantDouble RX9 248 (4616189618054758400) ∈ wsX9_meanOutput := by decide +kernel
theorem mwX9_meanOutput_1 : Cond.fieldLink RX9 75 "TriplaneModel" "outputs" "[I" ∈ wsX9_meanOutput := by decide +kernel
theorem mwX9_meanOutput_2 : Cond.fieldLink RX9 130 "TriplaneModel" "thrown" "I" ∈ wsX9_meanOutput := by decide +kernel
abbrev rmX9_meanOutput : Room := { frames := 0, cells := 0, slots := 0, locals := 0 }
def sX9_meanOutput_9 : Nat → Int32 → Int32 → TS → Option (UInt64 × TS)
  | 0, _, _, _ => none
  | n + 1, x1, x2, σ => (if ((4 : Int32)) ≤ x2 then (if dok (FP.ddiv (FP.i2d x1) ((4616189618054758400 : UInt64))) = true then some (FP.ddiv (FP.i2d x1) ((4616189618054758400 : UInt64)), σ) else none) else (if vin x2 4 = true then sX9_meanOutput_9 n (x1 + (σ 22 (x2.toNatClampNeg))) (x2 + (1 : Int32)) σ else none))
set_option maxHeartbeats 4000000 in
set_option maxRecDepth 100000 in
theorem kX9_meanOutput_9 {r : UInt64} {u : TS} (C0 : gC RX9 cX9_meanOutput 3 ((some .double)) wsX9_meanOutput p s m args meth c) (hK : va_K D vwCl (tyL cy) s) (hJ : gJ 39 q) : ∀ (n : Nat) (H : Heap) (locs : List Loc) (σ : TS) (x1 : Int32) (x2 : Int32) (hP : va_P D vwCl (gS 39 q (MX cy q) σ) H) (hS : va_S (gA 39 q) s.heap H locs) (ls : Array Slot) (hl : lv_has ls 3 [(0, .ref (q (0))), (1, .int x1), (2, .int x2)]) (hp : sX9_meanOutput_9 n x1 x2 σ = some (r, u)), W p l e rmX9_meanOutput s m args below meth c H locs 0 0 (MQ below (gQd D vwCl r (gS 39 q (MX cy q) u) (gA 39 q)) args s 0 0 (gA 39 q)) (F0 m 9 ls []) := by
  obtain ⟨hx, hb, hr, hml, hown, hts, hlocks⟩ := id C0
  intro n
  induction n with
  | zero =>
    intro H locs σ x1 x2 hP hS ls hl hp
    cases hp
  | succ n ih =>
    intro H locs σ x1 x2 hP hS ls hl hp
    unfold sX9_meanOutput_9 at hp
    refine lv_iload_n hx hb dX9_meanOutput_9 rfl (lv_at hl 2 rfl) ?_
    refine lv_iconst (v := (4 : Int32)) hx hb dX9_meanOutput_10 (by decide) ?_
    refine lv_icmp_ge (tgt := 29) hx hb dX9_meanOutput_11 (by decide) (fun hcd1 => ?_) (fun hcd1 => ?_)
    · have hp := o_t hp hcd1
      refine lv_iload_n hx hb dX9_meanOutput_29 rfl (lv_at hl 1 rfl) ?_
      refine lv_i2d hx hb dX9_meanOutput_30 ?_
      refine lv_ldc2d (v := (4616189618054758400 : UInt64)) hx hb hown (hts _ mwX9_meanOutput_0) dX9_meanOutput_31 ?_
      obtain ⟨hz2, hp⟩ := o_chk hp
      refine lv_ddiv hx hb dX9_meanOutput_34 (dok_n hz2) ?_
      obtain ⟨rfl, rfl⟩ := o_r hp
      exact W.dret (v := FP.ddiv (FP.i2d x1) ((4616189618054758400 : UInt64))) hx hb hr (fun t ht hW => ⟨⟨FP.ddiv (FP.i2d x1) ((4616189618054758400 : UInt64)), (), rfl, rfl, by subst ht; exact hP⟩, hS.F ht⟩) hS.2.2 dX9_meanOutput_35
    · have hp := o_f hp hcd1
      refine lv_iload_n hx hb dX9_meanOutput_14 rfl (lv_at hl 1 rfl) ?_
      refine lv_aload_n hx hb dX9_meanOutput_15 rfl (lv_at hl 0 rfl) ?_
      refine g_get (v := .ref (q (22))) hx hb hts miX9_meanOutput_X9 hown hK hP (kk_Mod) (ce_Mod) rfl 24 (by decide) mwX9_meanOutput_1 rfl dX9_meanOutput_16 ?_
      refine lv_iload_n hx hb dX9_meanOutput_19 rfl (lv_at hl 2 rfl) ?_
      obtain ⟨hi3, hp⟩ := o_chk hp
      refine g_iald (j := x2.toNatClampNeg) hx hb hK hP (kk_M_outputs) (ce_M_outputs) 0 rfl (vin_of hi3) rfl dX9_meanOutput_20 ?_
      refine lv_iadd hx hb dX9_meanOutput_21 ?_
      refine lv_istore_n (lv' := [(1, .int (x1 + (σ 22 (x2.toNatClampNeg)))), (0, .ref (q (0))), (2, .int x2)]) hx hb dX9_meanOutput_22 rfl hl (by decide) rfl (fun ls hl => ?_)
      refine lv_iinc (v := x2 + (1 : Int32)) (lv' := [(2, .int (x2 + (1 : Int32))), (1, .int (x1 + (σ 22 (x2.toNatClampNeg)))), (0, .ref (q (0)))]) hx hb dX9_meanOutput_23 hl (k := 2) rfl rfl (by decide) rfl (fun ls hl => ?_)
      refine lv_goto (tgt := 9) hx hb dX9_meanOutput_26 (by decide) ?_
      exact ih _ _ _ _ _  hP hS _ (lv_sub hl [2, 1, 0] rfl) hp
def sX9_meanOutput_0 (σ : TS) : Option (UInt64 × TS) := sX9_meanOutput_9 5 ((0 : Int32)) ((0 : Int32)) (st2 σ 0 0 ((0 : Int32)))
set_option maxHeartbeats 4000000 in
set_option maxRecDepth 100000 in
theorem kX9_meanOutput_0 {r : UInt64} {u : TS} (C0 : gC RX9 cX9_meanOutput 3 ((some .double)) wsX9_meanOutput p s m args meth c) (hK : va_K D vwCl (tyL cy) s) (hJ : gJ 39 q) {H : Heap} {locs : List Loc} {σ : TS} (hP : va_P D vwCl (gS 39 q (MX cy q) σ) H) (hS : va_S (gA 39 q) s.heap H locs) {ls : Array Slot} (hl : lv_has ls 3 [(0, .ref (q (0)))]) (hp : sX9_meanOutput_0 σ = some (r, u)) : W p l e rmX9_meanOutput s m args below meth c H locs 0 0 (MQ below (gQd D vwCl r (gS 39 q (MX cy q) u) (gA 39 q)) args s 0 0 (gA 39 q)) (F0 m 0 ls []) := by
  obtain ⟨hx, hb, hr, hml, hown, hts, hlocks⟩ := id C0
  unfold sX9_meanOutput_0 at hp
  refine lv_aload_n hx hb dX9_meanOutput_0 rfl (lv_at hl 0 rfl) ?_
  refine lv_iconst (v := (0 : Int32)) hx hb dX9_meanOutput_1 (by decide) ?_
  refine g_put (v := (0 : Int32)) hx hb hts miX9_meanOutput_X9 tyX9 tyX9_ok nmX9 hown hK hJ hP hS (kk_Mod) (ce_Mod) rfl 0 (by decide) mwX9_meanOutput_2 rfl rfl rfl (Nat.le_of_ble_eq_true rfl) rfl dX9_meanOutput_2 (fun H locs hP hS => ?_)
  refine lv_iconst (v := (0 : Int32)) hx hb dX9_meanOutput_5 (by decide) ?_
  refine lv_istore_n (lv' := [(1, .int ((0 : Int32))), (0, .ref (q (0)))]) hx hb dX9_meanOutput_6 rfl hl (by decide) rfl (fun ls hl => ?_)
  refine lv_iconst (v := (0 : Int32)) hx hb dX9_meanOutput_7 (by decide) ?_
  refine lv_istore_n (lv' := [(2, .int ((0 : Int32))), (1, .int ((0 : Int32))), (0, .ref (q (0)))]) hx hb dX9_meanOutput_8 rfl hl (by decide) rfl (fun ls hl => ?_)
  exact kX9_meanOutput_9 C0 hK hJ _ _ _ _ _ _  hP hS _ (lv_sub hl [2, 1, 0] rfl) hp
def sX9_meanOutput (σ : TS) : Option (UInt64 × TS) := sX9_meanOutput_0 σ
theorem nVX9_meanOutput : yX9_meanOutput.cls = RX9 ∧ yX9_meanOutput.cls ≠ "java/lang/invoke/MethodHandle" ∧ yX9_meanOutput.cls ≠ "java/lang/invoke/VarHandle" ∧ (parseMethodDescriptor yX9_meanOutput.desc).map (fun d => d.parameters.length) = some 0 := by decide +kernel
set_option maxHeartbeats 4000000 in
set_option maxRecDepth 100000 in
theorem mX9_meanOutput (l : Launch) (hJ : gJ 39 q) {σ : TS} {r : UInt64} {u : TS} (hp : sX9_meanOutput σ = some (r, u)) : Met l yX9_meanOutput wsX9_meanOutput rmX9_meanOutput (va_Pc [.ref (q (0))] (gPre D vwCl (tyL cy) (gS 39 q (MX cy q) σ))) (gQd D vwCl r (gS 39 q (MX cy q) u) (gA 39 q)) 0 0 (gA 39 q) := by
  refine Met.ofW (cc := cX9_meanOutput) (maxL := 3) (ret := (some .double)) (by decide +kernel) rfl ?_
  intro p e s m args below meth c s₁ B hml hv
  obtain ⟨rfl, hP, hK⟩ := hv
  have hl := lv_entry ([.ref (q (0))]) (n := 3) (Nat.le_of_ble_eq_true rfl)
  rw [lg_entry_eq]
  generalize (lg_sl ([.ref (q (0))]) ++ List.replicate (3 - (lg_sl ([.ref (q (0))])).length) Slot.unset).toArray = ls at hl ⊢
  have hl : lv_has ls 3 [(0, .ref (q (0)))] := hl
  exact kX9_meanOutput_0 ⟨B.exec, B.bytes, B.returns, hml, findClass_of_methodNamed B.named, atoms_spec (ws := wsX9_meanOutput) B.pre, B.notSynchronized⟩ hK hJ  hP va_S.rf hl hp
theorem miX9_checksum_X9 : ∀ w ∈ u_ws RX9 TX9 44, w ∈ wsX9_checksum := by decide +kernel
theorem mwX9_checksum_0 : Cond.constantLong RX9 252 (31) ∈ wsX9_checksum := by decide +kernel
theorem mwX9_checksum_1 : Cond.fieldLink RX9 48 "TriplaneModel" "clocks" "[I" ∈ wsX9_checksum := by decide +kernel
theorem mwX9_checksum_2 : Cond.constantLong RX9 254 (100) ∈ wsX9_checksum := by decide +kernel
theorem mwX9_checksum_3 : Cond.fieldLink RX9 45 "TriplaneModel" "strikes" "[I" ∈ wsX9_checksum := by decide +kernel
theorem mwX9_checksum_4 : Cond.fieldLink RX9 26 "TriplaneModel" "words" "[I" ∈ wsX9_checksum := by decide +kernel
theorem mwX9_checksum_5 : Cond.fieldLink RX9 29 "TriplaneModel" "flips" "[I" ∈ wsX9_checksum := by decide +kernel
theorem mwX9_checksum_6 : Cond.fieldLink RX9 75 "TriplaneModel" "outputs" "[I" ∈ wsX9_checksum := by decide +kernel
theorem mwX9_checksum_7 : Cond.fieldLink RX9 130 "TriplaneModel" "thrown" "I" ∈ wsX9_checksum := by decide +kernel
theorem mwX9_checksum_8 : Cond.constantLong RX9 250 (7) ∈ wsX9_checksum := by decide +kernel
abbrev rmX9_checksum : Room := { frames := 1, cells := 0, slots := 0, locals := 20 }
def sX9_checksum_65 (K38 : Int64 → Int32 → TS → Option (Int64 × TS)) (x3 : Int32) (sy0 : Int64) (sx1 : Int32) (σ : TS) : Option (Int64 × TS) := K38 (sy0 + (sx1.toInt64)) (x3 + (1 : Int32)) σ
set_option maxHeartbeats 4000000 in
set_option maxRecDepth 100000 in
theorem kX9_checksum_65 {r : Int64} {u : TS} {K38 : Int64 → Int32 → TS → Option (Int64 × TS)} (C0 : gC RX9 cX9_checksum 4 ((some .long)) wsX9_checksum p s m args meth c) (hK : va_K D vwCl (tyL cy) s) (hJ : gJ 39 q) (kh38 : ∀ (H : Heap) (locs : List Loc) (σ : TS) (y1 : Int64) (x3 : Int32) (hP : va_P D vwCl (gS 39 q (MX cy q) σ) H) (hS : va_S (gA 39 q) s.heap H locs) (ls : Array Slot) (hl : lv_has ls 4 [(0, .ref (q (0))), (1, .long y1), (3, .int x3)]) (hp : K38 y1 x3 σ = some (r, u)), W p l e rmX9_checksum s m args below meth c H locs 0 0 (MQ below (gQl D vwCl r (gS 39 q (MX cy q) u) (gA 39 q)) args s 0 0 (gA 39 q)) (F0 m 38 ls [])) {H : Heap} {locs : List Loc} {σ : TS} {x3 : Int32} {sy0 : Int64} {sx1 : Int32} (hP : va_P D vwCl (gS 39 q (MX cy q) σ) H) (hS : va_S (gA 39 q) s.heap H locs) {ls : Array Slot} (hl : lv_has ls 4 [(0, .ref (q (0))), (3, .int x3)]) (hp : sX9_checksum_65 K38 x3 sy0 sx1 σ = some (r, u)) : W p l e rmX9_checksum s m args below meth c H locs 0 0 (MQ below (gQl D vwCl r (gS 39 q (MX cy q) u) (gA 39 q)) args s 0 0 (gA 39 q)) (F0 m 65 ls [.int sx1, .long sy0]) := by
  obtain ⟨hx, hb, hr, hml, hown, hts, hlocks⟩ := id C0
  unfold sX9_checksum_65 at hp
  refine lv_i2l hx hb dX9_checksum_65 rfl ?_
  refine lv_ladd hx hb dX9_checksum_66 ?_
  refine lv_lstore_n (lv' := [(1, .long (sy0 + (sx1.toInt64))), (0, .ref (q (0))), (3, .int x3)]) hx hb dX9_checksum_67 rfl hl (by decide) rfl (fun ls hl => ?_)
  refine lv_iinc (v := x3 + (1 : Int32)) (lv' := [(3, .int (x3 + (1 : Int32))), (1, .long (sy0 + (sx1.toInt64))), (0, .ref (q (0)))]) hx hb dX9_checksum_68 hl (k := 2) rfl rfl (by decide) rfl (fun ls hl => ?_)
  refine lv_goto (tgt := 38) hx hb dX9_checksum_71 (by decide) ?_
  exact kh38 _ _ _ _ _  hP hS _ (lv_sub hl [2, 1, 0] rfl) hp
def sX9_checksum_76 : Nat → Int64 → Int32 → TS → Option (Int64 × TS)
  | 0, _, _, _ => none
  | n + 1, y1, x3, σ => (if ((3 : Int32)) ≤ x3 then some (y1, σ) else (if vin x3 4 = true then sX9_checksum_76 n (((((31 : Int64)) * y1) + ((σ 13 (x3.toNatClampNeg)).toInt64)) + (((100 : Int64)) * ((σ 12 (x3.toNatClampNeg)).toInt64))) (x3 + (1 : Int32)) σ else none))
set_option maxHeartbeats 4000000 in
set_option maxRecDepth 100000 in
theorem kX9_checksum_76 {r : Int64} {u : TS} (C0 : gC RX9 cX9_checksum 4 ((some .long)) wsX9_checksum p s m args meth c) (hK : va_K D vwCl (tyL cy) s) (hJ : gJ 39 q) : ∀ (n : Nat) (H : Heap) (locs : List Loc) (σ : TS) (y1 : Int64) (x3 : Int32) (hP : va_P D vwCl (gS 39 q (MX cy q) σ) H) (hS : va_S (gA 39 q) s.heap H locs) (ls : Array Slot) (hl : lv_has ls 4 [(0, .ref (q (0))), (1, .long y1), (3, .int x3)]) (hp : sX9_checksum_76 n y1 x3 σ = some (r, u)), W p l e rmX9_checksum s m args below meth c H locs 0 0 (MQ below (gQl D vwCl r (gS 39 q (MX cy q) u) (gA 39 q)) args s 0 0 (gA 39 q)) (F0 m 76 ls []) := by
  obtain ⟨hx, hb, hr, hml, hown, hts, hlocks⟩ := id C0
  intro n
  induction n with
  | zero =>
    intro H locs σ y1 x3 hP hS ls hl hp
    cases hp
  | succ n ih =>
    intro H locs σ y1 x3 hP hS ls hl hp
    unfold sX9_checksum_76 at hp
    refine lv_iload_n hx hb dX9_checksum_76 rfl (lv_at hl 2 rfl) ?_
    refine lv_iconst (v := (3 : Int32)) hx hb dX9_checksum_77 (by decide) ?_
    refine lv_icmp_ge (tgt := 113) hx hb dX9_checksum_78 (by decide) (fun hcd1 => ?_) (fun hcd1 => ?_)
    · have hp := o_t hp hcd1
      refine lv_lload_n hx hb dX9_checksum_113 rfl (lv_at hl 1 rfl) ?_
      obtain ⟨rfl, rfl⟩ := o_r hp
      exact W.lret (v := y1) hx hb hr (fun t ht hW => ⟨⟨y1, (), rfl, rfl, by subst ht; exact hP⟩, hS.F ht⟩) hS.2.2 dX9_checksum_114
    · have hp := o_f hp hcd1
      refine lv_ldc2 (v := (31 : Int64)) hx hb hown (hts _ mwX9_checksum_0) dX9_checksum_81 ?_
      refine lv_lload_n hx hb dX9_checksum_84 rfl (lv_at hl 1 rfl) ?_
      refine lv_lmul hx hb dX9_checksum_85 ?_
      refine lv_aload_n hx hb dX9_checksum_86 rfl (lv_at hl 0 rfl) ?_
      refine g_get (v := .ref (q (13))) hx hb hts miX9_checksum_X9 hown hK hP (kk_Mod) (ce_Mod) rfl 15 (by decide) mwX9_checksum_1 rfl dX9_checksum_87 ?_
      refine lv_iload_n hx hb dX9_checksum_90 rfl (lv_at hl 2 rfl) ?_
      obtain ⟨hi2, hp⟩ := o_chk hp
      refine g_iald (j := x3.toNatClampNeg) hx hb hK hP (kk_M_clocks) (ce_M_clocks) 0 rfl (vin_of hi2) rfl dX9_checksum_91 ?_
      refine lv_i2l hx hb dX9_checksum_92 rfl ?_
      refine lv_ladd hx hb dX9_checksum_93 ?_
      refine lv_ldc2 (v := (100 : Int64)) hx hb hown (hts _ mwX9_checksum_2) dX9_checksum_94 ?_
      refine lv_aload_n hx hb dX9_checksum_97 rfl (lv_at hl 0 rfl) ?_
      refine g_get (v := .ref (q (12))) hx hb hts miX9_checksum_X9 hown hK hP (kk_Mod) (ce_Mod) rfl 14 (by decide) mwX9_checksum_3 rfl dX9_checksum_98 ?_
      refine lv_iload_n hx hb dX9_checksum_101 rfl (lv_at hl 2 rfl) ?_
      refine g_iald (j := x3.toNatClampNeg) hx hb hK hP (kk_M_strikes) (ce_M_strikes) 0 rfl (vin_of hi2) rfl dX9_checksum_102 ?_
      refine lv_i2l hx hb dX9_checksum_103 rfl ?_
      refine lv_lmul hx hb dX9_checksum_104 ?_
      refine lv_ladd hx hb dX9_checksum_105 ?_
      refine lv_lstore_n (lv' := [(1, .long (((((31 : Int64)) * y1) + ((σ 13 (x3.toNatClampNeg)).toInt64)) + (((100 : Int64)) * ((σ 12 (x3.toNatClampNeg)).toInt64)))), (0, .ref (q (0))), (3, .int x3)]) hx hb dX9_checksum_106 rfl hl (by decide) rfl (fun ls hl => ?_)
      refine lv_iinc (v := x3 + (1 : Int32)) (lv' := [(3, .int (x3 + (1 : Int32))), (1, .long (((((31 : Int64)) * y1) + ((σ 13 (x3.toNatClampNeg)).toInt64)) + (((100 : Int64)) * ((σ 12 (x3.toNatClampNeg)).toInt64)))), (0, .ref (q (0)))]) hx hb dX9_checksum_107 hl (k := 2) rfl rfl (by decide) rfl (fun ls hl => ?_)
      refine lv_goto (tgt := 76) hx hb dX9_checksum_110 (by decide) ?_
      exact ih _ _ _ _ _  hP hS _ (lv_sub hl [2, 1, 0] rfl) hp
def sX9_checksum_38 : Nat → Int64 → Int32 → TS → Option (Int64 × TS)
  | 0, _, _, _ => none
  | n + 1, y1, x3, σ => (if ((54 : Int32)) ≤ x3 then sX9_checksum_76 4 y1 ((0 : Int32)) σ else (if vin x3 72 = true then ((sX9_round ((σ 6 (x3.toNatClampNeg)) ^^^ (σ 7 (x3.toNatClampNeg))) σ).bind (fun z => sX9_checksum_65 (sX9_checksum_38 n) x3 (((31 : Int64)) * y1) z.1 z.2)) else none))
set_option maxHeartbeats 4000000 in
set_option maxRecDepth 100000 in
theorem kX9_checksum_38 {r : Int64} {u : TS} (C0 : gC RX9 cX9_checksum 4 ((some .long)) wsX9_checksum p s m args meth c) (hK : va_K D vwCl (tyL cy) s) (hJ : gJ 39 q) : ∀ (n : Nat) (H : Heap) (locs : List Loc) (σ : TS) (y1 : Int64) (x3 : Int32) (hP : va_P D vwCl (gS 39 q (MX cy q) σ) H) (hS : va_S (gA 39 q) s.heap H locs) (ls : Array Slot) (hl : lv_has ls 4 [(0, .ref (q (0))), (1, .long y1), (3, .int x3)]) (hp : sX9_checksum_38 n y1 x3 σ = some (r, u)), W p l e rmX9_checksum s m args below meth c H locs 0 0 (MQ below (gQl D vwCl r (gS 39 q (MX cy q) u) (gA 39 q)) args s 0 0 (gA 39 q)) (F0 m 38 ls []) := by
  obtain ⟨hx, hb, hr, hml, hown, hts, hlocks⟩ := id C0
  intro n
  induction n with
  | zero =>
    intro H locs σ y1 x3 hP hS ls hl hp
    cases hp
  | succ n ih =>
    intro H locs σ y1 x3 hP hS ls hl hp
    unfold sX9_checksum_38 at hp
    refine lv_iload_n hx hb dX9_checksum_38 rfl (lv_at hl 2 rfl) ?_
    refine lv_bipush (v := (54 : Int32)) hx hb dX9_checksum_39 (by decide) ?_
    refine lv_icmp_ge (tgt := 74) hx hb dX9_checksum_41 (by decide) (fun hcd3 => ?_) (fun hcd3 => ?_)
    · have hp := o_t hp hcd3
      refine lv_iconst (v := (0 : Int32)) hx hb dX9_checksum_74 (by decide) ?_
      refine lv_istore_n (lv' := [(3, .int ((0 : Int32))), (0, .ref (q (0))), (1, .long y1)]) hx hb dX9_checksum_75 rfl hl (by decide) rfl (fun ls hl => ?_)
      exact kX9_checksum_76 C0 hK hJ _ _ _ _ _ _  hP hS _ (lv_sub hl [1, 2, 0] rfl) hp
    · have hp := o_f hp hcd3
      refine lv_ldc2 (v := (31 : Int64)) hx hb hown (hts _ mwX9_checksum_0) dX9_checksum_44 ?_
      refine lv_lload_n hx hb dX9_checksum_47 rfl (lv_at hl 1 rfl) ?_
      refine lv_lmul hx hb dX9_checksum_48 ?_
      refine lv_aload_n hx hb dX9_checksum_49 rfl (lv_at hl 0 rfl) ?_
      refine g_get (v := .ref (q (6))) hx hb hts miX9_checksum_X9 hown hK hP (kk_Mod) (ce_Mod) rfl 8 (by decide) mwX9_checksum_4 rfl dX9_checksum_50 ?_
      refine lv_iload_n hx hb dX9_checksum_53 rfl (lv_at hl 2 rfl) ?_
      obtain ⟨hi4, hp⟩ := o_chk hp
      refine g_iald (j := x3.toNatClampNeg) hx hb hK hP (kk_M_words) (ce_M_words) 0 rfl (vin_of hi4) rfl dX9_checksum_54 ?_
      refine lv_aload_n hx hb dX9_checksum_55 rfl (lv_at hl 0 rfl) ?_
      refine g_get (v := .ref (q (7))) hx hb hts miX9_checksum_X9 hown hK hP (kk_Mod) (ce_Mod) rfl 9 (by decide) mwX9_checksum_5 rfl dX9_checksum_56 ?_
      refine lv_iload_n hx hb dX9_checksum_59 rfl (lv_at hl 2 rfl) ?_
      refine g_iald (j := x3.toNatClampNeg) hx hb hK hP (kk_M_flips) (ce_M_flips) 0 rfl (vin_of hi4) rfl dX9_checksum_60 ?_
      refine lv_ixor hx hb dX9_checksum_61 ?_
      obtain ⟨⟨r5, u6⟩, hq7, hp⟩ := o_b hp
      refine g_cSi (As := [.int ((σ 6 (x3.toNatClampNeg)) ^^^ (σ 7 (x3.toNatClampNeg)))]) (rest := [.long (((31 : Int64)) * y1)]) hx hb hml hown hts hK hP hS (mX9_round l hJ hq7) (va_cwS 1 hts gX9_checksum_X9_round rfl rfl rfl nVX9_round ⟨Nat.le_of_ble_eq_true rfl, Nat.le_of_ble_eq_true rfl⟩) rfl hl.1 rfl (Nat.le_of_ble_eq_true rfl) dX9_checksum_62 ⟨Nat.le_of_ble_eq_true rfl, Nat.le_of_ble_eq_true rfl⟩ (fun H locs hP hS => ?_)
      exact kX9_checksum_65 C0 hK hJ ih  hP hS (lv_sub hl [0, 2] rfl) hp
def sX9_checksum_11 : Nat → Int64 → Int32 → TS → Option (Int64 × TS)
  | 0, _, _, _ => none
  | n + 1, y1, x3, σ => (if ((4 : Int32)) ≤ x3 then sX9_checksum_38 55 y1 ((0 : Int32)) σ else (if vin x3 4 = true then sX9_checksum_11 n ((((31 : Int64)) * y1) + ((σ 22 (x3.toNatClampNeg)).toInt64)) (x3 + (1 : Int32)) σ else none))
set_option maxHeartbeats 4000000 in
set_option maxRecDepth 100000 in
theorem kX9_checksum_11 {r : Int64} {u : TS} (C0 : gC RX9 cX9_checksum 4 ((some .long)) wsX9_checksum p s m args meth c) (hK : va_K D vwCl (tyL cy) s) (hJ : gJ 39 q) : ∀ (n : Nat) (H : Heap) (locs : List Loc) (σ : TS) (y1 : Int64) (x3 : Int32) (hP : va_P D vwCl (gS 39 q (MX cy q) σ) H) (hS : va_S (gA 39 q) s.heap H locs) (ls : Array Slot) (hl : lv_has ls 4 [(0, .ref (q (0))), (1, .long y1), (3, .int x3)]) (hp : sX9_checksum_11 n y1 x3 σ = some (r, u)), W p l e rmX9_checksum s m args below meth c H locs 0 0 (MQ below (gQl D vwCl r (gS 39 q (MX cy q) u) (gA 39 q)) args s 0 0 (gA 39 q)) (F0 m 11 ls []) := by
  obtain ⟨hx, hb, hr, hml, hown, hts, hlocks⟩ := id C0
  intro n
  induction n with
  | zero =>
    intro H locs σ y1 x3 hP hS ls hl hp
    cases hp
  | succ n ih =>
    intro H locs σ y1 x3 hP hS ls hl hp
    unfold sX9_checksum_11 at hp
    refine lv_iload_n hx hb dX9_checksum_11 rfl (lv_at hl 2 rfl) ?_
    refine lv_iconst (v := (4 : Int32)) hx hb dX9_checksum_12 (by decide) ?_
    refine lv_icmp_ge (tgt := 36) hx hb dX9_checksum_13 (by decide) (fun hcd8 => ?_) (fun hcd8 => ?_)
    · have hp := o_t hp hcd8
      refine lv_iconst (v := (0 : Int32)) hx hb dX9_checksum_36 (by decide) ?_
      refine lv_istore_n (lv' := [(3, .int ((0 : Int32))), (0, .ref (q (0))), (1, .long y1)]) hx hb dX9_checksum_37 rfl hl (by decide) rfl (fun ls hl => ?_)
      exact kX9_checksum_38 C0 hK hJ _ _ _ _ _ _  hP hS _ (lv_sub hl [1, 2, 0] rfl) hp
    · have hp := o_f hp hcd8
      refine lv_ldc2 (v := (31 : Int64)) hx hb hown (hts _ mwX9_checksum_0) dX9_checksum_16 ?_
      refine lv_lload_n hx hb dX9_checksum_19 rfl (lv_at hl 1 rfl) ?_
      refine lv_lmul hx hb dX9_checksum_20 ?_
      refine lv_aload_n hx hb dX9_checksum_21 rfl (lv_at hl 0 rfl) ?_
      refine g_get (v := .ref (q (22))) hx hb hts miX9_checksum_X9 hown hK hP (kk_Mod) (ce_Mod) rfl 24 (by decide) mwX9_checksum_6 rfl dX9_checksum_22 ?_
      refine lv_iload_n hx hb dX9_checksum_25 rfl (lv_at hl 2 rfl) ?_
      obtain ⟨hi9, hp⟩ := o_chk hp
      refine g_iald (j := x3.toNatClampNeg) hx hb hK hP (kk_M_outputs) (ce_M_outputs) 0 rfl (vin_of hi9) rfl dX9_checksum_26 ?_
      refine lv_i2l hx hb dX9_checksum_27 rfl ?_
      refine lv_ladd hx hb dX9_checksum_28 ?_
      refine lv_lstore_n (lv' := [(1, .long ((((31 : Int64)) * y1) + ((σ 22 (x3.toNatClampNeg)).toInt64))), (0, .ref (q (0))), (3, .int x3)]) hx hb dX9_checksum_29 rfl hl (by decide) rfl (fun ls hl => ?_)
      refine lv_iinc (v := x3 + (1 : Int32)) (lv' := [(3, .int (x3 + (1 : Int32))), (1, .long ((((31 : Int64)) * y1) + ((σ 22 (x3.toNatClampNeg)).toInt64))), (0, .ref (q (0)))]) hx hb dX9_checksum_30 hl (k := 2) rfl rfl (by decide) rfl (fun ls hl => ?_)
      refine lv_goto (tgt := 11) hx hb dX9_checksum_33 (by decide) ?_
      exact ih _ _ _ _ _  hP hS _ (lv_sub hl [2, 1, 0] rfl) hp
def sX9_checksum_0 (σ : TS) : Option (Int64 × TS) := sX9_checksum_11 5 ((7 : Int64)) ((0 : Int32)) (st2 σ 0 0 ((0 : Int32)))
set_option maxHeartbeats 4000000 in
set_option maxRecDepth 100000 in
theorem kX9_checksum_0 {r : Int64} {u : TS} (C0 : gC RX9 cX9_checksum 4 ((some .long)) wsX9_checksum p s m args meth c) (hK : va_K D vwCl (tyL cy) s) (hJ : gJ 39 q) {H : Heap} {locs : List Loc} {σ : TS} (hP : va_P D vwCl (gS 39 q (MX cy q) σ) H) (hS : va_S (gA 39 q) s.heap H locs) {ls : Array Slot} (hl : lv_has ls 4 [(0, .ref (q (0)))]) (hp : sX9_checksum_0 σ = some (r, u)) : W p l e rmX9_checksum s m args below meth c H locs 0 0 (MQ below (gQl D vwCl r (gS 39 q (MX cy q) u) (gA 39 q)) args s 0 0 (gA 39 q)) (F0 m 0 ls []) := by
  obtain ⟨hx, hb, hr, hml, hown, hts, hlocks⟩ := id C0
  unfold sX9_checksum_0 at hp
  refine lv_aload_n hx hb dX9_checksum_0 rfl (lv_at hl 0 rfl) ?_
  refine lv_iconst (v := (0 : Int32)) hx hb dX9_checksum_1 (by decide) ?_
  refine g_put (v := (0 : Int32)) hx hb hts miX9_checksum_X9 tyX9 tyX9_ok nmX9 hown hK hJ hP hS (kk_Mod) (ce_Mod) rfl 0 (by decide) mwX9_checksum_7 rfl rfl rfl (Nat.le_of_ble_eq_true rfl) rfl dX9_checksum_2 (fun H locs hP hS => ?_)
  refine lv_ldc2 (v := (7 : Int64)) hx hb hown (hts _ mwX9_checksum_8) dX9_checksum_5 ?_
  refine lv_lstore_n (lv' := [(1, .long ((7 : Int64))), (0, .ref (q (0)))]) hx hb dX9_checksum_8 rfl hl (by decide) rfl (fun ls hl => ?_)
  refine lv_iconst (v := (0 : Int32)) hx hb dX9_checksum_9 (by decide) ?_
  refine lv_istore_n (lv' := [(3, .int ((0 : Int32))), (1, .long ((7 : Int64))), (0, .ref (q (0)))]) hx hb dX9_checksum_10 rfl hl (by decide) rfl (fun ls hl => ?_)
  exact kX9_checksum_11 C0 hK hJ _ _ _ _ _ _  hP hS _ (lv_sub hl [2, 1, 0] rfl) hp
def sX9_checksum (σ : TS) : Option (Int64 × TS) := sX9_checksum_0 σ
theorem nVX9_checksum : yX9_checksum.cls = RX9 ∧ yX9_checksum.cls ≠ "java/lang/invoke/MethodHandle" ∧ yX9_checksum.cls ≠ "java/lang/invoke/VarHandle" ∧ (parseMethodDescriptor yX9_checksum.desc).map (fun d => d.parameters.length) = some 0 := by decide +kernel
set_option maxHeartbeats 4000000 in
set_option maxRecDepth 100000 in
theorem mX9_checksum (l : Launch) (hJ : gJ 39 q) {σ : TS} {r : Int64} {u : TS} (hp : sX9_checksum σ = some (r, u)) : Met l yX9_checksum wsX9_checksum rmX9_checksum (va_Pc [.ref (q (0))] (gPre D vwCl (tyL cy) (gS 39 q (MX cy q) σ))) (gQl D vwCl r (gS 39 q (MX cy q) u) (gA 39 q)) 0 0 (gA 39 q) := by
  refine Met.ofW (cc := cX9_checksum) (maxL := 4) (ret := (some .long)) (by decide +kernel) rfl ?_
  intro p e s m args below meth c s₁ B hml hv
  obtain ⟨rfl, hP, hK⟩ := hv
  have hl := lv_entry ([.ref (q (0))]) (n := 4) (Nat.le_of_ble_eq_true rfl)
  rw [lg_entry_eq]
  generalize (lg_sl ([.ref (q (0))]) ++ List.replicate (4 - (lg_sl ([.ref (q (0))])).length) Slot.unset).toArray = ls at hl ⊢
  have hl : lv_has ls 4 [(0, .ref (q (0)))] := hl
  exact kX9_checksum_0 ⟨B.exec, B.bytes, B.returns, hml, findClass_of_methodNamed B.named, atoms_spec (ws := wsX9_checksum) B.pre, B.notSynchronized⟩ hK hJ  hP va_S.rf hl hp
theorem miX9_isTrue_X9 : ∀ w ∈ u_ws RX9 TX9 44, w ∈ wsX9_isTrue := by decide +kernel
theorem mwX9_isTrue_0 : Cond.fieldLink RX9 130 "TriplaneModel" "thrown" "I" ∈ wsX9_isTrue := by decide +kernel
abbrev rmX9_isTrue : Room := { frames := 0, cells := 0, slots := 0, locals := 0 }
def sX9_isTrue_0 (σ : TS) : Option (Int32 × TS) := some ((1 : Int32), st2 σ 0 0 ((0 : Int32)))
set_option maxHeartbeats 4000000 in
set_option maxRecDepth 100000 in
theorem kX9_isTrue_0 {r : Int32} {u : TS} (C0 : gC RX9 cX9_isTrue 1 ((some .boolean)) wsX9_isTrue p s m args meth c) (hK : va_K D vwCl (tyL cy) s) (hJ : gJ 39 q) {H : Heap} {locs : List Loc} {σ : TS} (hP : va_P D vwCl (gS 39 q (MX cy q) σ) H) (hS : va_S (gA 39 q) s.heap H locs) {ls : Array Slot} (hl : lv_has ls 1 [(0, .ref (q (0)))]) (hp : sX9_isTrue_0 σ = some (r, u)) : W p l e rmX9_isTrue s m args below meth c H locs 0 0 (MQ below (gQi D vwCl r (gS 39 q (MX cy q) u) (gA 39 q)) args s 0 0 (gA 39 q)) (F0 m 0 ls []) := by
  obtain ⟨hx, hb, hr, hml, hown, hts, hlocks⟩ := id C0
  unfold sX9_isTrue_0 at hp
  refine lv_aload_n hx hb dX9_isTrue_0 rfl (lv_at hl 0 rfl) ?_
  refine lv_iconst (v := (0 : Int32)) hx hb dX9_isTrue_1 (by decide) ?_
  refine g_put (v := (0 : Int32)) hx hb hts miX9_isTrue_X9 tyX9 tyX9_ok nmX9 hown hK hJ hP hS (kk_Mod) (ce_Mod) rfl 0 (by decide) mwX9_isTrue_0 rfl rfl rfl (Nat.le_of_ble_eq_true rfl) rfl dX9_isTrue_2 (fun H locs hP hS => ?_)
  refine lv_iconst (v := (1 : Int32)) hx hb dX9_isTrue_5 (by decide) ?_
  obtain ⟨rfl, rfl⟩ := o_r hp
  exact W.zret (v := (1 : Int32)) hx hb hr (zok_n (by decide)).1 (fun t ht hW => ⟨⟨(1 : Int32), (), rfl, rfl, by subst ht; exact hP⟩, hS.F ht⟩) hS.2.2 dX9_isTrue_6
def sX9_isTrue (σ : TS) : Option (Int32 × TS) := sX9_isTrue_0 σ
theorem nVX9_isTrue : yX9_isTrue.cls = RX9 ∧ yX9_isTrue.cls ≠ "java/lang/invoke/MethodHandle" ∧ yX9_isTrue.cls ≠ "java/lang/invoke/VarHandle" ∧ (parseMethodDescriptor yX9_isTrue.desc).map (fun d => d.parameters.length) = some 0 := by decide +kernel
set_option maxHeartbeats 4000000 in
set_option maxRecDepth 100000 in
theorem mX9_isTrue (l : Launch) (hJ : gJ 39 q) {σ : TS} {r : Int32} {u : TS} (hp : sX9_isTrue σ = some (r, u)) : Met l yX9_isTrue wsX9_isTrue rmX9_isTrue (va_Pc [.ref (q (0))] (gPre D vwCl (tyL cy) (gS 39 q (MX cy q) σ))) (gQi D vwCl r (gS 39 q (MX cy q) u) (gA 39 q)) 0 0 (gA 39 q) := by
  refine Met.ofW (cc := cX9_isTrue) (maxL := 1) (ret := (some .boolean)) (by decide +kernel) rfl ?_
  intro p e s m args below meth c s₁ B hml hv
  obtain ⟨rfl, hP, hK⟩ := hv
  have hl := lv_entry ([.ref (q (0))]) (n := 1) (Nat.le_of_ble_eq_true rfl)
  rw [lg_entry_eq]
  generalize (lg_sl ([.ref (q (0))]) ++ List.replicate (1 - (lg_sl ([.ref (q (0))])).length) Slot.unset).toArray = ls at hl ⊢
  have hl : lv_has ls 1 [(0, .ref (q (0)))] := hl
  exact kX9_isTrue_0 ⟨B.exec, B.bytes, B.returns, hml, findClass_of_methodNamed B.named, atoms_spec (ws := wsX9_isTrue) B.pre, B.notSynchronized⟩ hK hJ  hP va_S.rf hl hp
end

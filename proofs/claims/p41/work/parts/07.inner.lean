section
variable {p : Program} {l : Launch} {e : Env} {s : State} {m : MethodId} {args : Array Value} {below : List Frame} {meth : Method} {c : Code} {D : va_G} {cy : Nat → ClassId} {q : Nat → Nat}
theorem mwX5_middle_0 : Cond.methodLink RX5 15 Lib.Math.min.name ∈ wsX5_middle := by decide +kernel
theorem mwX5_middle_1 : Cond.static Lib.Math.min.name ∈ wsX5_middle := by decide +kernel
theorem mwX5_middle_2 : Cond.initialized "java/lang/Math" ∈ wsX5_middle := by decide +kernel
theorem mwX5_middle_3 : Cond.code Lib.Math.min.name Lib.Math.min.code 2 (some .int) ∈ wsX5_middle := by decide +kernel
theorem mwX5_middle_4 : Cond.methodLink RX5 21 Lib.Math.max.name ∈ wsX5_middle := by decide +kernel
theorem mwX5_middle_5 : Cond.static Lib.Math.max.name ∈ wsX5_middle := by decide +kernel
theorem mwX5_middle_6 : Cond.code Lib.Math.max.name Lib.Math.max.code 2 (some .int) ∈ wsX5_middle := by decide +kernel
abbrev rmX5_middle : Room := { frames := 1, cells := 0, slots := 0, locals := 21 }
def sX5_middle_0 (x0 : Int32) (x1 : Int32) (x2 : Int32) (σ : TS) : Option (Int32 × TS) := some (if (if x1 < x0 then x1 else x0) < (if x2 < (if x0 < x1 then x1 else x0) then x2 else (if x0 < x1 then x1 else x0)) then (if x2 < (if x0 < x1 then x1 else x0) then x2 else (if x0 < x1 then x1 else x0)) else (if x1 < x0 then x1 else x0), σ)
set_option maxHeartbeats 4000000 in
set_option maxRecDepth 100000 in
theorem kX5_middle_0 {r : Int32} {u : TS} (C0 : gC RX5 cX5_middle 3 ((some .int)) wsX5_middle p s m args meth c) (hK : va_K D vwCl (tyL cy) s) (hJ : gJ 78 q) {H : Heap} {locs : List Loc} {σ : TS} {x0 : Int32} {x1 : Int32} {x2 : Int32} (hP : va_P D vwCl (gS 78 q (TX cy q) σ) H) (hS : va_S (gA 78 q) s.heap H locs) {ls : Array Slot} (hl : lv_has ls 3 [(0, .int x0), (1, .int x1), (2, .int x2)]) (hp : sX5_middle_0 x0 x1 x2 σ = some (r, u)) : W p l e rmX5_middle s m args below meth c H locs 0 0 (MQ below (gQi D vwCl r (gS 78 q (TX cy q) u) (gA 78 q)) args s 0 0 (gA 78 q)) (F0 m 0 ls []) := by
  obtain ⟨hx, hb, hr, hml, hown, hts, hlocks⟩ := id C0
  unfold sX5_middle_0 at hp
  refine lv_iload_n hx hb dX5_middle_0 rfl (lv_at hl 0 rfl) ?_
  refine lv_iload_n hx hb dX5_middle_1 rfl (lv_at hl 1 rfl) ?_
  refine va_mmin hx hb (hml.trans hl.1.symm) hown (hts _ mwX5_middle_0) (hts _ mwX5_middle_1) (hts _ mwX5_middle_2) (hts _ mwX5_middle_3) (Nat.le_of_ble_eq_true rfl) (Nat.le_of_ble_eq_true rfl) (Nat.le_of_ble_eq_true rfl) (Nat.le_of_ble_eq_true rfl) dX5_middle_2 ?_
  refine lv_iload_n hx hb dX5_middle_5 rfl (lv_at hl 0 rfl) ?_
  refine lv_iload_n hx hb dX5_middle_6 rfl (lv_at hl 1 rfl) ?_
  refine va_mmax hx hb (hml.trans hl.1.symm) hown (hts _ mwX5_middle_4) (hts _ mwX5_middle_5) (hts _ mwX5_middle_2) (hts _ mwX5_middle_6) (Nat.le_of_ble_eq_true rfl) (Nat.le_of_ble_eq_true rfl) (Nat.le_of_ble_eq_true rfl) (Nat.le_of_ble_eq_true rfl) dX5_middle_7 ?_
  refine lv_iload_n hx hb dX5_middle_10 rfl (lv_at hl 2 rfl) ?_
  refine va_mmin hx hb (hml.trans hl.1.symm) hown (hts _ mwX5_middle_0) (hts _ mwX5_middle_1) (hts _ mwX5_middle_2) (hts _ mwX5_middle_3) (Nat.le_of_ble_eq_true rfl) (Nat.le_of_ble_eq_true rfl) (Nat.le_of_ble_eq_true rfl) (Nat.le_of_ble_eq_true rfl) dX5_middle_11 ?_
  refine va_mmax hx hb (hml.trans hl.1.symm) hown (hts _ mwX5_middle_4) (hts _ mwX5_middle_5) (hts _ mwX5_middle_2) (hts _ mwX5_middle_6) (Nat.le_of_ble_eq_true rfl) (Nat.le_of_ble_eq_true rfl) (Nat.le_of_ble_eq_true rfl) (Nat.le_of_ble_eq_true rfl) dX5_middle_14 ?_
  obtain ⟨rfl, rfl⟩ := o_r hp
  exact W.iret (v := if (if x1 < x0 then x1 else x0) < (if x2 < (if x0 < x1 then x1 else x0) then x2 else (if x0 < x1 then x1 else x0)) then (if x2 < (if x0 < x1 then x1 else x0) then x2 else (if x0 < x1 then x1 else x0)) else (if x1 < x0 then x1 else x0)) hx hb hr (fun t ht hW => ⟨⟨if (if x1 < x0 then x1 else x0) < (if x2 < (if x0 < x1 then x1 else x0) then x2 else (if x0 < x1 then x1 else x0)) then (if x2 < (if x0 < x1 then x1 else x0) then x2 else (if x0 < x1 then x1 else x0)) else (if x1 < x0 then x1 else x0), (), rfl, rfl, by subst ht; exact hP⟩, hS.F ht⟩) hS.2.2 dX5_middle_17
def sX5_middle (x0 : Int32) (x1 : Int32) (x2 : Int32) (σ : TS) : Option (Int32 × TS) := sX5_middle_0 x0 x1 x2 σ
theorem nVX5_middle : yX5_middle.cls ≠ "java/lang/invoke/MethodHandle" ∧ yX5_middle.cls ≠ "java/lang/invoke/VarHandle" ∧ (parseMethodDescriptor yX5_middle.desc).map (fun d => d.parameters.length) = some 3 := by decide +kernel
set_option maxHeartbeats 4000000 in
set_option maxRecDepth 100000 in
theorem mX5_middle (l : Launch) (hJ : gJ 78 q) {x0 : Int32} {x1 : Int32} {x2 : Int32} {σ : TS} {r : Int32} {u : TS} (hp : sX5_middle x0 x1 x2 σ = some (r, u)) : Met l yX5_middle wsX5_middle rmX5_middle (va_Pc [.int x0, .int x1, .int x2] (gPre D vwCl (tyL cy) (gS 78 q (TX cy q) σ))) (gQi D vwCl r (gS 78 q (TX cy q) u) (gA 78 q)) 0 0 (gA 78 q) := by
  refine Met.ofW (cc := cX5_middle) (maxL := 3) (ret := (some .int)) (by decide +kernel) rfl ?_
  intro p e s m args below meth c s₁ B hml hv
  obtain ⟨rfl, hP, hK⟩ := hv
  have hl := lv_entry ([.int x0, .int x1, .int x2]) (n := 3) (Nat.le_of_ble_eq_true rfl)
  rw [lg_entry_eq]
  generalize (lg_sl ([.int x0, .int x1, .int x2]) ++ List.replicate (3 - (lg_sl ([.int x0, .int x1, .int x2])).length) Slot.unset).toArray = ls at hl ⊢
  have hl : lv_has ls 3 [(0, .int x0), (1, .int x1), (2, .int x2)] := hl
  exact kX5_middle_0 ⟨B.exec, B.bytes, B.returns, hml, findClass_of_methodNamed B.named, atoms_spec (ws := wsX5_middle) B.pre, B.notSynchronized⟩ hK hJ  hP va_S.rf hl hp
theorem miX0_move_X0 : ∀ w ∈ u_ws RX0 TX0 3, w ∈ wsX0_move := by decide +kernel
theorem mwX0_move_0 : Cond.fieldLink RX0 15 "Triplane$Actuator" "place" "I" ∈ wsX0_move := by decide +kernel
theorem mwX0_move_1 : Cond.fieldLink RX0 19 "Triplane$Actuator" "isLoose" "Z" ∈ wsX0_move := by decide +kernel
theorem mwX0_move_2 : Cond.fieldLink RX0 9 "Triplane$Actuator" "faults" "[I" ∈ wsX0_move := by decide +kernel
theorem mwX0_move_3 : Cond.methodLink RX0 23 Lib.Math.max.name ∈ wsX0_move := by decide +kernel
theorem mwX0_move_4 : Cond.static Lib.Math.max.name ∈ wsX0_move := by decide +kernel
theorem mwX0_move_5 : Cond.initialized "java/lang/Math" ∈ wsX0_move := by decide +kernel
theorem mwX0_move_6 : Cond.code Lib.Math.max.name Lib.Math.max.code 2 (some .int) ∈ wsX0_move := by decide +kernel
theorem mwX0_move_7 : Cond.methodLink RX0 29 Lib.Math.min.name ∈ wsX0_move := by decide +kernel
theorem mwX0_move_8 : Cond.static Lib.Math.min.name ∈ wsX0_move := by decide +kernel
theorem mwX0_move_9 : Cond.code Lib.Math.min.name Lib.Math.min.code 2 (some .int) ∈ wsX0_move := by decide +kernel
abbrev rmX0_move : Room := { frames := 2, cells := 0, slots := 0, locals := 43 }
def sX0_move_98 (d0 : Nat) (sx1 : Int32) (σ : TS) : Option (Int32 × TS) := some (0, st2 σ (70+2*d0) 1 sx1)
set_option maxHeartbeats 4000000 in
set_option maxRecDepth 100000 in
theorem kX0_move_98 {r : Int32} {u : TS} (C0 : gC RX0 cX0_move 4 none wsX0_move p s m args meth c) (hK : va_K D vwCl (tyL cy) s) (hJ : gJ 78 q) {H : Heap} {locs : List Loc} {σ : TS} {d0 : Nat} {sx1 : Int32} (hd0 : d0 < 4) (hP : va_P D vwCl (gS 78 q (TX cy q) σ) H) (hS : va_S (gA 78 q) s.heap H locs) {ls : Array Slot} (hl : lv_has ls 4 []) (hp : sX0_move_98 d0 sx1 σ = some (r, u)) : W p l e rmX0_move s m args below meth c H locs 0 0 (MQ below (gQv D vwCl (gS 78 q (TX cy q) u) (gA 78 q)) args s 0 0 (gA 78 q)) (F0 m 98 ls [.int sx1, .ref (q (70+2*d0))]) := by
  obtain ⟨hx, hb, hr, hml, hown, hts, hlocks⟩ := id C0
  unfold sX0_move_98 at hp
  refine g_put (v := sx1) hx hb hts miX0_move_X0 tyX0 tyX0_ok nmX0 hown hK hJ hP hS (kk_Act hd0) (ce_Act hd0) rfl 1 (by decide) mwX0_move_0 rfl rfl rfl (Nat.le_of_ble_eq_true rfl) rfl dX0_move_98 (fun H locs hP hS => ?_)
  obtain ⟨rfl, rfl⟩ := o_r hp
  exact W.vret hx hb hr (fun t ht hW => ⟨⟨(), rfl, trivial, by subst ht; exact hP⟩, hS.F ht⟩) hS.2.2 dX0_move_101
def sX0_move_97 (d0 : Nat) (sx1 : Int32) (sx2 : Int32) (σ : TS) : Option (Int32 × TS) := sX0_move_98 d0 (sx1 + sx2) σ
set_option maxHeartbeats 4000000 in
set_option maxRecDepth 100000 in
theorem kX0_move_97 {r : Int32} {u : TS} (C0 : gC RX0 cX0_move 4 none wsX0_move p s m args meth c) (hK : va_K D vwCl (tyL cy) s) (hJ : gJ 78 q) {H : Heap} {locs : List Loc} {σ : TS} {d0 : Nat} {sx1 : Int32} {sx2 : Int32} (hd0 : d0 < 4) (hP : va_P D vwCl (gS 78 q (TX cy q) σ) H) (hS : va_S (gA 78 q) s.heap H locs) {ls : Array Slot} (hl : lv_has ls 4 []) (hp : sX0_move_97 d0 sx1 sx2 σ = some (r, u)) : W p l e rmX0_move s m args below meth c H locs 0 0 (MQ below (gQv D vwCl (gS 78 q (TX cy q) u) (gA 78 q)) args s 0 0 (gA 78 q)) (F0 m 97 ls [.int sx2, .int sx1, .ref (q (70+2*d0))]) := by
  obtain ⟨hx, hb, hr, hml, hown, hts, hlocks⟩ := id C0
  unfold sX0_move_97 at hp
  refine lv_iadd hx hb dX0_move_97 ?_
  exact kX0_move_98 C0 hK hJ hd0 hP hS hl hp
def sX0_move_63 (c0 : Nat) (x1 : Int32) (σ : TS) : Option (Int32 × TS) := (if (σ (70+2*c0) 2) = 0 then ((sX5_middle (σ (71+2*c0) 0) (σ (71+2*c0) 1) (σ (71+2*c0) 2) σ).bind (fun z => sX0_move_97 c0 x1 z.1 z.2)) else sX0_move_98 c0 ((0 : Int32)) σ)
set_option maxHeartbeats 4000000 in
set_option maxRecDepth 100000 in
theorem kX0_move_63 {r : Int32} {u : TS} (C0 : gC RX0 cX0_move 4 none wsX0_move p s m args meth c) (hK : va_K D vwCl (tyL cy) s) (hJ : gJ 78 q) {H : Heap} {locs : List Loc} {σ : TS} {c0 : Nat} {x1 : Int32} (hc0 : c0 < 4) (hP : va_P D vwCl (gS 78 q (TX cy q) σ) H) (hS : va_S (gA 78 q) s.heap H locs) {ls : Array Slot} (hl : lv_has ls 4 [(0, .ref (q (70+2*c0))), (1, .int x1)]) (hp : sX0_move_63 c0 x1 σ = some (r, u)) : W p l e rmX0_move s m args below meth c H locs 0 0 (MQ below (gQv D vwCl (gS 78 q (TX cy q) u) (gA 78 q)) args s 0 0 (gA 78 q)) (F0 m 63 ls []) := by
  obtain ⟨hx, hb, hr, hml, hown, hts, hlocks⟩ := id C0
  unfold sX0_move_63 at hp
  refine lv_aload_n hx hb dX0_move_63 rfl (lv_at hl 0 rfl) ?_
  refine lv_aload_n hx hb dX0_move_64 rfl (lv_at hl 0 rfl) ?_
  refine g_get (v := .int (σ (70+2*c0) 2)) hx hb hts miX0_move_X0 hown hK hP (kk_Act hc0) (ce_Act hc0) rfl 2 (by decide) mwX0_move_1 rfl dX0_move_65 ?_
  refine lv_if_eq (tgt := 75) hx hb dX0_move_68 (by decide) (fun hcd1 => ?_) (fun hcd1 => ?_)
  · have hp := o_t hp hcd1
    refine lv_iload_n hx hb dX0_move_75 rfl (lv_at hl 1 rfl) ?_
    refine lv_aload_n hx hb dX0_move_76 rfl (lv_at hl 0 rfl) ?_
    refine g_get (v := .ref (q (71+2*c0))) hx hb hts miX0_move_X0 hown hK hP (kk_Act hc0) (ce_Act hc0) rfl 0 (by decide) mwX0_move_2 rfl dX0_move_77 ?_
    refine lv_iconst (v := (0 : Int32)) hx hb dX0_move_80 (by decide) ?_
    refine g_iald (j := 0) hx hb hK hP (kk_ActF hc0) (ce_ActF hc0) 0 rfl (vin_of (by decide)) rfl dX0_move_81 ?_
    refine lv_aload_n hx hb dX0_move_82 rfl (lv_at hl 0 rfl) ?_
    refine g_get (v := .ref (q (71+2*c0))) hx hb hts miX0_move_X0 hown hK hP (kk_Act hc0) (ce_Act hc0) rfl 0 (by decide) mwX0_move_2 rfl dX0_move_83 ?_
    refine lv_iconst (v := (1 : Int32)) hx hb dX0_move_86 (by decide) ?_
    refine g_iald (j := 1) hx hb hK hP (kk_ActF hc0) (ce_ActF hc0) 0 rfl (vin_of (by decide)) rfl dX0_move_87 ?_
    refine lv_aload_n hx hb dX0_move_88 rfl (lv_at hl 0 rfl) ?_
    refine g_get (v := .ref (q (71+2*c0))) hx hb hts miX0_move_X0 hown hK hP (kk_Act hc0) (ce_Act hc0) rfl 0 (by decide) mwX0_move_2 rfl dX0_move_89 ?_
    refine lv_iconst (v := (2 : Int32)) hx hb dX0_move_92 (by decide) ?_
    refine g_iald (j := 2) hx hb hK hP (kk_ActF hc0) (ce_ActF hc0) 0 rfl (vin_of (by decide)) rfl dX0_move_93 ?_
    obtain ⟨⟨r2, u3⟩, hq4, hp⟩ := o_b hp
    refine g_cSi (As := [.int (σ (71+2*c0) 0), .int (σ (71+2*c0) 1), .int (σ (71+2*c0) 2)]) (rest := [.int x1, .ref (q (70+2*c0))]) hx hb hml hown hts hK hP hS (mX5_middle l hJ hq4) (va_cwS 3 hts gX0_move_X5_middle rfl rfl rfl nVX5_middle ⟨Nat.le_of_ble_eq_true rfl, Nat.le_of_ble_eq_true rfl⟩) rfl hl.1 rfl (Nat.le_of_ble_eq_true rfl) dX0_move_94 ⟨Nat.le_of_ble_eq_true rfl, Nat.le_of_ble_eq_true rfl⟩ (fun H locs hP hS => ?_)
    exact kX0_move_97 C0 hK hJ hc0 hP hS (lv_sub hl [] rfl) hp
  · have hp := o_f hp hcd1
    refine lv_iconst (v := (0 : Int32)) hx hb dX0_move_71 (by decide) ?_
    refine lv_goto (tgt := 98) hx hb dX0_move_72 (by decide) ?_
    exact kX0_move_98 C0 hK hJ hc0 hP hS (lv_sub hl [] rfl) hp
def sX0_move_0 (c0 : Nat) (x1 : Int32) (σ : TS) : Option (Int32 × TS) := (if ((if (σ (71+2*c0) 0) < (if (σ (71+2*c0) 1) < (σ (71+2*c0) 2) then (σ (71+2*c0) 2) else (σ (71+2*c0) 1)) then (if (σ (71+2*c0) 1) < (σ (71+2*c0) 2) then (σ (71+2*c0) 2) else (σ (71+2*c0) 1)) else (σ (71+2*c0) 0)) - (if (if (σ (71+2*c0) 2) < (σ (71+2*c0) 1) then (σ (71+2*c0) 2) else (σ (71+2*c0) 1)) < (σ (71+2*c0) 0) then (if (σ (71+2*c0) 2) < (σ (71+2*c0) 1) then (σ (71+2*c0) 2) else (σ (71+2*c0) 1)) else (σ (71+2*c0) 0))) ≤ ((100 : Int32)) then sX0_move_63 c0 x1 σ else sX0_move_63 c0 x1 (st2 σ (70+2*c0) 2 ((1 : Int32))))
set_option maxHeartbeats 4000000 in
set_option maxRecDepth 100000 in
theorem kX0_move_0 {r : Int32} {u : TS} (C0 : gC RX0 cX0_move 4 none wsX0_move p s m args meth c) (hK : va_K D vwCl (tyL cy) s) (hJ : gJ 78 q) {H : Heap} {locs : List Loc} {σ : TS} {c0 : Nat} {x1 : Int32} (hc0 : c0 < 4) (hP : va_P D vwCl (gS 78 q (TX cy q) σ) H) (hS : va_S (gA 78 q) s.heap H locs) {ls : Array Slot} (hl : lv_has ls 4 [(0, .ref (q (70+2*c0))), (1, .int x1)]) (hp : sX0_move_0 c0 x1 σ = some (r, u)) : W p l e rmX0_move s m args below meth c H locs 0 0 (MQ below (gQv D vwCl (gS 78 q (TX cy q) u) (gA 78 q)) args s 0 0 (gA 78 q)) (F0 m 0 ls []) := by
  obtain ⟨hx, hb, hr, hml, hown, hts, hlocks⟩ := id C0
  unfold sX0_move_0 at hp
  refine lv_aload_n hx hb dX0_move_0 rfl (lv_at hl 0 rfl) ?_
  refine g_get (v := .ref (q (71+2*c0))) hx hb hts miX0_move_X0 hown hK hP (kk_Act hc0) (ce_Act hc0) rfl 0 (by decide) mwX0_move_2 rfl dX0_move_1 ?_
  refine lv_iconst (v := (0 : Int32)) hx hb dX0_move_4 (by decide) ?_
  refine g_iald (j := 0) hx hb hK hP (kk_ActF hc0) (ce_ActF hc0) 0 rfl (vin_of (by decide)) rfl dX0_move_5 ?_
  refine lv_aload_n hx hb dX0_move_6 rfl (lv_at hl 0 rfl) ?_
  refine g_get (v := .ref (q (71+2*c0))) hx hb hts miX0_move_X0 hown hK hP (kk_Act hc0) (ce_Act hc0) rfl 0 (by decide) mwX0_move_2 rfl dX0_move_7 ?_
  refine lv_iconst (v := (1 : Int32)) hx hb dX0_move_10 (by decide) ?_
  refine g_iald (j := 1) hx hb hK hP (kk_ActF hc0) (ce_ActF hc0) 0 rfl (vin_of (by decide)) rfl dX0_move_11 ?_
  refine lv_aload_n hx hb dX0_move_12 rfl (lv_at hl 0 rfl) ?_
  refine g_get (v := .ref (q (71+2*c0))) hx hb hts miX0_move_X0 hown hK hP (kk_Act hc0) (ce_Act hc0) rfl 0 (by decide) mwX0_move_2 rfl dX0_move_13 ?_
  refine lv_iconst (v := (2 : Int32)) hx hb dX0_move_16 (by decide) ?_
  refine g_iald (j := 2) hx hb hK hP (kk_ActF hc0) (ce_ActF hc0) 0 rfl (vin_of (by decide)) rfl dX0_move_17 ?_
  refine va_mmax hx hb (hml.trans hl.1.symm) hown (hts _ mwX0_move_3) (hts _ mwX0_move_4) (hts _ mwX0_move_5) (hts _ mwX0_move_6) (Nat.le_of_ble_eq_true rfl) (Nat.le_of_ble_eq_true rfl) (Nat.le_of_ble_eq_true rfl) (Nat.le_of_ble_eq_true rfl) dX0_move_18 ?_
  refine va_mmax hx hb (hml.trans hl.1.symm) hown (hts _ mwX0_move_3) (hts _ mwX0_move_4) (hts _ mwX0_move_5) (hts _ mwX0_move_6) (Nat.le_of_ble_eq_true rfl) (Nat.le_of_ble_eq_true rfl) (Nat.le_of_ble_eq_true rfl) (Nat.le_of_ble_eq_true rfl) dX0_move_21 ?_
  refine lv_istore_n (lv' := [(2, .int (if (σ (71+2*c0) 0) < (if (σ (71+2*c0) 1) < (σ (71+2*c0) 2) then (σ (71+2*c0) 2) else (σ (71+2*c0) 1)) then (if (σ (71+2*c0) 1) < (σ (71+2*c0) 2) then (σ (71+2*c0) 2) else (σ (71+2*c0) 1)) else (σ (71+2*c0) 0))), (0, .ref (q (70+2*c0))), (1, .int x1)]) hx hb dX0_move_24 rfl hl (by decide) rfl (fun ls hl => ?_)
  refine lv_aload_n hx hb dX0_move_25 rfl (lv_at hl 1 rfl) ?_
  refine g_get (v := .ref (q (71+2*c0))) hx hb hts miX0_move_X0 hown hK hP (kk_Act hc0) (ce_Act hc0) rfl 0 (by decide) mwX0_move_2 rfl dX0_move_26 ?_
  refine lv_iconst (v := (0 : Int32)) hx hb dX0_move_29 (by decide) ?_
  refine g_iald (j := 0) hx hb hK hP (kk_ActF hc0) (ce_ActF hc0) 0 rfl (vin_of (by decide)) rfl dX0_move_30 ?_
  refine lv_aload_n hx hb dX0_move_31 rfl (lv_at hl 1 rfl) ?_
  refine g_get (v := .ref (q (71+2*c0))) hx hb hts miX0_move_X0 hown hK hP (kk_Act hc0) (ce_Act hc0) rfl 0 (by decide) mwX0_move_2 rfl dX0_move_32 ?_
  refine lv_iconst (v := (1 : Int32)) hx hb dX0_move_35 (by decide) ?_
  refine g_iald (j := 1) hx hb hK hP (kk_ActF hc0) (ce_ActF hc0) 0 rfl (vin_of (by decide)) rfl dX0_move_36 ?_
  refine lv_aload_n hx hb dX0_move_37 rfl (lv_at hl 1 rfl) ?_
  refine g_get (v := .ref (q (71+2*c0))) hx hb hts miX0_move_X0 hown hK hP (kk_Act hc0) (ce_Act hc0) rfl 0 (by decide) mwX0_move_2 rfl dX0_move_38 ?_
  refine lv_iconst (v := (2 : Int32)) hx hb dX0_move_41 (by decide) ?_
  refine g_iald (j := 2) hx hb hK hP (kk_ActF hc0) (ce_ActF hc0) 0 rfl (vin_of (by decide)) rfl dX0_move_42 ?_
  refine va_mmin hx hb (hml.trans hl.1.symm) hown (hts _ mwX0_move_7) (hts _ mwX0_move_8) (hts _ mwX0_move_5) (hts _ mwX0_move_9) (Nat.le_of_ble_eq_true rfl) (Nat.le_of_ble_eq_true rfl) (Nat.le_of_ble_eq_true rfl) (Nat.le_of_ble_eq_true rfl) dX0_move_43 ?_
  refine va_mmin hx hb (hml.trans hl.1.symm) hown (hts _ mwX0_move_7) (hts _ mwX0_move_8) (hts _ mwX0_move_5) (hts _ mwX0_move_9) (Nat.le_of_ble_eq_true rfl) (Nat.le_of_ble_eq_true rfl) (Nat.le_of_ble_eq_true rfl) (Nat.le_of_ble_eq_true rfl) dX0_move_46 ?_
  refine lv_istore_n (lv' := [(3, .int (if (if (σ (71+2*c0) 2) < (σ (71+2*c0) 1) then (σ (71+2*c0) 2) else (σ (71+2*c0) 1)) < (σ (71+2*c0) 0) then (if (σ (71+2*c0) 2) < (σ (71+2*c0) 1) then (σ (71+2*c0) 2) else (σ (71+2*c0) 1)) else (σ (71+2*c0) 0))), (2, .int (if (σ (71+2*c0) 0) < (if (σ (71+2*c0) 1) < (σ (71+2*c0) 2) then (σ (71+2*c0) 2) else (σ (71+2*c0) 1)) then (if (σ (71+2*c0) 1) < (σ (71+2*c0) 2) then (σ (71+2*c0) 2) else (σ (71+2*c0) 1)) else (σ (71+2*c0) 0))), (0, .ref (q (70+2*c0))), (1, .int x1)]) hx hb dX0_move_49 rfl hl (by decide) rfl (fun ls hl => ?_)
  refine lv_iload_n hx hb dX0_move_50 rfl (lv_at hl 1 rfl) ?_
  refine lv_iload_n hx hb dX0_move_51 rfl (lv_at hl 0 rfl) ?_
  refine lv_isub hx hb dX0_move_52 ?_
  refine lv_bipush (v := (100 : Int32)) hx hb dX0_move_53 (by decide) ?_
  refine lv_icmp_le (tgt := 63) hx hb dX0_move_55 (by decide) (fun hcd5 => ?_) (fun hcd5 => ?_)
  · have hp := o_t hp hcd5
    exact kX0_move_63 C0 hK hJ hc0 hP hS (lv_sub hl [2, 3] rfl) hp
  · have hp := o_f hp hcd5
    refine lv_aload_n hx hb dX0_move_58 rfl (lv_at hl 2 rfl) ?_
    refine lv_iconst (v := (1 : Int32)) hx hb dX0_move_59 (by decide) ?_
    refine g_put (v := (1 : Int32)) hx hb hts miX0_move_X0 tyX0 tyX0_ok nmX0 hown hK hJ hP hS (kk_Act hc0) (ce_Act hc0) rfl 2 (by decide) mwX0_move_1 rfl (zok_n (by decide)).1 (zok_n (by decide)).2 (Nat.le_of_ble_eq_true rfl) rfl dX0_move_60 (fun H locs hP hS => ?_)
    exact kX0_move_63 C0 hK hJ hc0 hP hS (lv_sub hl [2, 3] rfl) hp
def sX0_move (c0 : Nat) (x1 : Int32) (σ : TS) : Option (Int32 × TS) := sX0_move_0 c0 x1 σ
theorem nVX0_move : yX0_move.cls = RX0 ∧ yX0_move.cls ≠ "java/lang/invoke/MethodHandle" ∧ yX0_move.cls ≠ "java/lang/invoke/VarHandle" ∧ (parseMethodDescriptor yX0_move.desc).map (fun d => d.parameters.length) = some 1 := by decide +kernel
set_option maxHeartbeats 4000000 in
set_option maxRecDepth 100000 in
theorem mX0_move (l : Launch) (hJ : gJ 78 q) {c0 : Nat} {x1 : Int32} (hc0 : c0 < 4) {σ : TS} {r : Int32} {u : TS} (hp : sX0_move c0 x1 σ = some (r, u)) : Met l yX0_move wsX0_move rmX0_move (va_Pc [.ref (q (70+2*c0)), .int x1] (gPre D vwCl (tyL cy) (gS 78 q (TX cy q) σ))) (gQv D vwCl (gS 78 q (TX cy q) u) (gA 78 q)) 0 0 (gA 78 q) := by
  refine Met.ofW (cc := cX0_move) (maxL := 4) (ret := none) (by decide +kernel) rfl ?_
  intro p e s m args below meth c s₁ B hml hv
  obtain ⟨rfl, hP, hK⟩ := hv
  have hl := lv_entry ([.ref (q (70+2*c0)), .int x1]) (n := 4) (Nat.le_of_ble_eq_true rfl)
  rw [lg_entry_eq]
  generalize (lg_sl ([.ref (q (70+2*c0)), .int x1]) ++ List.replicate (4 - (lg_sl ([.ref (q (70+2*c0)), .int x1])).length) Slot.unset).toArray = ls at hl ⊢
  have hl : lv_has ls 4 [(0, .ref (q (70+2*c0))), (1, .int x1)] := hl
  exact kX0_move_0 ⟨B.exec, B.bytes, B.returns, hml, findClass_of_methodNamed B.named, atoms_spec (ws := wsX0_move) B.pre, B.notSynchronized⟩ hK hJ hc0 hP va_S.rf hl hp
theorem miX1_hasStuckBit_X1 : ∀ w ∈ u_ws RX1 TX1 14, w ∈ wsX1_hasStuckBit := by decide +kernel
theorem mwX1_hasStuckBit_0 : Cond.fieldLink RX1 32 "Triplane$Computer" "stuckRegister" "I" ∈ wsX1_hasStuckBit := by decide +kernel
abbrev rmX1_hasStuckBit : Room := { frames := 0, cells := 0, slots := 0, locals := 0 }
def sX1_hasStuckBit_13 (sx0 : Int32) (σ : TS) : Option (Int32 × TS) := (if zok sx0 = true then some (sx0, σ) else none)
set_option maxHeartbeats 4000000 in
set_option maxRecDepth 100000 in
theorem kX1_hasStuckBit_13 {r : Int32} {u : TS} (C0 : gC RX1 cX1_hasStuckBit 1 ((some .boolean)) wsX1_hasStuckBit p s m args meth c) (hK : va_K D vwCl (tyL cy) s) (hJ : gJ 78 q) {H : Heap} {locs : List Loc} {σ : TS} {sx0 : Int32} (hP : va_P D vwCl (gS 78 q (TX cy q) σ) H) (hS : va_S (gA 78 q) s.heap H locs) {ls : Array Slot} (hl : lv_has ls 1 []) (hp : sX1_hasStuckBit_13 sx0 σ = some (r, u)) : W p l e rmX1_hasStuckBit s m args below meth c H locs 0 0 (MQ below (gQi D vwCl r (gS 78 q (TX cy q) u) (gA 78 q)) args s 0 0 (gA 78 q)) (F0 m 13 ls [.int sx0]) := by
  obtain ⟨hx, hb, hr, hml, hown, hts, hlocks⟩ := id C0
  unfold sX1_hasStuckBit_13 at hp
  obtain ⟨hz1, hp⟩ := o_chk hp
  obtain ⟨rfl, rfl⟩ := o_r hp
  exact W.zret (v := sx0) hx hb hr (zok_n hz1).1 (fun t ht hW => ⟨⟨sx0, (), rfl, rfl, by subst ht; exact hP⟩, hS.F ht⟩) hS.2.2 dX1_hasStuckBit_13
def sX1_hasStuckBit_0 (c0 : Nat) (σ : TS) : Option (Int32 × TS) := (if (σ (15+6*c0) 5) = ((-1 : Int32)) then sX1_hasStuckBit_13 ((0 : Int32)) σ else sX1_hasStuckBit_13 ((1 : Int32)) σ)
set_option maxHeartbeats 4000000 in
set_option maxRecDepth 100000 in
theorem kX1_hasStuckBit_0 {r : Int32} {u : TS} (C0 : gC RX1 cX1_hasStuckBit 1 ((some .boolean)) wsX1_hasStuckBit p s m args meth c) (hK : va_K D vwCl (tyL cy) s) (hJ : gJ 78 q) {H : Heap} {locs : List Loc} {σ : TS} {c0 : Nat} (hc0 : c0 < 4) (hP : va_P D vwCl (gS 78 q (TX cy q) σ) H) (hS : va_S (gA 78 q) s.heap H locs) {ls : Array Slot} (hl : lv_has ls 1 [(0, .ref (q (15+6*c0)))]) (hp : sX1_hasStuckBit_0 c0 σ = some (r, u)) : W p l e rmX1_hasStuckBit s m args below meth c H locs 0 0 (MQ below (gQi D vwCl r (gS 78 q (TX cy q) u) (gA 78 q)) args s 0 0 (gA 78 q)) (F0 m 0 ls []) := by
  obtain ⟨hx, hb, hr, hml, hown, hts, hlocks⟩ := id C0
  unfold sX1_hasStuckBit_0 at hp
  refine lv_aload_n hx hb dX1_hasStuckBit_0 rfl (lv_at hl 0 rfl) ?_
  refine g_get (v := .int (σ (15+6*c0) 5)) hx hb hts miX1_hasStuckBit_X1 hown hK hP (kk_Comp hc0) (ce_Comp hc0) rfl 5 (by decide) mwX1_hasStuckBit_0 rfl dX1_hasStuckBit_1 ?_
  refine lv_iconst (v := (-1 : Int32)) hx hb dX1_hasStuckBit_4 (by decide) ?_
  refine lv_icmp_eq (tgt := 12) hx hb dX1_hasStuckBit_5 (by decide) (fun hcd2 => ?_) (fun hcd2 => ?_)
  · have hp := o_t hp hcd2
    refine lv_iconst (v := (0 : Int32)) hx hb dX1_hasStuckBit_12 (by decide) ?_
    exact kX1_hasStuckBit_13 C0 hK hJ  hP hS (lv_sub hl [] rfl) hp
  · have hp := o_f hp hcd2
    refine lv_iconst (v := (1 : Int32)) hx hb dX1_hasStuckBit_8 (by decide) ?_
    refine lv_goto (tgt := 13) hx hb dX1_hasStuckBit_9 (by decide) ?_
    exact kX1_hasStuckBit_13 C0 hK hJ  hP hS (lv_sub hl [] rfl) hp
def sX1_hasStuckBit (c0 : Nat) (σ : TS) : Option (Int32 × TS) := sX1_hasStuckBit_0 c0 σ
theorem nVX1_hasStuckBit : yX1_hasStuckBit.cls = RX1 ∧ yX1_hasStuckBit.cls ≠ "java/lang/invoke/MethodHandle" ∧ yX1_hasStuckBit.cls ≠ "java/lang/invoke/VarHandle" ∧ (parseMethodDescriptor yX1_hasStuckBit.desc).map (fun d => d.parameters.length) = some 0 := by decide +kernel
set_option maxHeartbeats 4000000 in
set_option maxRecDepth 100000 in
theorem mX1_hasStuckBit (l : Launch) (hJ : gJ 78 q) {c0 : Nat} (hc0 : c0 < 4) {σ : TS} {r : Int32} {u : TS} (hp : sX1_hasStuckBit c0 σ = some (r, u)) : Met l yX1_hasStuckBit wsX1_hasStuckBit rmX1_hasStuckBit (va_Pc [.ref (q (15+6*c0))] (gPre D vwCl (tyL cy) (gS 78 q (TX cy q) σ))) (gQi D vwCl r (gS 78 q (TX cy q) u) (gA 78 q)) 0 0 (gA 78 q) := by
  refine Met.ofW (cc := cX1_hasStuckBit) (maxL := 1) (ret := (some .boolean)) (by decide +kernel) rfl ?_
  intro p e s m args below meth c s₁ B hml hv
  obtain ⟨rfl, hP, hK⟩ := hv
  have hl := lv_entry ([.ref (q (15+6*c0))]) (n := 1) (Nat.le_of_ble_eq_true rfl)
  rw [lg_entry_eq]
  generalize (lg_sl ([.ref (q (15+6*c0))]) ++ List.replicate (1 - (lg_sl ([.ref (q (15+6*c0))])).length) Slot.unset).toArray = ls at hl ⊢
  have hl : lv_has ls 1 [(0, .ref (q (15+6*c0)))] := hl
  exact kX1_hasStuckBit_0 ⟨B.exec, B.bytes, B.returns, hml, findClass_of_methodNamed B.named, atoms_spec (ws := wsX1_hasStuckBit) B.pre, B.notSynchronized⟩ hK hJ hc0 hP va_S.rf hl hp
theorem miX1_letStick_X1 : ∀ w ∈ u_ws RX1 TX1 14, w ∈ wsX1_letStick := by decide +kernel
theorem mwX1_letStick_0 : Cond.fieldLink RX1 32 "Triplane$Computer" "stuckRegister" "I" ∈ wsX1_letStick := by decide +kernel
theorem mwX1_letStick_1 : Cond.fieldLink RX1 45 "Triplane$Computer" "stuckBit" "I" ∈ wsX1_letStick := by decide +kernel
theorem mwX1_letStick_2 : Cond.fieldLink RX1 48 "Triplane$Computer" "isStuckSet" "Z" ∈ wsX1_letStick := by decide +kernel
theorem mwX1_letStick_3 : Cond.fieldLink RX1 39 "Triplane$Computer" "isTested" "Z" ∈ wsX1_letStick := by decide +kernel
abbrev rmX1_letStick : Room := { frames := 0, cells := 0, slots := 0, locals := 0 }
def sX1_letStick_0 (c0 : Nat) (x1 : Int32) (x2 : Int32) (x3 : Int32) (σ : TS) : Option (Int32 × TS) := (if zok x3 = true then some (0, st2 (st2 (st2 (st2 σ (15+6*c0) 5 x1) (15+6*c0) 9 x2) (15+6*c0) 10 x3) (15+6*c0) 7 ((0 : Int32))) else none)
set_option maxHeartbeats 4000000 in
set_option maxRecDepth 100000 in
theorem kX1_letStick_0 {r : Int32} {u : TS} (C0 : gC RX1 cX1_letStick 4 none wsX1_letStick p s m args meth c) (hK : va_K D vwCl (tyL cy) s) (hJ : gJ 78 q) {H : Heap} {locs : List Loc} {σ : TS} {c0 : Nat} {x1 : Int32} {x2 : Int32} {x3 : Int32} (hc0 : c0 < 4) (hP : va_P D vwCl (gS 78 q (TX cy q) σ) H) (hS : va_S (gA 78 q) s.heap H locs) {ls : Array Slot} (hl : lv_has ls 4 [(0, .ref (q (15+6*c0))), (1, .int x1), (2, .int x2), (3, .int x3)]) (hp : sX1_letStick_0 c0 x1 x2 x3 σ = some (r, u)) : W p l e rmX1_letStick s m args below meth c H locs 0 0 (MQ below (gQv D vwCl (gS 78 q (TX cy q) u) (gA 78 q)) args s 0 0 (gA 78 q)) (F0 m 0 ls []) := by
  obtain ⟨hx, hb, hr, hml, hown, hts, hlocks⟩ := id C0
  unfold sX1_letStick_0 at hp
  refine lv_aload_n hx hb dX1_letStick_0 rfl (lv_at hl 0 rfl) ?_
  refine lv_iload_n hx hb dX1_letStick_1 rfl (lv_at hl 1 rfl) ?_
  refine g_put (v := x1) hx hb hts miX1_letStick_X1 tyX1 tyX1_ok nmX1 hown hK hJ hP hS (kk_Comp hc0) (ce_Comp hc0) rfl 5 (by decide) mwX1_letStick_0 rfl rfl rfl (Nat.le_of_ble_eq_true rfl) rfl dX1_letStick_2 (fun H locs hP hS => ?_)
  refine lv_aload_n hx hb dX1_letStick_5 rfl (lv_at hl 0 rfl) ?_
  refine lv_iload_n hx hb dX1_letStick_6 rfl (lv_at hl 2 rfl) ?_
  refine g_put (v := x2) hx hb hts miX1_letStick_X1 tyX1 tyX1_ok nmX1 hown hK hJ hP hS (kk_Comp hc0) (ce_Comp hc0) rfl 9 (by decide) mwX1_letStick_1 rfl rfl rfl (Nat.le_of_ble_eq_true rfl) rfl dX1_letStick_7 (fun H locs hP hS => ?_)
  refine lv_aload_n hx hb dX1_letStick_10 rfl (lv_at hl 0 rfl) ?_
  refine lv_iload_n hx hb dX1_letStick_11 rfl (lv_at hl 3 rfl) ?_
  obtain ⟨hz1, hp⟩ := o_chk hp
  refine g_put (v := x3) hx hb hts miX1_letStick_X1 tyX1 tyX1_ok nmX1 hown hK hJ hP hS (kk_Comp hc0) (ce_Comp hc0) rfl 10 (by decide) mwX1_letStick_2 rfl (zok_n hz1).1 (zok_n hz1).2 (Nat.le_of_ble_eq_true rfl) rfl dX1_letStick_12 (fun H locs hP hS => ?_)
  refine lv_aload_n hx hb dX1_letStick_15 rfl (lv_at hl 0 rfl) ?_
  refine lv_iconst (v := (0 : Int32)) hx hb dX1_letStick_16 (by decide) ?_
  refine g_put (v := (0 : Int32)) hx hb hts miX1_letStick_X1 tyX1 tyX1_ok nmX1 hown hK hJ hP hS (kk_Comp hc0) (ce_Comp hc0) rfl 7 (by decide) mwX1_letStick_3 rfl (zok_n (by decide)).1 (zok_n (by decide)).2 (Nat.le_of_ble_eq_true rfl) rfl dX1_letStick_17 (fun H locs hP hS => ?_)
  obtain ⟨rfl, rfl⟩ := o_r hp
  exact W.vret hx hb hr (fun t ht hW => ⟨⟨(), rfl, trivial, by subst ht; exact hP⟩, hS.F ht⟩) hS.2.2 dX1_letStick_20
def sX1_letStick (c0 : Nat) (x1 : Int32) (x2 : Int32) (x3 : Int32) (σ : TS) : Option (Int32 × TS) := sX1_letStick_0 c0 x1 x2 x3 σ
theorem nVX1_letStick : yX1_letStick.cls = RX1 ∧ yX1_letStick.cls ≠ "java/lang/invoke/MethodHandle" ∧ yX1_letStick.cls ≠ "java/lang/invoke/VarHandle" ∧ (parseMethodDescriptor yX1_letStick.desc).map (fun d => d.parameters.length) = some 3 := by decide +kernel
set_option maxHeartbeats 4000000 in
set_option maxRecDepth 100000 in
theorem mX1_letStick (l : Launch) (hJ : gJ 78 q) {c0 : Nat} {x1 : Int32} {x2 : Int32} {x3 : Int32} (hc0 : c0 < 4) {σ : TS} {r : Int32} {u : TS} (hp : sX1_letStick c0 x1 x2 x3 σ = some (r, u)) : Met l yX1_letStick wsX1_letStick rmX1_letStick (va_Pc [.ref (q (15+6*c0)), .int x1, .int x2, .int x3] (gPre D vwCl (tyL cy) (gS 78 q (TX cy q) σ))) (gQv D vwCl (gS 78 q (TX cy q) u) (gA 78 q)) 0 0 (gA 78 q) := by
  refine Met.ofW (cc := cX1_letStick) (maxL := 4) (ret := none) (by decide +kernel) rfl ?_
  intro p e s m args below meth c s₁ B hml hv
  obtain ⟨rfl, hP, hK⟩ := hv
  have hl := lv_entry ([.ref (q (15+6*c0)), .int x1, .int x2, .int x3]) (n := 4) (Nat.le_of_ble_eq_true rfl)
  rw [lg_entry_eq]
  generalize (lg_sl ([.ref (q (15+6*c0)), .int x1, .int x2, .int x3]) ++ List.replicate (4 - (lg_sl ([.ref (q (15+6*c0)), .int x1, .int x2, .int x3])).length) Slot.unset).toArray = ls at hl ⊢
  have hl : lv_has ls 4 [(0, .ref (q (15+6*c0))), (1, .int x1), (2, .int x2), (3, .int x3)] := hl
  exact kX1_letStick_0 ⟨B.exec, B.bytes, B.returns, hml, findClass_of_methodNamed B.named, atoms_spec (ws := wsX1_letStick) B.pre, B.notSynchronized⟩ hK hJ hc0 hP va_S.rf hl hp
theorem miX4_unflipped_X4 : ∀ w ∈ u_ws RX4 TX4 3, w ∈ wsX4_unflipped := by decide +kernel
theorem mwX4_unflipped_0 : Cond.fieldLink RX4 9 "Triplane$Memory" "written" "[I" ∈ wsX4_unflipped := by decide +kernel
abbrev rmX4_unflipped : Room := { frames := 0, cells := 0, slots := 0, locals := 0 }
def sX4_unflipped_0 (c0 : Nat) (x1 : Int32) (σ : TS) : Option (Int32 × TS) := (if vin x1 18 = true then some (σ (17+6*c0) (x1.toNatClampNeg), σ) else none)
set_option maxHeartbeats 4000000 in
set_option maxRecDepth 100000 in
theorem kX4_unflipped_0 {r : Int32} {u : TS} (C0 : gC RX4 cX4_unflipped 2 ((some .int)) wsX4_unflipped p s m args meth c) (hK : va_K D vwCl (tyL cy) s) (hJ : gJ 78 q) {H : Heap} {locs : List Loc} {σ : TS} {c0 : Nat} {x1 : Int32} (hc0 : c0 < 4) (hP : va_P D vwCl (gS 78 q (TX cy q) σ) H) (hS : va_S (gA 78 q) s.heap H locs) {ls : Array Slot} (hl : lv_has ls 2 [(0, .ref (q (16+6*c0))), (1, .int x1)]) (hp : sX4_unflipped_0 c0 x1 σ = some (r, u)) : W p l e rmX4_unflipped s m args below meth c H locs 0 0 (MQ below (gQi D vwCl r (gS 78 q (TX cy q) u) (gA 78 q)) args s 0 0 (gA 78 q)) (F0 m 0 ls []) := by
  obtain ⟨hx, hb, hr, hml, hown, hts, hlocks⟩ := id C0
  unfold sX4_unflipped_0 at hp
  refine lv_aload_n hx hb dX4_unflipped_0 rfl (lv_at hl 0 rfl) ?_
  refine g_get (v := .ref (q (17+6*c0))) hx hb hts miX4_unflipped_X4 hown hK hP (kk_Mem hc0) (ce_Mem hc0) rfl 0 (by decide) mwX4_unflipped_0 rfl dX4_unflipped_1 ?_
  refine lv_iload_n hx hb dX4_unflipped_4 rfl (lv_at hl 1 rfl) ?_
  obtain ⟨hi1, hp⟩ := o_chk hp
  refine g_iald (j := x1.toNatClampNeg) hx hb hK hP (kk_Wr hc0) (ce_Wr hc0) 0 rfl (vin_of hi1) rfl dX4_unflipped_5 ?_
  obtain ⟨rfl, rfl⟩ := o_r hp
  exact W.iret (v := σ (17+6*c0) (x1.toNatClampNeg)) hx hb hr (fun t ht hW => ⟨⟨σ (17+6*c0) (x1.toNatClampNeg), (), rfl, rfl, by subst ht; exact hP⟩, hS.F ht⟩) hS.2.2 dX4_unflipped_6
def sX4_unflipped (c0 : Nat) (x1 : Int32) (σ : TS) : Option (Int32 × TS) := sX4_unflipped_0 c0 x1 σ
theorem nVX4_unflipped : yX4_unflipped.cls = RX4 ∧ yX4_unflipped.cls ≠ "java/lang/invoke/MethodHandle" ∧ yX4_unflipped.cls ≠ "java/lang/invoke/VarHandle" ∧ (parseMethodDescriptor yX4_unflipped.desc).map (fun d => d.parameters.length) = some 1 := by decide +kernel
set_option maxHeartbeats 4000000 in
set_option maxRecDepth 100000 in
theorem mX4_unflipped (l : Launch) (hJ : gJ 78 q) {c0 : Nat} {x1 : Int32} (hc0 : c0 < 4) {σ : TS} {r : Int32} {u : TS} (hp : sX4_unflipped c0 x1 σ = some (r, u)) : Met l yX4_unflipped wsX4_unflipped rmX4_unflipped (va_Pc [.ref (q (16+6*c0)), .int x1] (gPre D vwCl (tyL cy) (gS 78 q (TX cy q) σ))) (gQi D vwCl r (gS 78 q (TX cy q) u) (gA 78 q)) 0 0 (gA 78 q) := by
  refine Met.ofW (cc := cX4_unflipped) (maxL := 2) (ret := (some .int)) (by decide +kernel) rfl ?_
  intro p e s m args below meth c s₁ B hml hv
  obtain ⟨rfl, hP, hK⟩ := hv
  have hl := lv_entry ([.ref (q (16+6*c0)), .int x1]) (n := 2) (Nat.le_of_ble_eq_true rfl)
  rw [lg_entry_eq]
  generalize (lg_sl ([.ref (q (16+6*c0)), .int x1]) ++ List.replicate (2 - (lg_sl ([.ref (q (16+6*c0)), .int x1])).length) Slot.unset).toArray = ls at hl ⊢
  have hl : lv_has ls 2 [(0, .ref (q (16+6*c0))), (1, .int x1)] := hl
  exact kX4_unflipped_0 ⟨B.exec, B.bytes, B.returns, hml, findClass_of_methodNamed B.named, atoms_spec (ws := wsX4_unflipped) B.pre, B.notSynchronized⟩ hK hJ hc0 hP va_S.rf hl hp
theorem miX4_put_X4 : ∀ w ∈ u_ws RX4 TX4 3, w ∈ wsX4_put := by decide +kernel
theorem mwX4_put_0 : Cond.fieldLink RX4 9 "Triplane$Memory" "written" "[I" ∈ wsX4_put := by decide +kernel
theorem mwX4_put_1 : Cond.fieldLink RX4 15 "Triplane$Memory" "flips" "[I" ∈ wsX4_put := by decide +kernel
abbrev rmX4_put : Room := { frames := 0, cells := 0, slots := 0, locals := 0 }
def sX4_put_0 (c0 : Nat) (x1 : Int32) (x2 : Int32) (σ : TS) : Option (Int32 × TS) := (if vin x1 18 = true then some (0, st2 (st2 σ (17+6*c0) (x1.toNatClampNeg) x2) (18+6*c0) (x1.toNatClampNeg) ((0 : Int32))) else none)
set_option maxHeartbeats 4000000 in
set_option maxRecDepth 100000 in
theorem kX4_put_0 {r : Int32} {u : TS} (C0 : gC RX4 cX4_put 3 none wsX4_put p s m args meth c) (hK : va_K D vwCl (tyL cy) s) (hJ : gJ 78 q) {H : Heap} {locs : List Loc} {σ : TS} {c0 : Nat} {x1 : Int32} {x2 : Int32} (hc0 : c0 < 4) (hP : va_P D vwCl (gS 78 q (TX cy q) σ) H) (hS : va_S (gA 78 q) s.heap H locs) {ls : Array Slot} (hl : lv_has ls 3 [(0, .ref (q (16+6*c0))), (1, .int x1), (2, .int x2)]) (hp : sX4_put_0 c0 x1 x2 σ = some (r, u)) : W p l e rmX4_put s m args below meth c H locs 0 0 (MQ below (gQv D vwCl (gS 78 q (TX cy q) u) (gA 78 q)) args s 0 0 (gA 78 q)) (F0 m 0 ls []) := by
  obtain ⟨hx, hb, hr, hml, hown, hts, hlocks⟩ := id C0
  unfold sX4_put_0 at hp
  refine lv_aload_n hx hb dX4_put_0 rfl (lv_at hl 0 rfl) ?_
  refine g_get (v := .ref (q (17+6*c0))) hx hb hts miX4_put_X4 hown hK hP (kk_Mem hc0) (ce_Mem hc0) rfl 0 (by decide) mwX4_put_0 rfl dX4_put_1 ?_
  refine lv_iload_n hx hb dX4_put_4 rfl (lv_at hl 1 rfl) ?_
  refine lv_iload_n hx hb dX4_put_5 rfl (lv_at hl 2 rfl) ?_
  obtain ⟨hi1, hp⟩ := o_chk hp
  refine g_iast (j := x1.toNatClampNeg) hx hb hK hJ hP hS (kk_Wr hc0) (ce_Wr hc0) 0 rfl (vin_of hi1) rfl dX4_put_6 (fun H locs hP hS => ?_)
  refine lv_aload_n hx hb dX4_put_7 rfl (lv_at hl 0 rfl) ?_
  refine g_get (v := .ref (q (18+6*c0))) hx hb hts miX4_put_X4 hown hK hP (kk_Mem hc0) (ce_Mem hc0) rfl 1 (by decide) mwX4_put_1 rfl dX4_put_8 ?_
  refine lv_iload_n hx hb dX4_put_11 rfl (lv_at hl 1 rfl) ?_
  refine lv_iconst (v := (0 : Int32)) hx hb dX4_put_12 (by decide) ?_
  refine g_iast (j := x1.toNatClampNeg) hx hb hK hJ hP hS (kk_Fl hc0) (ce_Fl hc0) 0 rfl (vin_of hi1) rfl dX4_put_13 (fun H locs hP hS => ?_)
  obtain ⟨rfl, rfl⟩ := o_r hp
  exact W.vret hx hb hr (fun t ht hW => ⟨⟨(), rfl, trivial, by subst ht; exact hP⟩, hS.F ht⟩) hS.2.2 dX4_put_14
def sX4_put (c0 : Nat) (x1 : Int32) (x2 : Int32) (σ : TS) : Option (Int32 × TS) := sX4_put_0 c0 x1 x2 σ
theorem nVX4_put : yX4_put.cls = RX4 ∧ yX4_put.cls ≠ "java/lang/invoke/MethodHandle" ∧ yX4_put.cls ≠ "java/lang/invoke/VarHandle" ∧ (parseMethodDescriptor yX4_put.desc).map (fun d => d.parameters.length) = some 2 := by decide +kernel
set_option maxHeartbeats 4000000 in
set_option maxRecDepth 100000 in
theorem mX4_put (l : Launch) (hJ : gJ 78 q) {c0 : Nat} {x1 : Int32} {x2 : Int32} (hc0 : c0 < 4) {σ : TS} {r : Int32} {u : TS} (hp : sX4_put c0 x1 x2 σ = some (r, u)) : Met l yX4_put wsX4_put rmX4_put (va_Pc [.ref (q (16+6*c0)), .int x1, .int x2] (gPre D vwCl (tyL cy) (gS 78 q (TX cy q) σ))) (gQv D vwCl (gS 78 q (TX cy q) u) (gA 78 q)) 0 0 (gA 78 q) := by
  refine Met.ofW (cc := cX4_put) (maxL := 3) (ret := none) (by decide +kernel) rfl ?_
  intro p e s m args below meth c s₁ B hml hv
  obtain ⟨rfl, hP, hK⟩ := hv
  have hl := lv_entry ([.ref (q (16+6*c0)), .int x1, .int x2]) (n := 3) (Nat.le_of_ble_eq_true rfl)
  rw [lg_entry_eq]
  generalize (lg_sl ([.ref (q (16+6*c0)), .int x1, .int x2]) ++ List.replicate (3 - (lg_sl ([.ref (q (16+6*c0)), .int x1, .int x2])).length) Slot.unset).toArray = ls at hl ⊢
  have hl : lv_has ls 3 [(0, .ref (q (16+6*c0))), (1, .int x1), (2, .int x2)] := hl
  exact kX4_put_0 ⟨B.exec, B.bytes, B.returns, hml, findClass_of_methodNamed B.named, atoms_spec (ws := wsX4_put) B.pre, B.notSynchronized⟩ hK hJ hc0 hP va_S.rf hl hp
abbrev rmX4_becomeLike : Room := { frames := 1, cells := 0, slots := 0, locals := 22 }
def sX4_becomeLike_18 (K2 : Nat → Nat → Int32 → TS → Option (Int32 × TS)) (c0 : Nat) (c1 : Nat) (x2 : Int32) (σ : TS) : Option (Int32 × TS) := K2 c0 c1 (x2 + (1 : Int32)) σ
set_option maxHeartbeats 4000000 in
set_option maxRecDepth 100000 in
theorem kX4_becomeLike_18 {r : Int32} {u : TS} {K2 : Nat → Nat → Int32 → TS → Option (Int32 × TS)} (C0 : gC RX4 cX4_becomeLike 3 none wsX4_becomeLike p s m args meth c) (hK : va_K D vwCl (tyL cy) s) (hJ : gJ 78 q) (kh2 : ∀ (H : Heap) (locs : List Loc) (σ : TS) (c0 : Nat) (c1 : Nat) (x2 : Int32) (hc0 : c0 < 4) (hc1 : c1 < 4) (hP : va_P D vwCl (gS 78 q (TX cy q) σ) H) (hS : va_S (gA 78 q) s.heap H locs) (ls : Array Slot) (hl : lv_has ls 3 [(0, .ref (q (16+6*c0))), (1, .ref (q (16+6*c1))), (2, .int x2)]) (hp : K2 c0 c1 x2 σ = some (r, u)), W p l e rmX4_becomeLike s m args below meth c H locs 0 0 (MQ below (gQv D vwCl (gS 78 q (TX cy q) u) (gA 78 q)) args s 0 0 (gA 78 q)) (F0 m 2 ls [])) {H : Heap} {locs : List Loc} {σ : TS} {c0 : Nat} {c1 : Nat} {x2 : Int32} (hc0 : c0 < 4) (hc1 : c1 < 4) (hP : va_P D vwCl (gS 78 q (TX cy q) σ) H) (hS : va_S (gA 78 q) s.heap H locs) {ls : Array Slot} (hl : lv_has ls 3 [(0, .ref (q (16+6*c0))), (1, .ref (q (16+6*c1))), (2, .int x2)]) (hp : sX4_becomeLike_18 K2 c0 c1 x2 σ = some (r, u)) : W p l e rmX4_becomeLike s m args below meth c H locs 0 0 (MQ below (gQv D vwCl (gS 78 q (TX cy q) u) (gA 78 q)) args s 0 0 (gA 78 q)) (F0 m 18 ls []) := by
  obtain ⟨hx, hb, hr, hml, hown, hts, hlocks⟩ := id C0
  unfold sX4_becomeLike_18 at hp
  refine lv_iinc (v := x2 + (1 : Int32)) (lv' := [(2, .int (x2 + (1 : Int32))), (0, .ref (q (16+6*c0))), (1, .ref (q (16+6*c1)))]) hx hb dX4_becomeLike_18 hl (k := 2) rfl rfl (by decide) rfl (fun ls hl => ?_)
  refine lv_goto (tgt := 2) hx hb dX4_becomeLike_21 (by decide) ?_
  exact kh2 _ _ _ _ _ _ hc0 hc1 hP hS _ (lv_sub hl [1, 2, 0] rfl) hp
def sX4_becomeLike_15 (K2 : Nat → Nat → Int32 → TS → Option (Int32 × TS)) (c0 : Nat) (c1 : Nat) (d0 : Nat) (x2 : Int32) (sx1 : Int32) (sx2 : Int32) (σ : TS) : Option (Int32 × TS) := ((sX4_put d0 sx1 sx2 σ).bind (fun z => sX4_becomeLike_18 K2 c0 c1 x2 z.2))
set_option maxHeartbeats 4000000 in
set_option maxRecDepth 100000 in
theorem kX4_becomeLike_15 {r : Int32} {u : TS} {K2 : Nat → Nat → Int32 → TS → Option (Int32 × TS)} (C0 : gC RX4 cX4_becomeLike 3 none wsX4_becomeLike p s m args meth c) (hK : va_K D vwCl (tyL cy) s) (hJ : gJ 78 q) (kh2 : ∀ (H : Heap) (locs : List Loc) (σ : TS) (c0 : Nat) (c1 : Nat) (x2 : Int32) (hc0 : c0 < 4) (hc1 : c1 < 4) (hP : va_P D vwCl (gS 78 q (TX cy q) σ) H) (hS : va_S (gA 78 q) s.heap H locs) (ls : Array Slot) (hl : lv_has ls 3 [(0, .ref (q (16+6*c0))), (1, .ref (q (16+6*c1))), (2, .int x2)]) (hp : K2 c0 c1 x2 σ = some (r, u)), W p l e rmX4_becomeLike s m args below meth c H locs 0 0 (MQ below (gQv D vwCl (gS 78 q (TX cy q) u) (gA 78 q)) args s 0 0 (gA 78 q)) (F0 m 2 ls [])) {H : Heap} {locs : List Loc} {σ : TS} {c0 : Nat} {c1 : Nat} {d0 : Nat} {x2 : Int32} {sx1 : Int32} {sx2 : Int32} (hc0 : c0 < 4) (hc1 : c1 < 4) (hd0 : d0 < 4) (hP : va_P D vwCl (gS 78 q (TX cy q) σ) H) (hS : va_S (gA 78 q) s.heap H locs) {ls : Array Slot} (hl : lv_has ls 3 [(0, .ref (q (16+6*c0))), (1, .ref (q (16+6*c1))), (2, .int x2)]) (hp : sX4_becomeLike_15 K2 c0 c1 d0 x2 sx1 sx2 σ = some (r, u)) : W p l e rmX4_becomeLike s m args below meth c H locs 0 0 (MQ below (gQv D vwCl (gS 78 q (TX cy q) u) (gA 78 q)) args s 0 0 (gA 78 q)) (F0 m 15 ls [.int sx2, .int sx1, .ref (q (16+6*d0))]) := by
  obtain ⟨hx, hb, hr, hml, hown, hts, hlocks⟩ := id C0
  unfold sX4_becomeLike_15 at hp
  obtain ⟨⟨r1, u2⟩, hq3, hp⟩ := o_b hp
  refine g_cVv (As := [.int sx1, .int sx2]) (rest := []) hx hb hml hown hts hK hP hS (mX4_put l hJ hd0 hq3) (cwV 2 hts gX4_becomeLike_X4_put rfl rfl rfl nVX4_put ⟨Nat.le_of_ble_eq_true rfl, Nat.le_of_ble_eq_true rfl⟩) (g_recv hK hP (kk_Mem hd0) (ce_Mem hd0) rfl) rfl hl.1 rfl (Nat.le_of_ble_eq_true rfl) dX4_becomeLike_15 ⟨Nat.le_of_ble_eq_true rfl, Nat.le_of_ble_eq_true rfl⟩ (fun H locs hP hS => ?_)
  exact kX4_becomeLike_18 C0 hK hJ kh2 hc0 hc1 hP hS hl hp
def sX4_becomeLike_2 : Nat → Nat → Nat → Int32 → TS → Option (Int32 × TS)
  | 0, _, _, _, _ => none
  | n + 1, c0, c1, x2, σ => (if ((18 : Int32)) ≤ x2 then some (0, σ) else ((sX4_unflipped c1 x2 σ).bind (fun z => sX4_becomeLike_15 (sX4_becomeLike_2 n) c0 c1 c0 x2 x2 z.1 z.2)))
set_option maxHeartbeats 4000000 in
set_option maxRecDepth 100000 in
theorem kX4_becomeLike_2 {r : Int32} {u : TS} (C0 : gC RX4 cX4_becomeLike 3 none wsX4_becomeLike p s m args meth c) (hK : va_K D vwCl (tyL cy) s) (hJ : gJ 78 q) : ∀ (n : Nat) (H : Heap) (locs : List Loc) (σ : TS) (c0 : Nat) (c1 : Nat) (x2 : Int32) (hc0 : c0 < 4) (hc1 : c1 < 4) (hP : va_P D vwCl (gS 78 q (TX cy q) σ) H) (hS : va_S (gA 78 q) s.heap H locs) (ls : Array Slot) (hl : lv_has ls 3 [(0, .ref (q (16+6*c0))), (1, .ref (q (16+6*c1))), (2, .int x2)]) (hp : sX4_becomeLike_2 n c0 c1 x2 σ = some (r, u)), W p l e rmX4_becomeLike s m args below meth c H locs 0 0 (MQ below (gQv D vwCl (gS 78 q (TX cy q) u) (gA 78 q)) args s 0 0 (gA 78 q)) (F0 m 2 ls []) := by
  obtain ⟨hx, hb, hr, hml, hown, hts, hlocks⟩ := id C0
  intro n
  induction n with
  | zero =>
    intro H locs σ c0 c1 x2 hc0 hc1 hP hS ls hl hp
    cases hp
  | succ n ih =>
    intro H locs σ c0 c1 x2 hc0 hc1 hP hS ls hl hp
    unfold sX4_becomeLike_2 at hp
    refine lv_iload_n hx hb dX4_becomeLike_2 rfl (lv_at hl 2 rfl) ?_
    refine lv_bipush (v := (18 : Int32)) hx hb dX4_becomeLike_3 (by decide) ?_
    refine lv_icmp_ge (tgt := 24) hx hb dX4_becomeLike_5 (by decide) (fun hcd4 => ?_) (fun hcd4 => ?_)
    · have hp := o_t hp hcd4
      obtain ⟨rfl, rfl⟩ := o_r hp
      exact W.vret hx hb hr (fun t ht hW => ⟨⟨(), rfl, trivial, by subst ht; exact hP⟩, hS.F ht⟩) hS.2.2 dX4_becomeLike_24
    · have hp := o_f hp hcd4
      refine lv_aload_n hx hb dX4_becomeLike_8 rfl (lv_at hl 0 rfl) ?_
      refine lv_iload_n hx hb dX4_becomeLike_9 rfl (lv_at hl 2 rfl) ?_
      refine lv_aload_n hx hb dX4_becomeLike_10 rfl (lv_at hl 1 rfl) ?_
      refine lv_iload_n hx hb dX4_becomeLike_11 rfl (lv_at hl 2 rfl) ?_
      obtain ⟨⟨r5, u6⟩, hq7, hp⟩ := o_b hp
      refine g_cVi (As := [.int x2]) (rest := [.int x2, .ref (q (16+6*c0))]) hx hb hml hown hts hK hP hS (mX4_unflipped l hJ hc1 hq7) (cwV 1 hts gX4_becomeLike_X4_unflipped rfl rfl rfl nVX4_unflipped ⟨Nat.le_of_ble_eq_true rfl, Nat.le_of_ble_eq_true rfl⟩) (g_recv hK hP (kk_Mem hc1) (ce_Mem hc1) rfl) rfl hl.1 rfl (Nat.le_of_ble_eq_true rfl) dX4_becomeLike_12 ⟨Nat.le_of_ble_eq_true rfl, Nat.le_of_ble_eq_true rfl⟩ (fun H locs hP hS => ?_)
      exact kX4_becomeLike_15 C0 hK hJ ih hc0 hc1 hc0 hP hS hl hp
def sX4_becomeLike_0 (c0 : Nat) (c1 : Nat) (σ : TS) : Option (Int32 × TS) := sX4_becomeLike_2 19 c0 c1 ((0 : Int32)) σ
set_option maxHeartbeats 4000000 in
set_option maxRecDepth 100000 in
theorem kX4_becomeLike_0 {r : Int32} {u : TS} (C0 : gC RX4 cX4_becomeLike 3 none wsX4_becomeLike p s m args meth c) (hK : va_K D vwCl (tyL cy) s) (hJ : gJ 78 q) {H : Heap} {locs : List Loc} {σ : TS} {c0 : Nat} {c1 : Nat} (hc0 : c0 < 4) (hc1 : c1 < 4) (hP : va_P D vwCl (gS 78 q (TX cy q) σ) H) (hS : va_S (gA 78 q) s.heap H locs) {ls : Array Slot} (hl : lv_has ls 3 [(0, .ref (q (16+6*c0))), (1, .ref (q (16+6*c1)))]) (hp : sX4_becomeLike_0 c0 c1 σ = some (r, u)) : W p l e rmX4_becomeLike s m args below meth c H locs 0 0 (MQ below (gQv D vwCl (gS 78 q (TX cy q) u) (gA 78 q)) args s 0 0 (gA 78 q)) (F0 m 0 ls []) := by
  obtain ⟨hx, hb, hr, hml, hown, hts, hlocks⟩ := id C0
  unfold sX4_becomeLike_0 at hp
  refine lv_iconst (v := (0 : Int32)) hx hb dX4_becomeLike_0 (by decide) ?_
  refine lv_istore_n (lv' := [(2, .int ((0 : Int32))), (0, .ref (q (16+6*c0))), (1, .ref (q (16+6*c1)))]) hx hb dX4_becomeLike_1 rfl hl (by decide) rfl (fun ls hl => ?_)
  exact kX4_becomeLike_2 C0 hK hJ _ _ _ _ _ _ _ hc0 hc1 hP hS _ (lv_sub hl [1, 2, 0] rfl) hp
def sX4_becomeLike (c0 : Nat) (c1 : Nat) (σ : TS) : Option (Int32 × TS) := sX4_becomeLike_0 c0 c1 σ
theorem nVX4_becomeLike : yX4_becomeLike.cls = RX4 ∧ yX4_becomeLike.cls ≠ "java/lang/invoke/MethodHandle" ∧ yX4_becomeLike.cls ≠ "java/lang/invoke/VarHandle" ∧ (parseMethodDescriptor yX4_becomeLike.desc).map (fun d => d.parameters.length) = some 1 := by decide +kernel
set_option maxHeartbeats 4000000 in
set_option maxRecDepth 100000 in
theorem mX4_becomeLike (l : Launch) (hJ : gJ 78 q) {c0 : Nat} {c1 : Nat} (hc0 : c0 < 4) (hc1 : c1 < 4) {σ : TS} {r : Int32} {u : TS} (hp : sX4_becomeLike c0 c1 σ = some (r, u)) : Met l yX4_becomeLike wsX4_becomeLike rmX4_becomeLike (va_Pc [.ref (q (16+6*c0)), .ref (q (16+6*c1))] (gPre D vwCl (tyL cy) (gS 78 q (TX cy q) σ))) (gQv D vwCl (gS 78 q (TX cy q) u) (gA 78 q)) 0 0 (gA 78 q) := by
  refine Met.ofW (cc := cX4_becomeLike) (maxL := 3) (ret := none) (by decide +kernel) rfl ?_
  intro p e s m args below meth c s₁ B hml hv
  obtain ⟨rfl, hP, hK⟩ := hv
  have hl := lv_entry ([.ref (q (16+6*c0)), .ref (q (16+6*c1))]) (n := 3) (Nat.le_of_ble_eq_true rfl)
  rw [lg_entry_eq]
  generalize (lg_sl ([.ref (q (16+6*c0)), .ref (q (16+6*c1))]) ++ List.replicate (3 - (lg_sl ([.ref (q (16+6*c0)), .ref (q (16+6*c1))])).length) Slot.unset).toArray = ls at hl ⊢
  have hl : lv_has ls 3 [(0, .ref (q (16+6*c0))), (1, .ref (q (16+6*c1)))] := hl
  exact kX4_becomeLike_0 ⟨B.exec, B.bytes, B.returns, hml, findClass_of_methodNamed B.named, atoms_spec (ws := wsX4_becomeLike) B.pre, B.notSynchronized⟩ hK hJ hc0 hc1 hP va_S.rf hl hp
theorem miX1_resumeLike_X1 : ∀ w ∈ u_ws RX1 TX1 14, w ∈ wsX1_resumeLike := by decide +kernel
theorem mwX1_resumeLike_0 : Cond.fieldLink RX1 29 "Triplane$Computer" "strikeCount" "I" ∈ wsX1_resumeLike := by decide +kernel
theorem mwX1_resumeLike_1 : Cond.fieldLink RX1 22 "Triplane$Computer" "clockNow" "I" ∈ wsX1_resumeLike := by decide +kernel
theorem mwX1_resumeLike_2 : Cond.fieldLink RX1 35 "Triplane$Computer" "isRunning" "Z" ∈ wsX1_resumeLike := by decide +kernel
theorem mwX1_resumeLike_3 : Cond.fieldLink RX1 12 "Triplane$Computer" "memory" "LTriplane$Memory;" ∈ wsX1_resumeLike := by decide +kernel
abbrev rmX1_resumeLike : Room := { frames := 2, cells := 0, slots := 0, locals := 44 }
def sX1_resumeLike_11 (c0 : Nat) (c1 : Nat) (σ : TS) : Option (Int32 × TS) := some (0, st2 (st2 (st2 σ (15+6*c0) 4 ((0 : Int32))) (15+6*c0) 2 ((st2 σ (15+6*c0) 4 ((0 : Int32))) (15+6*c1) 2)) (15+6*c0) 6 ((1 : Int32)))
set_option maxHeartbeats 4000000 in
set_option maxRecDepth 100000 in
theorem kX1_resumeLike_11 {r : Int32} {u : TS} (C0 : gC RX1 cX1_resumeLike 2 none wsX1_resumeLike p s m args meth c) (hK : va_K D vwCl (tyL cy) s) (hJ : gJ 78 q) {H : Heap} {locs : List Loc} {σ : TS} {c0 : Nat} {c1 : Nat} (hc0 : c0 < 4) (hc1 : c1 < 4) (hP : va_P D vwCl (gS 78 q (TX cy q) σ) H) (hS : va_S (gA 78 q) s.heap H locs) {ls : Array Slot} (hl : lv_has ls 2 [(0, .ref (q (15+6*c0))), (1, .ref (q (15+6*c1)))]) (hp : sX1_resumeLike_11 c0 c1 σ = some (r, u)) : W p l e rmX1_resumeLike s m args below meth c H locs 0 0 (MQ below (gQv D vwCl (gS 78 q (TX cy q) u) (gA 78 q)) args s 0 0 (gA 78 q)) (F0 m 11 ls []) := by
  obtain ⟨hx, hb, hr, hml, hown, hts, hlocks⟩ := id C0
  unfold sX1_resumeLike_11 at hp
  refine lv_aload_n hx hb dX1_resumeLike_11 rfl (lv_at hl 0 rfl) ?_
  refine lv_iconst (v := (0 : Int32)) hx hb dX1_resumeLike_12 (by decide) ?_
  refine g_put (v := (0 : Int32)) hx hb hts miX1_resumeLike_X1 tyX1 tyX1_ok nmX1 hown hK hJ hP hS (kk_Comp hc0) (ce_Comp hc0) rfl 4 (by decide) mwX1_resumeLike_0 rfl rfl rfl (Nat.le_of_ble_eq_true rfl) rfl dX1_resumeLike_13 (fun H locs hP hS => ?_)
  refine lv_aload_n hx hb dX1_resumeLike_16 rfl (lv_at hl 0 rfl) ?_
  refine lv_aload_n hx hb dX1_resumeLike_17 rfl (lv_at hl 1 rfl) ?_
  refine g_get (v := .int ((st2 σ (15+6*c0) 4 ((0 : Int32))) (15+6*c1) 2)) hx hb hts miX1_resumeLike_X1 hown hK hP (kk_Comp hc1) (ce_Comp hc1) rfl 2 (by decide) mwX1_resumeLike_1 rfl dX1_resumeLike_18 ?_
  refine g_put (v := (st2 σ (15+6*c0) 4 ((0 : Int32))) (15+6*c1) 2) hx hb hts miX1_resumeLike_X1 tyX1 tyX1_ok nmX1 hown hK hJ hP hS (kk_Comp hc0) (ce_Comp hc0) rfl 2 (by decide) mwX1_resumeLike_1 rfl rfl rfl (Nat.le_of_ble_eq_true rfl) rfl dX1_resumeLike_21 (fun H locs hP hS => ?_)
  refine lv_aload_n hx hb dX1_resumeLike_24 rfl (lv_at hl 0 rfl) ?_
  refine lv_iconst (v := (1 : Int32)) hx hb dX1_resumeLike_25 (by decide) ?_
  refine g_put (v := (1 : Int32)) hx hb hts miX1_resumeLike_X1 tyX1 tyX1_ok nmX1 hown hK hJ hP hS (kk_Comp hc0) (ce_Comp hc0) rfl 6 (by decide) mwX1_resumeLike_2 rfl (zok_n (by decide)).1 (zok_n (by decide)).2 (Nat.le_of_ble_eq_true rfl) rfl dX1_resumeLike_26 (fun H locs hP hS => ?_)
  obtain ⟨rfl, rfl⟩ := o_r hp
  exact W.vret hx hb hr (fun t ht hW => ⟨⟨(), rfl, trivial, by subst ht; exact hP⟩, hS.F ht⟩) hS.2.2 dX1_resumeLike_29
def sX1_resumeLike_0 (c0 : Nat) (c1 : Nat) (σ : TS) : Option (Int32 × TS) := ((sX4_becomeLike c0 c1 σ).bind (fun z => sX1_resumeLike_11 c0 c1 z.2))
set_option maxHeartbeats 4000000 in
set_option maxRecDepth 100000 in
theorem kX1_resumeLike_0 {r : Int32} {u : TS} (C0 : gC RX1 cX1_resumeLike 2 none wsX1_resumeLike p s m args meth c) (hK : va_K D vwCl (tyL cy) s) (hJ : gJ 78 q) {H : Heap} {locs : List Loc} {σ : TS} {c0 : Nat} {c1 : Nat} (hc0 : c0 < 4) (hc1 : c1 < 4) (hP : va_P D vwCl (gS 78 q (TX cy q) σ) H) (hS : va_S (gA 78 q) s.heap H locs) {ls : Array Slot} (hl : lv_has ls 2 [(0, .ref (q (15+6*c0))), (1, .ref (q (15+6*c1)))]) (hp : sX1_resumeLike_0 c0 c1 σ = some (r, u)) : W p l e rmX1_resumeLike s m args below meth c H locs 0 0 (MQ below (gQv D vwCl (gS 78 q (TX cy q) u) (gA 78 q)) args s 0 0 (gA 78 q)) (F0 m 0 ls []) := by
  obtain ⟨hx, hb, hr, hml, hown, hts, hlocks⟩ := id C0
  unfold sX1_resumeLike_0 at hp
  refine lv_aload_n hx hb dX1_resumeLike_0 rfl (lv_at hl 0 rfl) ?_
  refine g_get (v := .ref (q (16+6*c0))) hx hb hts miX1_resumeLike_X1 hown hK hP (kk_Comp hc0) (ce_Comp hc0) rfl 0 (by decide) mwX1_resumeLike_3 rfl dX1_resumeLike_1 ?_
  refine lv_aload_n hx hb dX1_resumeLike_4 rfl (lv_at hl 1 rfl) ?_
  refine g_get (v := .ref (q (16+6*c1))) hx hb hts miX1_resumeLike_X1 hown hK hP (kk_Comp hc1) (ce_Comp hc1) rfl 0 (by decide) mwX1_resumeLike_3 rfl dX1_resumeLike_5 ?_
  obtain ⟨⟨r1, u2⟩, hq3, hp⟩ := o_b hp
  refine g_cVv (As := [.ref (q (16+6*c1))]) (rest := []) hx hb hml hown hts hK hP hS (mX4_becomeLike l hJ hc0 hc1 hq3) (cwV 1 hts gX1_resumeLike_X4_becomeLike rfl rfl rfl nVX4_becomeLike ⟨Nat.le_of_ble_eq_true rfl, Nat.le_of_ble_eq_true rfl⟩) (g_recv hK hP (kk_Mem hc0) (ce_Mem hc0) rfl) rfl hl.1 rfl (Nat.le_of_ble_eq_true rfl) dX1_resumeLike_8 ⟨Nat.le_of_ble_eq_true rfl, Nat.le_of_ble_eq_true rfl⟩ (fun H locs hP hS => ?_)
  exact kX1_resumeLike_11 C0 hK hJ hc0 hc1 hP hS hl hp
def sX1_resumeLike (c0 : Nat) (c1 : Nat) (σ : TS) : Option (Int32 × TS) := sX1_resumeLike_0 c0 c1 σ
theorem nVX1_resumeLike : yX1_resumeLike.cls = RX1 ∧ yX1_resumeLike.cls ≠ "java/lang/invoke/MethodHandle" ∧ yX1_resumeLike.cls ≠ "java/lang/invoke/VarHandle" ∧ (parseMethodDescriptor yX1_resumeLike.desc).map (fun d => d.parameters.length) = some 1 := by decide +kernel
set_option maxHeartbeats 4000000 in
set_option maxRecDepth 100000 in
theorem mX1_resumeLike (l : Launch) (hJ : gJ 78 q) {c0 : Nat} {c1 : Nat} (hc0 : c0 < 4) (hc1 : c1 < 4) {σ : TS} {r : Int32} {u : TS} (hp : sX1_resumeLike c0 c1 σ = some (r, u)) : Met l yX1_resumeLike wsX1_resumeLike rmX1_resumeLike (va_Pc [.ref (q (15+6*c0)), .ref (q (15+6*c1))] (gPre D vwCl (tyL cy) (gS 78 q (TX cy q) σ))) (gQv D vwCl (gS 78 q (TX cy q) u) (gA 78 q)) 0 0 (gA 78 q) := by
  refine Met.ofW (cc := cX1_resumeLike) (maxL := 2) (ret := none) (by decide +kernel) rfl ?_
  intro p e s m args below meth c s₁ B hml hv
  obtain ⟨rfl, hP, hK⟩ := hv
  have hl := lv_entry ([.ref (q (15+6*c0)), .ref (q (15+6*c1))]) (n := 2) (Nat.le_of_ble_eq_true rfl)
  rw [lg_entry_eq]
  generalize (lg_sl ([.ref (q (15+6*c0)), .ref (q (15+6*c1))]) ++ List.replicate (2 - (lg_sl ([.ref (q (15+6*c0)), .ref (q (15+6*c1))])).length) Slot.unset).toArray = ls at hl ⊢
  have hl : lv_has ls 2 [(0, .ref (q (15+6*c0))), (1, .ref (q (15+6*c1)))] := hl
  exact kX1_resumeLike_0 ⟨B.exec, B.bytes, B.returns, hml, findClass_of_methodNamed B.named, atoms_spec (ws := wsX1_resumeLike) B.pre, B.notSynchronized⟩ hK hJ hc0 hc1 hP va_S.rf hl hp
theorem miX1_clockToldTo_X1 : ∀ w ∈ u_ws RX1 TX1 14, w ∈ wsX1_clockToldTo := by decide +kernel
theorem mwX1_clockToldTo_0 : Cond.fieldLink RX1 22 "Triplane$Computer" "clockNow" "I" ∈ wsX1_clockToldTo := by decide +kernel
theorem mwX1_clockToldTo_1 : Cond.fieldLink RX1 18 "Triplane$Computer" "lies" "[I" ∈ wsX1_clockToldTo := by decide +kernel
abbrev rmX1_clockToldTo : Room := { frames := 0, cells := 0, slots := 0, locals := 0 }
def sX1_clockToldTo_0 (c0 : Nat) (x1 : Int32) (σ : TS) : Option (Int32 × TS) := (if vin x1 3 = true then some ((σ (15+6*c0) 2) + (σ (19+6*c0) (x1.toNatClampNeg)), σ) else none)
set_option maxHeartbeats 4000000 in
set_option maxRecDepth 100000 in
theorem kX1_clockToldTo_0 {r : Int32} {u : TS} (C0 : gC RX1 cX1_clockToldTo 2 ((some .int)) wsX1_clockToldTo p s m args meth c) (hK : va_K D vwCl (tyL cy) s) (hJ : gJ 78 q) {H : Heap} {locs : List Loc} {σ : TS} {c0 : Nat} {x1 : Int32} (hc0 : c0 < 4) (hP : va_P D vwCl (gS 78 q (TX cy q) σ) H) (hS : va_S (gA 78 q) s.heap H locs) {ls : Array Slot} (hl : lv_has ls 2 [(0, .ref (q (15+6*c0))), (1, .int x1)]) (hp : sX1_clockToldTo_0 c0 x1 σ = some (r, u)) : W p l e rmX1_clockToldTo s m args below meth c H locs 0 0 (MQ below (gQi D vwCl r (gS 78 q (TX cy q) u) (gA 78 q)) args s 0 0 (gA 78 q)) (F0 m 0 ls []) := by
  obtain ⟨hx, hb, hr, hml, hown, hts, hlocks⟩ := id C0
  unfold sX1_clockToldTo_0 at hp
  refine lv_aload_n hx hb dX1_clockToldTo_0 rfl (lv_at hl 0 rfl) ?_
  refine g_get (v := .int (σ (15+6*c0) 2)) hx hb hts miX1_clockToldTo_X1 hown hK hP (kk_Comp hc0) (ce_Comp hc0) rfl 2 (by decide) mwX1_clockToldTo_0 rfl dX1_clockToldTo_1 ?_
  refine lv_aload_n hx hb dX1_clockToldTo_4 rfl (lv_at hl 0 rfl) ?_
  refine g_get (v := .ref (q (19+6*c0))) hx hb hts miX1_clockToldTo_X1 hown hK hP (kk_Comp hc0) (ce_Comp hc0) rfl 1 (by decide) mwX1_clockToldTo_1 rfl dX1_clockToldTo_5 ?_
  refine lv_iload_n hx hb dX1_clockToldTo_8 rfl (lv_at hl 1 rfl) ?_
  obtain ⟨hi1, hp⟩ := o_chk hp
  refine g_iald (j := x1.toNatClampNeg) hx hb hK hP (kk_Lies hc0) (ce_Lies hc0) 0 rfl (vin_of hi1) rfl dX1_clockToldTo_9 ?_
  refine lv_iadd hx hb dX1_clockToldTo_10 ?_
  obtain ⟨rfl, rfl⟩ := o_r hp
  exact W.iret (v := (σ (15+6*c0) 2) + (σ (19+6*c0) (x1.toNatClampNeg))) hx hb hr (fun t ht hW => ⟨⟨(σ (15+6*c0) 2) + (σ (19+6*c0) (x1.toNatClampNeg)), (), rfl, rfl, by subst ht; exact hP⟩, hS.F ht⟩) hS.2.2 dX1_clockToldTo_11
def sX1_clockToldTo (c0 : Nat) (x1 : Int32) (σ : TS) : Option (Int32 × TS) := sX1_clockToldTo_0 c0 x1 σ
theorem nVX1_clockToldTo : yX1_clockToldTo.cls = RX1 ∧ yX1_clockToldTo.cls ≠ "java/lang/invoke/MethodHandle" ∧ yX1_clockToldTo.cls ≠ "java/lang/invoke/VarHandle" ∧ (parseMethodDescriptor yX1_clockToldTo.desc).map (fun d => d.parameters.length) = some 1 := by decide +kernel
set_option maxHeartbeats 4000000 in
set_option maxRecDepth 100000 in
theorem mX1_clockToldTo (l : Launch) (hJ : gJ 78 q) {c0 : Nat} {x1 : Int32} (hc0 : c0 < 4) {σ : TS} {r : Int32} {u : TS} (hp : sX1_clockToldTo c0 x1 σ = some (r, u)) : Met l yX1_clockToldTo wsX1_clockToldTo rmX1_clockToldTo (va_Pc [.ref (q (15+6*c0)), .int x1] (gPre D vwCl (tyL cy) (gS 78 q (TX cy q) σ))) (gQi D vwCl r (gS 78 q (TX cy q) u) (gA 78 q)) 0 0 (gA 78 q) := by
  refine Met.ofW (cc := cX1_clockToldTo) (maxL := 2) (ret := (some .int)) (by decide +kernel) rfl ?_
  intro p e s m args below meth c s₁ B hml hv
  obtain ⟨rfl, hP, hK⟩ := hv
  have hl := lv_entry ([.ref (q (15+6*c0)), .int x1]) (n := 2) (Nat.le_of_ble_eq_true rfl)
  rw [lg_entry_eq]
  generalize (lg_sl ([.ref (q (15+6*c0)), .int x1]) ++ List.replicate (2 - (lg_sl ([.ref (q (15+6*c0)), .int x1])).length) Slot.unset).toArray = ls at hl ⊢
  have hl : lv_has ls 2 [(0, .ref (q (15+6*c0))), (1, .int x1)] := hl
  exact kX1_clockToldTo_0 ⟨B.exec, B.bytes, B.returns, hml, findClass_of_methodNamed B.named, atoms_spec (ws := wsX1_clockToldTo) B.pre, B.notSynchronized⟩ hK hJ hc0 hP va_S.rf hl hp
abbrev rmX5_round : Room := { frames := 0, cells := 0, slots := 0, locals := 0 }
def sX5_round_0 (x0 : Int32) (σ : TS) : Option (Int32 × TS) := some (x0.toInt16.toInt32, σ)
set_option maxHeartbeats 4000000 in
set_option maxRecDepth 100000 in
theorem kX5_round_0 {r : Int32} {u : TS} (C0 : gC RX5 cX5_round 1 ((some .int)) wsX5_round p s m args meth c) (hK : va_K D vwCl (tyL cy) s) (hJ : gJ 78 q) {H : Heap} {locs : List Loc} {σ : TS} {x0 : Int32} (hP : va_P D vwCl (gS 78 q (TX cy q) σ) H) (hS : va_S (gA 78 q) s.heap H locs) {ls : Array Slot} (hl : lv_has ls 1 [(0, .int x0)]) (hp : sX5_round_0 x0 σ = some (r, u)) : W p l e rmX5_round s m args below meth c H locs 0 0 (MQ below (gQi D vwCl r (gS 78 q (TX cy q) u) (gA 78 q)) args s 0 0 (gA 78 q)) (F0 m 0 ls []) := by
  obtain ⟨hx, hb, hr, hml, hown, hts, hlocks⟩ := id C0
  unfold sX5_round_0 at hp
  refine lv_iload_n hx hb dX5_round_0 rfl (lv_at hl 0 rfl) ?_
  refine lv_i2s hx hb dX5_round_1 rfl ?_
  obtain ⟨rfl, rfl⟩ := o_r hp
  exact W.iret (v := x0.toInt16.toInt32) hx hb hr (fun t ht hW => ⟨⟨x0.toInt16.toInt32, (), rfl, rfl, by subst ht; exact hP⟩, hS.F ht⟩) hS.2.2 dX5_round_2
def sX5_round (x0 : Int32) (σ : TS) : Option (Int32 × TS) := sX5_round_0 x0 σ
theorem nVX5_round : yX5_round.cls ≠ "java/lang/invoke/MethodHandle" ∧ yX5_round.cls ≠ "java/lang/invoke/VarHandle" ∧ (parseMethodDescriptor yX5_round.desc).map (fun d => d.parameters.length) = some 1 := by decide +kernel
set_option maxHeartbeats 4000000 in
set_option maxRecDepth 100000 in
theorem mX5_round (l : Launch) (hJ : gJ 78 q) {x0 : Int32} {σ : TS} {r : Int32} {u : TS} (hp : sX5_round x0 σ = some (r, u)) : Met l yX5_round wsX5_round rmX5_round (va_Pc [.int x0] (gPre D vwCl (tyL cy) (gS 78 q (TX cy q) σ))) (gQi D vwCl r (gS 78 q (TX cy q) u) (gA 78 q)) 0 0 (gA 78 q) := by
  refine Met.ofW (cc := cX5_round) (maxL := 1) (ret := (some .int)) (by decide +kernel) rfl ?_
  intro p e s m args below meth c s₁ B hml hv
  obtain ⟨rfl, hP, hK⟩ := hv
  have hl := lv_entry ([.int x0]) (n := 1) (Nat.le_of_ble_eq_true rfl)
  rw [lg_entry_eq]
  generalize (lg_sl ([.int x0]) ++ List.replicate (1 - (lg_sl ([.int x0])).length) Slot.unset).toArray = ls at hl ⊢
  have hl : lv_has ls 1 [(0, .int x0)] := hl
  exact kX5_round_0 ⟨B.exec, B.bytes, B.returns, hml, findClass_of_methodNamed B.named, atoms_spec (ws := wsX5_round) B.pre, B.notSynchronized⟩ hK hJ  hP va_S.rf hl hp
theorem miX1_change_X1 : ∀ w ∈ u_ws RX1 TX1 14, w ∈ wsX1_change := by decide +kernel
theorem mwX1_change_0 : Cond.fieldLink RX1 42 "Triplane$Computer" "registers" "[I" ∈ wsX1_change := by decide +kernel
theorem mwX1_change_1 : Cond.fieldLink RX1 32 "Triplane$Computer" "stuckRegister" "I" ∈ wsX1_change := by decide +kernel
theorem mwX1_change_2 : Cond.fieldLink RX1 45 "Triplane$Computer" "stuckBit" "I" ∈ wsX1_change := by decide +kernel
theorem mwX1_change_3 : Cond.fieldLink RX1 48 "Triplane$Computer" "isStuckSet" "Z" ∈ wsX1_change := by decide +kernel
abbrev rmX1_change : Room := { frames := 1, cells := 0, slots := 0, locals := 20 }
def sX1_change_48 (d0 : Nat) (sx1 : Int32) (sx2 : Int32) (σ : TS) : Option (Int32 × TS) := (if vin sx1 4 = true then some (0, st2 σ (20+6*d0) (sx1.toNatClampNeg) sx2) else none)
set_option maxHeartbeats 4000000 in
set_option maxRecDepth 100000 in
theorem kX1_change_48 {r : Int32} {u : TS} (C0 : gC RX1 cX1_change 5 none wsX1_change p s m args meth c) (hK : va_K D vwCl (tyL cy) s) (hJ : gJ 78 q) {H : Heap} {locs : List Loc} {σ : TS} {d0 : Nat} {sx1 : Int32} {sx2 : Int32} (hd0 : d0 < 4) (hP : va_P D vwCl (gS 78 q (TX cy q) σ) H) (hS : va_S (gA 78 q) s.heap H locs) {ls : Array Slot} (hl : lv_has ls 5 []) (hp : sX1_change_48 d0 sx1 sx2 σ = some (r, u)) : W p l e rmX1_change s m args below meth c H locs 0 0 (MQ below (gQv D vwCl (gS 78 q (TX cy q) u) (gA 78 q)) args s 0 0 (gA 78 q)) (F0 m 48 ls [.int sx2, .int sx1, .ref (q (20+6*d0))]) := by
  obtain ⟨hx, hb, hr, hml, hown, hts, hlocks⟩ := id C0
  unfold sX1_change_48 at hp
  obtain ⟨hi1, hp⟩ := o_chk hp
  refine g_iast (j := sx1.toNatClampNeg) hx hb hK hJ hP hS (kk_Regs hd0) (ce_Regs hd0) 0 rfl (vin_of hi1) rfl dX1_change_48 (fun H locs hP hS => ?_)
  obtain ⟨rfl, rfl⟩ := o_r hp
  exact W.vret hx hb hr (fun t ht hW => ⟨⟨(), rfl, trivial, by subst ht; exact hP⟩, hS.F ht⟩) hS.2.2 dX1_change_49
def sX1_change_39 (c0 : Nat) (x1 : Int32) (x3 : Int32) (σ : TS) : Option (Int32 × TS) := ((sX5_round x3 σ).bind (fun z => sX1_change_48 c0 x1 z.1 z.2))
set_option maxHeartbeats 4000000 in
set_option maxRecDepth 100000 in
theorem kX1_change_39 {r : Int32} {u : TS} (C0 : gC RX1 cX1_change 5 none wsX1_change p s m args meth c) (hK : va_K D vwCl (tyL cy) s) (hJ : gJ 78 q) {H : Heap} {locs : List Loc} {σ : TS} {c0 : Nat} {x1 : Int32} {x3 : Int32} (hc0 : c0 < 4) (hP : va_P D vwCl (gS 78 q (TX cy q) σ) H) (hS : va_S (gA 78 q) s.heap H locs) {ls : Array Slot} (hl : lv_has ls 5 [(0, .ref (q (15+6*c0))), (1, .int x1), (3, .int x3)]) (hp : sX1_change_39 c0 x1 x3 σ = some (r, u)) : W p l e rmX1_change s m args below meth c H locs 0 0 (MQ below (gQv D vwCl (gS 78 q (TX cy q) u) (gA 78 q)) args s 0 0 (gA 78 q)) (F0 m 39 ls []) := by
  obtain ⟨hx, hb, hr, hml, hown, hts, hlocks⟩ := id C0
  unfold sX1_change_39 at hp
  refine lv_aload_n hx hb dX1_change_39 rfl (lv_at hl 0 rfl) ?_
  refine g_get (v := .ref (q (20+6*c0))) hx hb hts miX1_change_X1 hown hK hP (kk_Comp hc0) (ce_Comp hc0) rfl 8 (by decide) mwX1_change_0 rfl dX1_change_40 ?_
  refine lv_iload_n hx hb dX1_change_43 rfl (lv_at hl 1 rfl) ?_
  refine lv_iload_n hx hb dX1_change_44 rfl (lv_at hl 2 rfl) ?_
  obtain ⟨⟨r2, u3⟩, hq4, hp⟩ := o_b hp
  refine g_cSi (As := [.int x3]) (rest := [.int x1, .ref (q (20+6*c0))]) hx hb hml hown hts hK hP hS (mX5_round l hJ hq4) (va_cwS 1 hts gX1_change_X5_round rfl rfl rfl nVX5_round ⟨Nat.le_of_ble_eq_true rfl, Nat.le_of_ble_eq_true rfl⟩) rfl hl.1 rfl (Nat.le_of_ble_eq_true rfl) dX1_change_45 ⟨Nat.le_of_ble_eq_true rfl, Nat.le_of_ble_eq_true rfl⟩ (fun H locs hP hS => ?_)
  exact kX1_change_48 C0 hK hJ hc0 hP hS (lv_sub hl [] rfl) hp
def sX1_change_38 (c0 : Nat) (x1 : Int32) (sx0 : Int32) (σ : TS) : Option (Int32 × TS) := sX1_change_39 c0 x1 sx0 σ
set_option maxHeartbeats 4000000 in
set_option maxRecDepth 100000 in
theorem kX1_change_38 {r : Int32} {u : TS} (C0 : gC RX1 cX1_change 5 none wsX1_change p s m args meth c) (hK : va_K D vwCl (tyL cy) s) (hJ : gJ 78 q) {H : Heap} {locs : List Loc} {σ : TS} {c0 : Nat} {x1 : Int32} {sx0 : Int32} (hc0 : c0 < 4) (hP : va_P D vwCl (gS 78 q (TX cy q) σ) H) (hS : va_S (gA 78 q) s.heap H locs) {ls : Array Slot} (hl : lv_has ls 5 [(0, .ref (q (15+6*c0))), (1, .int x1)]) (hp : sX1_change_38 c0 x1 sx0 σ = some (r, u)) : W p l e rmX1_change s m args below meth c H locs 0 0 (MQ below (gQv D vwCl (gS 78 q (TX cy q) u) (gA 78 q)) args s 0 0 (gA 78 q)) (F0 m 38 ls [.int sx0]) := by
  obtain ⟨hx, hb, hr, hml, hown, hts, hlocks⟩ := id C0
  unfold sX1_change_38 at hp
  refine lv_istore_n (lv' := [(3, .int sx0), (0, .ref (q (15+6*c0))), (1, .int x1)]) hx hb dX1_change_38 rfl hl (by decide) rfl (fun ls hl => ?_)
  exact kX1_change_39 C0 hK hJ hc0 hP hS (lv_sub hl [1, 2, 0] rfl) hp
def sX1_change_0 (c0 : Nat) (x1 : Int32) (x2 : Int32) (σ : TS) : Option (Int32 × TS) := (if x1 = (σ (15+6*c0) 5) then (if (σ (15+6*c0) 10) = 0 then sX1_change_38 c0 x1 (x2 &&& ((((1 : Int32)) <<< ((σ (15+6*c0) 9) &&& 31)) ^^^ ((-1 : Int32)))) σ else sX1_change_38 c0 x1 (x2 ||| (((1 : Int32)) <<< ((σ (15+6*c0) 9) &&& 31))) σ) else sX1_change_39 c0 x1 x2 σ)
set_option maxHeartbeats 4000000 in
set_option maxRecDepth 100000 in
theorem kX1_change_0 {r : Int32} {u : TS} (C0 : gC RX1 cX1_change 5 none wsX1_change p s m args meth c) (hK : va_K D vwCl (tyL cy) s) (hJ : gJ 78 q) {H : Heap} {locs : List Loc} {σ : TS} {c0 : Nat} {x1 : Int32} {x2 : Int32} (hc0 : c0 < 4) (hP : va_P D vwCl (gS 78 q (TX cy q) σ) H) (hS : va_S (gA 78 q) s.heap H locs) {ls : Array Slot} (hl : lv_has ls 5 [(0, .ref (q (15+6*c0))), (1, .int x1), (2, .int x2)]) (hp : sX1_change_0 c0 x1 x2 σ = some (r, u)) : W p l e rmX1_change s m args below meth c H locs 0 0 (MQ below (gQv D vwCl (gS 78 q (TX cy q) u) (gA 78 q)) args s 0 0 (gA 78 q)) (F0 m 0 ls []) := by
  obtain ⟨hx, hb, hr, hml, hown, hts, hlocks⟩ := id C0
  unfold sX1_change_0 at hp
  refine lv_iload_n hx hb dX1_change_0 rfl (lv_at hl 2 rfl) ?_
  refine lv_istore_n (lv' := [(3, .int x2), (0, .ref (q (15+6*c0))), (1, .int x1), (2, .int x2)]) hx hb dX1_change_1 rfl hl (by decide) rfl (fun ls hl => ?_)
  refine lv_iload_n hx hb dX1_change_2 rfl (lv_at hl 2 rfl) ?_
  refine lv_aload_n hx hb dX1_change_3 rfl (lv_at hl 1 rfl) ?_
  refine g_get (v := .int (σ (15+6*c0) 5)) hx hb hts miX1_change_X1 hown hK hP (kk_Comp hc0) (ce_Comp hc0) rfl 5 (by decide) mwX1_change_1 rfl dX1_change_4 ?_
  refine lv_icmp_ne (tgt := 39) hx hb dX1_change_7 (by decide) (fun hcd5 => ?_) (fun hcd5 => ?_)
  · have hp := o_f hp hcd5
    exact kX1_change_39 C0 hK hJ hc0 hP hS (lv_sub hl [1, 2, 0] rfl) hp
  · have hp := o_t hp hcd5
    refine lv_iconst (v := (1 : Int32)) hx hb dX1_change_10 (by decide) ?_
    refine lv_aload_n hx hb dX1_change_11 rfl (lv_at hl 1 rfl) ?_
    refine g_get (v := .int (σ (15+6*c0) 9)) hx hb hts miX1_change_X1 hown hK hP (kk_Comp hc0) (ce_Comp hc0) rfl 9 (by decide) mwX1_change_2 rfl dX1_change_12 ?_
    refine lv_ishl hx hb dX1_change_15 ?_
    refine lv_istore (lv' := [(4, .int (((1 : Int32)) <<< ((σ (15+6*c0) 9) &&& 31))), (3, .int x2), (0, .ref (q (15+6*c0))), (1, .int x1), (2, .int x2)]) hx hb dX1_change_16 hl (by decide) rfl (fun ls hl => ?_)
    refine lv_aload_n hx hb dX1_change_18 rfl (lv_at hl 2 rfl) ?_
    refine g_get (v := .int (σ (15+6*c0) 10)) hx hb hts miX1_change_X1 hown hK hP (kk_Comp hc0) (ce_Comp hc0) rfl 10 (by decide) mwX1_change_3 rfl dX1_change_19 ?_
    refine lv_if_eq (tgt := 32) hx hb dX1_change_22 (by decide) (fun hcd6 => ?_) (fun hcd6 => ?_)
    · have hp := o_t hp hcd6
      refine lv_iload_n hx hb dX1_change_32 rfl (lv_at hl 4 rfl) ?_
      refine lv_iload hx hb dX1_change_33 (lv_at hl 0 rfl) ?_
      refine lv_iconst (v := (-1 : Int32)) hx hb dX1_change_35 (by decide) ?_
      refine lv_ixor hx hb dX1_change_36 ?_
      refine lv_iand hx hb dX1_change_37 ?_
      exact kX1_change_38 C0 hK hJ hc0 hP hS (lv_sub hl [2, 3] rfl) hp
    · have hp := o_f hp hcd6
      refine lv_iload_n hx hb dX1_change_25 rfl (lv_at hl 4 rfl) ?_
      refine lv_iload hx hb dX1_change_26 (lv_at hl 0 rfl) ?_
      refine lv_ior hx hb dX1_change_28 ?_
      refine lv_goto (tgt := 38) hx hb dX1_change_29 (by decide) ?_
      exact kX1_change_38 C0 hK hJ hc0 hP hS (lv_sub hl [2, 3] rfl) hp
def sX1_change (c0 : Nat) (x1 : Int32) (x2 : Int32) (σ : TS) : Option (Int32 × TS) := sX1_change_0 c0 x1 x2 σ
theorem nVX1_change : yX1_change.cls = RX1 ∧ yX1_change.cls ≠ "java/lang/invoke/MethodHandle" ∧ yX1_change.cls ≠ "java/lang/invoke/VarHandle" ∧ (parseMethodDescriptor yX1_change.desc).map (fun d => d.parameters.length) = some 2 := by decide +kernel
set_option maxHeartbeats 4000000 in
set_option maxRecDepth 100000 in
theorem mX1_change (l : Launch) (hJ : gJ 78 q) {c0 : Nat} {x1 : Int32} {x2 : Int32} (hc0 : c0 < 4) {σ : TS} {r : Int32} {u : TS} (hp : sX1_change c0 x1 x2 σ = some (r, u)) : Met l yX1_change wsX1_change rmX1_change (va_Pc [.ref (q (15+6*c0)), .int x1, .int x2] (gPre D vwCl (tyL cy) (gS 78 q (TX cy q) σ))) (gQv D vwCl (gS 78 q (TX cy q) u) (gA 78 q)) 0 0 (gA 78 q) := by
  refine Met.ofW (cc := cX1_change) (maxL := 5) (ret := none) (by decide +kernel) rfl ?_
  intro p e s m args below meth c s₁ B hml hv
  obtain ⟨rfl, hP, hK⟩ := hv
  have hl := lv_entry ([.ref (q (15+6*c0)), .int x1, .int x2]) (n := 5) (Nat.le_of_ble_eq_true rfl)
  rw [lg_entry_eq]
  generalize (lg_sl ([.ref (q (15+6*c0)), .int x1, .int x2]) ++ List.replicate (5 - (lg_sl ([.ref (q (15+6*c0)), .int x1, .int x2])).length) Slot.unset).toArray = ls at hl ⊢
  have hl : lv_has ls 5 [(0, .ref (q (15+6*c0))), (1, .int x1), (2, .int x2)] := hl
  exact kX1_change_0 ⟨B.exec, B.bytes, B.returns, hml, findClass_of_methodNamed B.named, atoms_spec (ws := wsX1_change) B.pre, B.notSynchronized⟩ hK hJ hc0 hP va_S.rf hl hp
theorem miX1_begin_X1 : ∀ w ∈ u_ws RX1 TX1 14, w ∈ wsX1_begin := by decide +kernel
theorem mwX1_begin_0 : Cond.fieldLink RX1 51 "Triplane$Computer" "next" "I" ∈ wsX1_begin := by decide +kernel
abbrev rmX1_begin : Room := { frames := 2, cells := 0, slots := 0, locals := 44 }
def sX1_begin_18 (K7 : Nat → Int32 → TS → Option (Int32 × TS)) (c0 : Nat) (x1 : Int32) (σ : TS) : Option (Int32 × TS) := K7 c0 (x1 + (1 : Int32)) σ
set_option maxHeartbeats 4000000 in
set_option maxRecDepth 100000 in
theorem kX1_begin_18 {r : Int32} {u : TS} {K7 : Nat → Int32 → TS → Option (Int32 × TS)} (C0 : gC RX1 cX1_begin 2 none wsX1_begin p s m args meth c) (hK : va_K D vwCl (tyL cy) s) (hJ : gJ 78 q) (kh7 : ∀ (H : Heap) (locs : List Loc) (σ : TS) (c0 : Nat) (x1 : Int32) (hc0 : c0 < 4) (hP : va_P D vwCl (gS 78 q (TX cy q) σ) H) (hS : va_S (gA 78 q) s.heap H locs) (ls : Array Slot) (hl : lv_has ls 2 [(0, .ref (q (15+6*c0))), (1, .int x1)]) (hp : K7 c0 x1 σ = some (r, u)), W p l e rmX1_begin s m args below meth c H locs 0 0 (MQ below (gQv D vwCl (gS 78 q (TX cy q) u) (gA 78 q)) args s 0 0 (gA 78 q)) (F0 m 7 ls [])) {H : Heap} {locs : List Loc} {σ : TS} {c0 : Nat} {x1 : Int32} (hc0 : c0 < 4) (hP : va_P D vwCl (gS 78 q (TX cy q) σ) H) (hS : va_S (gA 78 q) s.heap H locs) {ls : Array Slot} (hl : lv_has ls 2 [(0, .ref (q (15+6*c0))), (1, .int x1)]) (hp : sX1_begin_18 K7 c0 x1 σ = some (r, u)) : W p l e rmX1_begin s m args below meth c H locs 0 0 (MQ below (gQv D vwCl (gS 78 q (TX cy q) u) (gA 78 q)) args s 0 0 (gA 78 q)) (F0 m 18 ls []) := by
  obtain ⟨hx, hb, hr, hml, hown, hts, hlocks⟩ := id C0
  unfold sX1_begin_18 at hp
  refine lv_iinc (v := x1 + (1 : Int32)) (lv' := [(1, .int (x1 + (1 : Int32))), (0, .ref (q (15+6*c0)))]) hx hb dX1_begin_18 hl (k := 1) rfl rfl (by decide) rfl (fun ls hl => ?_)
  refine lv_goto (tgt := 7) hx hb dX1_begin_21 (by decide) ?_
  exact kh7 _ _ _ _ _ hc0 hP hS _ (lv_sub hl [1, 0] rfl) hp
def sX1_begin_7 : Nat → Nat → Int32 → TS → Option (Int32 × TS)
  | 0, _, _, _ => none
  | n + 1, c0, x1, σ => (if ((4 : Int32)) ≤ x1 then some (0, σ) else ((sX1_change c0 x1 ((0 : Int32)) σ).bind (fun z => sX1_begin_18 (sX1_begin_7 n) c0 x1 z.2)))
set_option maxHeartbeats 4000000 in
set_option maxRecDepth 100000 in
theorem kX1_begin_7 {r : Int32} {u : TS} (C0 : gC RX1 cX1_begin 2 none wsX1_begin p s m args meth c) (hK : va_K D vwCl (tyL cy) s) (hJ : gJ 78 q) : ∀ (n : Nat) (H : Heap) (locs : List Loc) (σ : TS) (c0 : Nat) (x1 : Int32) (hc0 : c0 < 4) (hP : va_P D vwCl (gS 78 q (TX cy q) σ) H) (hS : va_S (gA 78 q) s.heap H locs) (ls : Array Slot) (hl : lv_has ls 2 [(0, .ref (q (15+6*c0))), (1, .int x1)]) (hp : sX1_begin_7 n c0 x1 σ = some (r, u)), W p l e rmX1_begin s m args below meth c H locs 0 0 (MQ below (gQv D vwCl (gS 78 q (TX cy q) u) (gA 78 q)) args s 0 0 (gA 78 q)) (F0 m 7 ls []) := by
  obtain ⟨hx, hb, hr, hml, hown, hts, hlocks⟩ := id C0
  intro n
  induction n with
  | zero =>
    intro H locs σ c0 x1 hc0 hP hS ls hl hp
    cases hp
  | succ n ih =>
    intro H locs σ c0 x1 hc0 hP hS ls hl hp
    unfold sX1_begin_7 at hp
    refine lv_iload_n hx hb dX1_begin_7 rfl (lv_at hl 1 rfl) ?_
    refine lv_iconst (v := (4 : Int32)) hx hb dX1_begin_8 (by decide) ?_
    refine lv_icmp_ge (tgt := 24) hx hb dX1_begin_9 (by decide) (fun hcd1 => ?_) (fun hcd1 => ?_)
    · have hp := o_t hp hcd1
      obtain ⟨rfl, rfl⟩ := o_r hp
      exact W.vret hx hb hr (fun t ht hW => ⟨⟨(), rfl, trivial, by subst ht; exact hP⟩, hS.F ht⟩) hS.2.2 dX1_begin_24
    · have hp := o_f hp hcd1
      refine lv_aload_n hx hb dX1_begin_12 rfl (lv_at hl 0 rfl) ?_
      refine lv_iload_n hx hb dX1_begin_13 rfl (lv_at hl 1 rfl) ?_
      refine lv_iconst (v := (0 : Int32)) hx hb dX1_begin_14 (by decide) ?_
      obtain ⟨⟨r2, u3⟩, hq4, hp⟩ := o_b hp
      refine g_cVv (As := [.int x1, .int ((0 : Int32))]) (rest := []) hx hb hml hown hts hK hP hS (mX1_change l hJ hc0 hq4) (cwV 2 hts gX1_begin_X1_change rfl rfl rfl nVX1_change ⟨Nat.le_of_ble_eq_true rfl, Nat.le_of_ble_eq_true rfl⟩) (g_recv hK hP (kk_Comp hc0) (ce_Comp hc0) rfl) rfl hl.1 rfl (Nat.le_of_ble_eq_true rfl) dX1_begin_15 ⟨Nat.le_of_ble_eq_true rfl, Nat.le_of_ble_eq_true rfl⟩ (fun H locs hP hS => ?_)
      exact kX1_begin_18 C0 hK hJ ih hc0 hP hS hl hp
def sX1_begin_0 (c0 : Nat) (σ : TS) : Option (Int32 × TS) := sX1_begin_7 5 c0 ((0 : Int32)) (st2 σ (15+6*c0) 11 ((0 : Int32)))
set_option maxHeartbeats 4000000 in
set_option maxRecDepth 100000 in
theorem kX1_begin_0 {r : Int32} {u : TS} (C0 : gC RX1 cX1_begin 2 none wsX1_begin p s m args meth c) (hK : va_K D vwCl (tyL cy) s) (hJ : gJ 78 q) {H : Heap} {locs : List Loc} {σ : TS} {c0 : Nat} (hc0 : c0 < 4) (hP : va_P D vwCl (gS 78 q (TX cy q) σ) H) (hS : va_S (gA 78 q) s.heap H locs) {ls : Array Slot} (hl : lv_has ls 2 [(0, .ref (q (15+6*c0)))]) (hp : sX1_begin_0 c0 σ = some (r, u)) : W p l e rmX1_begin s m args below meth c H locs 0 0 (MQ below (gQv D vwCl (gS 78 q (TX cy q) u) (gA 78 q)) args s 0 0 (gA 78 q)) (F0 m 0 ls []) := by
  obtain ⟨hx, hb, hr, hml, hown, hts, hlocks⟩ := id C0
  unfold sX1_begin_0 at hp
  refine lv_aload_n hx hb dX1_begin_0 rfl (lv_at hl 0 rfl) ?_
  refine lv_iconst (v := (0 : Int32)) hx hb dX1_begin_1 (by decide) ?_
  refine g_put (v := (0 : Int32)) hx hb hts miX1_begin_X1 tyX1 tyX1_ok nmX1 hown hK hJ hP hS (kk_Comp hc0) (ce_Comp hc0) rfl 11 (by decide) mwX1_begin_0 rfl rfl rfl (Nat.le_of_ble_eq_true rfl) rfl dX1_begin_2 (fun H locs hP hS => ?_)
  refine lv_iconst (v := (0 : Int32)) hx hb dX1_begin_5 (by decide) ?_
  refine lv_istore_n (lv' := [(1, .int ((0 : Int32))), (0, .ref (q (15+6*c0)))]) hx hb dX1_begin_6 rfl hl (by decide) rfl (fun ls hl => ?_)
  exact kX1_begin_7 C0 hK hJ _ _ _ _ _ _ hc0 hP hS _ (lv_sub hl [1, 0] rfl) hp
def sX1_begin (c0 : Nat) (σ : TS) : Option (Int32 × TS) := sX1_begin_0 c0 σ
theorem nVX1_begin : yX1_begin.cls = RX1 ∧ yX1_begin.cls ≠ "java/lang/invoke/MethodHandle" ∧ yX1_begin.cls ≠ "java/lang/invoke/VarHandle" ∧ (parseMethodDescriptor yX1_begin.desc).map (fun d => d.parameters.length) = some 0 := by decide +kernel
set_option maxHeartbeats 4000000 in
set_option maxRecDepth 100000 in
theorem mX1_begin (l : Launch) (hJ : gJ 78 q) {c0 : Nat} (hc0 : c0 < 4) {σ : TS} {r : Int32} {u : TS} (hp : sX1_begin c0 σ = some (r, u)) : Met l yX1_begin wsX1_begin rmX1_begin (va_Pc [.ref (q (15+6*c0))] (gPre D vwCl (tyL cy) (gS 78 q (TX cy q) σ))) (gQv D vwCl (gS 78 q (TX cy q) u) (gA 78 q)) 0 0 (gA 78 q) := by
  refine Met.ofW (cc := cX1_begin) (maxL := 2) (ret := none) (by decide +kernel) rfl ?_
  intro p e s m args below meth c s₁ B hml hv
  obtain ⟨rfl, hP, hK⟩ := hv
  have hl := lv_entry ([.ref (q (15+6*c0))]) (n := 2) (Nat.le_of_ble_eq_true rfl)
  rw [lg_entry_eq]
  generalize (lg_sl ([.ref (q (15+6*c0))]) ++ List.replicate (2 - (lg_sl ([.ref (q (15+6*c0))])).length) Slot.unset).toArray = ls at hl ⊢
  have hl : lv_has ls 2 [(0, .ref (q (15+6*c0)))] := hl
  exact kX1_begin_0 ⟨B.exec, B.bytes, B.returns, hml, findClass_of_methodNamed B.named, atoms_spec (ws := wsX1_begin) B.pre, B.notSynchronized⟩ hK hJ hc0 hP va_S.rf hl hp
theorem miX1_hasLeft_X1 : ∀ w ∈ u_ws RX1 TX1 14, w ∈ wsX1_hasLeft := by decide +kernel
theorem miX1_hasLeft_X6 : ∀ w ∈ u_ws RX6 TX6 5, w ∈ wsX1_hasLeft := by decide +kernel
theorem mwX1_hasLeft_0 : Cond.fieldLink RX1 51 "Triplane$Computer" "next" "I" ∈ wsX1_hasLeft := by decide +kernel
theorem mwX1_hasLeft_1 : Cond.fieldLink RX1 68 "Triplane$Program" "size" "I" ∈ wsX1_hasLeft := by decide +kernel
abbrev rmX1_hasLeft : Room := { frames := 0, cells := 0, slots := 0, locals := 0 }
def sX1_hasLeft_16 (sx0 : Int32) (σ : TS) : Option (Int32 × TS) := (if zok sx0 = true then some (sx0, σ) else none)
set_option maxHeartbeats 4000000 in
set_option maxRecDepth 100000 in
theorem kX1_hasLeft_16 {r : Int32} {u : TS} (C0 : gC RX1 cX1_hasLeft 2 ((some .boolean)) wsX1_hasLeft p s m args meth c) (hK : va_K D vwCl (tyL cy) s) (hJ : gJ 78 q) {H : Heap} {locs : List Loc} {σ : TS} {sx0 : Int32} (hP : va_P D vwCl (gS 78 q (TX cy q) σ) H) (hS : va_S (gA 78 q) s.heap H locs) {ls : Array Slot} (hl : lv_has ls 2 []) (hp : sX1_hasLeft_16 sx0 σ = some (r, u)) : W p l e rmX1_hasLeft s m args below meth c H locs 0 0 (MQ below (gQi D vwCl r (gS 78 q (TX cy q) u) (gA 78 q)) args s 0 0 (gA 78 q)) (F0 m 16 ls [.int sx0]) := by
  obtain ⟨hx, hb, hr, hml, hown, hts, hlocks⟩ := id C0
  unfold sX1_hasLeft_16 at hp
  obtain ⟨hz1, hp⟩ := o_chk hp
  obtain ⟨rfl, rfl⟩ := o_r hp
  exact W.zret (v := sx0) hx hb hr (zok_n hz1).1 (fun t ht hW => ⟨⟨sx0, (), rfl, rfl, by subst ht; exact hP⟩, hS.F ht⟩) hS.2.2 dX1_hasLeft_16
def sX1_hasLeft_0 (c0 : Nat) (c1 : Nat) (σ : TS) : Option (Int32 × TS) := (if (σ (39+4*c1) 3) ≤ (σ (15+6*c0) 11) then sX1_hasLeft_16 ((0 : Int32)) σ else sX1_hasLeft_16 ((1 : Int32)) σ)
set_option maxHeartbeats 4000000 in
set_option maxRecDepth 100000 in
theorem kX1_hasLeft_0 {r : Int32} {u : TS} (C0 : gC RX1 cX1_hasLeft 2 ((some .boolean)) wsX1_hasLeft p s m args meth c) (hK : va_K D vwCl (tyL cy) s) (hJ : gJ 78 q) {H : Heap} {locs : List Loc} {σ : TS} {c0 : Nat} {c1 : Nat} (hc0 : c0 < 4) (hc1 : c1 < 3) (hP : va_P D vwCl (gS 78 q (TX cy q) σ) H) (hS : va_S (gA 78 q) s.heap H locs) {ls : Array Slot} (hl : lv_has ls 2 [(0, .ref (q (15+6*c0))), (1, .ref (q (39+4*c1)))]) (hp : sX1_hasLeft_0 c0 c1 σ = some (r, u)) : W p l e rmX1_hasLeft s m args below meth c H locs 0 0 (MQ below (gQi D vwCl r (gS 78 q (TX cy q) u) (gA 78 q)) args s 0 0 (gA 78 q)) (F0 m 0 ls []) := by
  obtain ⟨hx, hb, hr, hml, hown, hts, hlocks⟩ := id C0
  unfold sX1_hasLeft_0 at hp
  refine lv_aload_n hx hb dX1_hasLeft_0 rfl (lv_at hl 0 rfl) ?_
  refine g_get (v := .int (σ (15+6*c0) 11)) hx hb hts miX1_hasLeft_X1 hown hK hP (kk_Comp hc0) (ce_Comp hc0) rfl 11 (by decide) mwX1_hasLeft_0 rfl dX1_hasLeft_1 ?_
  refine lv_aload_n hx hb dX1_hasLeft_4 rfl (lv_at hl 1 rfl) ?_
  refine g_get (v := .int (σ (39+4*c1) 3)) hx hb hts miX1_hasLeft_X6 hown hK hP (kk_Prog hc1) (ce_Prog hc1) rfl 3 (by decide) mwX1_hasLeft_1 rfl dX1_hasLeft_5 ?_
  refine lv_icmp_ge (tgt := 15) hx hb dX1_hasLeft_8 (by decide) (fun hcd2 => ?_) (fun hcd2 => ?_)
  · have hp := o_t hp hcd2
    refine lv_iconst (v := (0 : Int32)) hx hb dX1_hasLeft_15 (by decide) ?_
    exact kX1_hasLeft_16 C0 hK hJ  hP hS (lv_sub hl [] rfl) hp
  · have hp := o_f hp hcd2
    refine lv_iconst (v := (1 : Int32)) hx hb dX1_hasLeft_11 (by decide) ?_
    refine lv_goto (tgt := 16) hx hb dX1_hasLeft_12 (by decide) ?_
    exact kX1_hasLeft_16 C0 hK hJ  hP hS (lv_sub hl [] rfl) hp
def sX1_hasLeft (c0 : Nat) (c1 : Nat) (σ : TS) : Option (Int32 × TS) := sX1_hasLeft_0 c0 c1 σ
theorem nVX1_hasLeft : yX1_hasLeft.cls = RX1 ∧ yX1_hasLeft.cls ≠ "java/lang/invoke/MethodHandle" ∧ yX1_hasLeft.cls ≠ "java/lang/invoke/VarHandle" ∧ (parseMethodDescriptor yX1_hasLeft.desc).map (fun d => d.parameters.length) = some 1 := by decide +kernel
set_option maxHeartbeats 4000000 in
set_option maxRecDepth 100000 in
theorem mX1_hasLeft (l : Launch) (hJ : gJ 78 q) {c0 : Nat} {c1 : Nat} (hc0 : c0 < 4) (hc1 : c1 < 3) {σ : TS} {r : Int32} {u : TS} (hp : sX1_hasLeft c0 c1 σ = some (r, u)) : Met l yX1_hasLeft wsX1_hasLeft rmX1_hasLeft (va_Pc [.ref (q (15+6*c0)), .ref (q (39+4*c1))] (gPre D vwCl (tyL cy) (gS 78 q (TX cy q) σ))) (gQi D vwCl r (gS 78 q (TX cy q) u) (gA 78 q)) 0 0 (gA 78 q) := by
  refine Met.ofW (cc := cX1_hasLeft) (maxL := 2) (ret := (some .boolean)) (by decide +kernel) rfl ?_
  intro p e s m args below meth c s₁ B hml hv
  obtain ⟨rfl, hP, hK⟩ := hv
  have hl := lv_entry ([.ref (q (15+6*c0)), .ref (q (39+4*c1))]) (n := 2) (Nat.le_of_ble_eq_true rfl)
  rw [lg_entry_eq]
  generalize (lg_sl ([.ref (q (15+6*c0)), .ref (q (39+4*c1))]) ++ List.replicate (2 - (lg_sl ([.ref (q (15+6*c0)), .ref (q (39+4*c1))])).length) Slot.unset).toArray = ls at hl ⊢
  have hl : lv_has ls 2 [(0, .ref (q (15+6*c0))), (1, .ref (q (39+4*c1)))] := hl
  exact kX1_hasLeft_0 ⟨B.exec, B.bytes, B.returns, hml, findClass_of_methodNamed B.named, atoms_spec (ws := wsX1_hasLeft) B.pre, B.notSynchronized⟩ hK hJ hc0 hc1 hP va_S.rf hl hp
theorem mwJ6_bitCount_0f7a4_0 : Cond.constant RJ6 265 (1431655765) ∈ wsJ6_bitCount_0f7a4 := by decide +kernel
theorem mwJ6_bitCount_0f7a4_1 : Cond.constant RJ6 266 (858993459) ∈ wsJ6_bitCount_0f7a4 := by decide +kernel
theorem mwJ6_bitCount_0f7a4_2 : Cond.constant RJ6 267 (252645135) ∈ wsJ6_bitCount_0f7a4 := by decide +kernel
abbrev rmJ6_bitCount_0f7a4 : Room := { frames := 0, cells := 0, slots := 0, locals := 0 }
def sJ6_bitCount_0f7a4_0 (x0 : Int32) (σ : TS) : Option (Int32 × TS) := some ((((((((x0 - (((x0.toUInt32 >>> (((1 : Int32)).toUInt32 &&& Int32.toUInt32 31)).toInt32) &&& ((1431655765 : Int32)))) &&& ((858993459 : Int32))) + ((((x0 - (((x0.toUInt32 >>> (((1 : Int32)).toUInt32 &&& Int32.toUInt32 31)).toInt32) &&& ((1431655765 : Int32)))).toUInt32 >>> (((2 : Int32)).toUInt32 &&& Int32.toUInt32 31)).toInt32) &&& ((858993459 : Int32)))) + (((((x0 - (((x0.toUInt32 >>> (((1 : Int32)).toUInt32 &&& Int32.toUInt32 31)).toInt32) &&& ((1431655765 : Int32)))) &&& ((858993459 : Int32))) + ((((x0 - (((x0.toUInt32 >>> (((1 : Int32)).toUInt32 &&& Int32.toUInt32 31)).toInt32) &&& ((1431655765 : Int32)))).toUInt32 >>> (((2 : Int32)).toUInt32 &&& Int32.toUInt32 31)).toInt32) &&& ((858993459 : Int32)))).toUInt32 >>> (((4 : Int32)).toUInt32 &&& Int32.toUInt32 31)).toInt32)) &&& ((252645135 : Int32))) + (((((((x0 - (((x0.toUInt32 >>> (((1 : Int32)).toUInt32 &&& Int32.toUInt32 31)).toInt32) &&& ((1431655765 : Int32)))) &&& ((858993459 : Int32))) + ((((x0 - (((x0.toUInt32 >>> (((1 : Int32)).toUInt32 &&& Int32.toUInt32 31)).toInt32) &&& ((1431655765 : Int32)))).toUInt32 >>> (((2 : Int32)).toUInt32 &&& Int32.toUInt32 31)).toInt32) &&& ((858993459 : Int32)))) + (((((x0 - (((x0.toUInt32 >>> (((1 : Int32)).toUInt32 &&& Int32.toUInt32 31)).toInt32) &&& ((1431655765 : Int32)))) &&& ((858993459 : Int32))) + ((((x0 - (((x0.toUInt32 >>> (((1 : Int32)).toUInt32 &&& Int32.toUInt32 31)).toInt32) &&& ((1431655765 : Int32)))).toUInt32 >>> (((2 : Int32)).toUInt32 &&& Int32.toUInt32 31)).toInt32) &&& ((858993459 : Int32)))).toUInt32 >>> (((4 : Int32)).toUInt32 &&& Int32.toUInt32 31)).toInt32)) &&& ((252645135 : Int32))).toUInt32 >>> (((8 : Int32)).toUInt32 &&& Int32.toUInt32 31)).toInt32)) + ((((((((x0 - (((x0.toUInt32 >>> (((1 : Int32)).toUInt32 &&& Int32.toUInt32 31)).toInt32) &&& ((1431655765 : Int32)))) &&& ((858993459 : Int32))) + ((((x0 - (((x0.toUInt32 >>> (((1 : Int32)).toUInt32 &&& Int32.toUInt32 31)).toInt32) &&& ((1431655765 : Int32)))).toUInt32 >>> (((2 : Int32)).toUInt32 &&& Int32.toUInt32 31)).toInt32) &&& ((858993459 : Int32)))) + (((((x0 - (((x0.toUInt32 >>> (((1 : Int32)).toUInt32 &&& Int32.toUInt32 31)).toInt32) &&& ((1431655765 : Int32)))) &&& ((858993459 : Int32))) + ((((x0 - (((x0.toUInt32 >>> (((1 : Int32)).toUInt32 &&& Int32.toUInt32 31)).toInt32) &&& ((1431655765 : Int32)))).toUInt32 >>> (((2 : Int32)).toUInt32 &&& Int32.toUInt32 31)).toInt32) &&& ((858993459 : Int32)))).toUInt32 >>> (((4 : Int32)).toUInt32 &&& Int32.toUInt32 31)).toInt32)) &&& ((252645135 : Int32))) + (((((((x0 - (((x0.toUInt32 >>> (((1 : Int32)).toUInt32 &&& Int32.toUInt32 31)).toInt32) &&& ((1431655765 : Int32)))) &&& ((858993459 : Int32))) + ((((x0 - (((x0.toUInt32 >>> (((1 : Int32)).toUInt32 &&& Int32.toUInt32 31)).toInt32) &&& ((1431655765 : Int32)))).toUInt32 >>> (((2 : Int32)).toUInt32 &&& Int32.toUInt32 31)).toInt32) &&& ((858993459 : Int32)))) + (((((x0 - (((x0.toUInt32 >>> (((1 : Int32)).toUInt32 &&& Int32.toUInt32 31)).toInt32) &&& ((1431655765 : Int32)))) &&& ((858993459 : Int32))) + ((((x0 - (((x0.toUInt32 >>> (((1 : Int32)).toUInt32 &&& Int32.toUInt32 31)).toInt32) &&& ((1431655765 : Int32)))).toUInt32 >>> (((2 : Int32)).toUInt32 &&& Int32.toUInt32 31)).toInt32) &&& ((858993459 : Int32)))).toUInt32 >>> (((4 : Int32)).toUInt32 &&& Int32.toUInt32 31)).toInt32)) &&& ((252645135 : Int32))).toUInt32 >>> (((8 : Int32)).toUInt32 &&& Int32.toUInt32 31)).toInt32)).toUInt32 >>> (((16 : Int32)).toUInt32 &&& Int32.toUInt32 31)).toInt32)) &&& ((63 : Int32)), σ)
set_option maxHeartbeats 4000000 in
set_option maxRecDepth 100000 in
theorem kJ6_bitCount_0f7a4_0 {r : Int32} {u : TS} (C0 : gC RJ6 cJ6_bitCount_0f7a4 1 ((some .int)) wsJ6_bitCount_0f7a4 p s m args meth c) (hK : va_K D vwCl (tyL cy) s) (hJ : gJ 78 q) {H : Heap} {locs : List Loc} {σ : TS} {x0 : Int32} (hP : va_P D vwCl (gS 78 q (TX cy q) σ) H) (hS : va_S (gA 78 q) s.heap H locs) {ls : Array Slot} (hl : lv_has ls 1 [(0, .int x0)]) (hp : sJ6_bitCount_0f7a4_0 x0 σ = some (r, u)) : W p l e rmJ6_bitCount_0f7a4 s m args below meth c H locs 0 0 (MQ below (gQi D vwCl r (gS 78 q (TX cy q) u) (gA 78 q)) args s 0 0 (gA 78 q)) (F0 m 0 ls []) := by
  obtain ⟨hx, hb, hr, hml, hown, hts, hlocks⟩ := id C0
  unfold sJ6_bitCount_0f7a4_0 at hp
  refine lv_iload_n hx hb dJ6_bitCount_0f7a4_0 rfl (lv_at hl 0 rfl) ?_
  refine lv_iload_n hx hb dJ6_bitCount_0f7a4_1 rfl (lv_at hl 0 rfl) ?_
  refine lv_iconst (v := (1 : Int32)) hx hb dJ6_bitCount_0f7a4_2 (by decide) ?_
  refine lv_iushr hx hb dJ6_bitCount_0f7a4_3 rfl ?_
  refine lv_ldcw (v := (1431655765 : Int32)) hx hb hown (hts _ mwJ6_bitCount_0f7a4_0) dJ6_bitCount_0f7a4_4 ?_
  refine lv_iand hx hb dJ6_bitCount_0f7a4_7 ?_
  refine lv_isub hx hb dJ6_bitCount_0f7a4_8 ?_
  refine lv_istore_n (lv' := [(0, .int (x0 - (((x0.toUInt32 >>> (((1 : Int32)).toUInt32 &&& Int32.toUInt32 31)).toInt32) &&& ((1431655765 : Int32)))))]) hx hb dJ6_bitCount_0f7a4_9 rfl hl (by decide) rfl (fun ls hl => ?_)
  refine lv_iload_n hx hb dJ6_bitCount_0f7a4_10 rfl (lv_at hl 0 rfl) ?_
  refine lv_ldcw (v := (858993459 : Int32)) hx hb hown (hts _ mwJ6_bitCount_0f7a4_1) dJ6_bitCount_0f7a4_11 ?_
  refine lv_iand hx hb dJ6_bitCount_0f7a4_14 ?_
  refine lv_iload_n hx hb dJ6_bitCount_0f7a4_15 rfl (lv_at hl 0 rfl) ?_
  refine lv_iconst (v := (2 : Int32)) hx hb dJ6_bitCount_0f7a4_16 (by decide) ?_
  refine lv_iushr hx hb dJ6_bitCount_0f7a4_17 rfl ?_
  refine lv_ldcw (v := (858993459 : Int32)) hx hb hown (hts _ mwJ6_bitCount_0f7a4_1) dJ6_bitCount_0f7a4_18 ?_
  refine lv_iand hx hb dJ6_bitCount_0f7a4_21 ?_
  refine lv_iadd hx hb dJ6_bitCount_0f7a4_22 ?_
  refine lv_istore_n (lv' := [(0, .int (((x0 - (((x0.toUInt32 >>> (((1 : Int32)).toUInt32 &&& Int32.toUInt32 31)).toInt32) &&& ((1431655765 : Int32)))) &&& ((858993459 : Int32))) + ((((x0 - (((x0.toUInt32 >>> (((1 : Int32)).toUInt32 &&& Int32.toUInt32 31)).toInt32) &&& ((1431655765 : Int32)))).toUInt32 >>> (((2 : Int32)).toUInt32 &&& Int32.toUInt32 31)).toInt32) &&& ((858993459 : Int32)))))]) hx hb dJ6_bitCount_0f7a4_23 rfl hl (by decide) rfl (fun ls hl => ?_)
  refine lv_iload_n hx hb dJ6_bitCount_0f7a4_24 rfl (lv_at hl 0 rfl) ?_
  refine lv_iload_n hx hb dJ6_bitCount_0f7a4_25 rfl (lv_at hl 0 rfl) ?_
  refine lv_iconst (v := (4 : Int32)) hx hb dJ6_bitCount_0f7a4_26 (by decide) ?_
  refine lv_iushr hx hb dJ6_bitCount_0f7a4_27 rfl ?_
  refine lv_iadd hx hb dJ6_bitCount_0f7a4_28 ?_
  refine lv_ldcw (v := (252645135 : Int32)) hx hb hown (hts _ mwJ6_bitCount_0f7a4_2) dJ6_bitCount_0f7a4_29 ?_
  refine lv_iand hx hb dJ6_bitCount_0f7a4_32 ?_
  refine lv_istore_n (lv' := [(0, .int (((((x0 - (((x0.toUInt32 >>> (((1 : Int32)).toUInt32 &&& Int32.toUInt32 31)).toInt32) &&& ((1431655765 : Int32)))) &&& ((858993459 : Int32))) + ((((x0 - (((x0.toUInt32 >>> (((1 : Int32)).toUInt32 &&& Int32.toUInt32 31)).toInt32) &&& ((1431655765 : Int32)))).toUInt32 >>> (((2 : Int32)).toUInt32 &&& Int32.toUInt32 31)).toInt32) &&& ((858993459 : Int32)))) + (((((x0 - (((x0.toUInt32 >>> (((1 : Int32)).toUInt32 &&& Int32.toUInt32 31)).toInt32) &&& ((1431655765 : Int32)))) &&& ((858993459 : Int32))) + ((((x0 - (((x0.toUInt32 >>> (((1 : Int32)).toUInt32 &&& Int32.toUInt32 31)).toInt32) &&& ((1431655765 : Int32)))).toUInt32 >>> (((2 : Int32)).toUInt32 &&& Int32.toUInt32 31)).toInt32) &&& ((858993459 : Int32)))).toUInt32 >>> (((4 : Int32)).toUInt32 &&& Int32.toUInt32 31)).toInt32)) &&& ((252645135 : Int32))))]) hx hb dJ6_bitCount_0f7a4_33 rfl hl (by decide) rfl (fun ls hl => ?_)
  refine lv_iload_n hx hb dJ6_bitCount_0f7a4_34 rfl (lv_at hl 0 rfl) ?_
  refine lv_iload_n hx hb dJ6_bitCount_0f7a4_35 rfl (lv_at hl 0 rfl) ?_
  refine lv_bipush (v := (8 : Int32)) hx hb dJ6_bitCount_0f7a4_36 (by decide) ?_
  refine lv_iushr hx hb dJ6_bitCount_0f7a4_38 rfl ?_
  refine lv_iadd hx hb dJ6_bitCount_0f7a4_39 ?_
  refine lv_istore_n (lv' := [(0, .int ((((((x0 - (((x0.toUInt32 >>> (((1 : Int32)).toUInt32 &&& Int32.toUInt32 31)).toInt32) &&& ((1431655765 : Int32)))) &&& ((858993459 : Int32))) + ((((x0 - (((x0.toUInt32 >>> (((1 : Int32)).toUInt32 &&& Int32.toUInt32 31)).toInt32) &&& ((1431655765 : Int32)))).toUInt32 >>> (((2 : Int32)).toUInt32 &&& Int32.toUInt32 31)).toInt32) &&& ((858993459 : Int32)))) + (((((x0 - (((x0.toUInt32 >>> (((1 : Int32)).toUInt32 &&& Int32.toUInt32 31)).toInt32) &&& ((1431655765 : Int32)))) &&& ((858993459 : Int32))) + ((((x0 - (((x0.toUInt32 >>> (((1 : Int32)).toUInt32 &&& Int32.toUInt32 31)).toInt32) &&& ((1431655765 : Int32)))).toUInt32 >>> (((2 : Int32)).toUInt32 &&& Int32.toUInt32 31)).toInt32) &&& ((858993459 : Int32)))).toUInt32 >>> (((4 : Int32)).toUInt32 &&& Int32.toUInt32 31)).toInt32)) &&& ((252645135 : Int32))) + (((((((x0 - (((x0.toUInt32 >>> (((1 : Int32)).toUInt32 &&& Int32.toUInt32 31)).toInt32) &&& ((1431655765 : Int32)))) &&& ((858993459 : Int32))) + ((((x0 - (((x0.toUInt32 >>> (((1 : Int32)).toUInt32 &&& Int32.toUInt32 31)).toInt32) &&& ((1431655765 : Int32)))).toUInt32 >>> (((2 : Int32)).toUInt32 &&& Int32.toUInt32 31)).toInt32) &&& ((858993459 : Int32)))) + (((((x0 - (((x0.toUInt32 >>> (((1 : Int32)).toUInt32 &&& Int32.toUInt32 31)).toInt32) &&& ((1431655765 : Int32)))) &&& ((858993459 : Int32))) + ((((x0 - (((x0.toUInt32 >>> (((1 : Int32)).toUInt32 &&& Int32.toUInt32 31)).toInt32) &&& ((1431655765 : Int32)))).toUInt32 >>> (((2 : Int32)).toUInt32 &&& Int32.toUInt32 31)).toInt32) &&& ((858993459 : Int32)))).toUInt32 >>> (((4 : Int32)).toUInt32 &&& Int32.toUInt32 31)).toInt32)) &&& ((252645135 : Int32))).toUInt32 >>> (((8 : Int32)).toUInt32 &&& Int32.toUInt32 31)).toInt32)))]) hx hb dJ6_bitCount_0f7a4_40 rfl hl (by decide) rfl (fun ls hl => ?_)
  refine lv_iload_n hx hb dJ6_bitCount_0f7a4_41 rfl (lv_at hl 0 rfl) ?_
  refine lv_iload_n hx hb dJ6_bitCount_0f7a4_42 rfl (lv_at hl 0 rfl) ?_
  refine lv_bipush (v := (16 : Int32)) hx hb dJ6_bitCount_0f7a4_43 (by decide) ?_
  refine lv_iushr hx hb dJ6_bitCount_0f7a4_45 rfl ?_
  refine lv_iadd hx hb dJ6_bitCount_0f7a4_46 ?_
  refine lv_istore_n (lv' := [(0, .int (((((((x0 - (((x0.toUInt32 >>> (((1 : Int32)).toUInt32 &&& Int32.toUInt32 31)).toInt32) &&& ((1431655765 : Int32)))) &&& ((858993459 : Int32))) + ((((x0 - (((x0.toUInt32 >>> (((1 : Int32)).toUInt32 &&& Int32.toUInt32 31)).toInt32) &&& ((1431655765 : Int32)))).toUInt32 >>> (((2 : Int32)).toUInt32 &&& Int32.toUInt32 31)).toInt32) &&& ((858993459 : Int32)))) + (((((x0 - (((x0.toUInt32 >>> (((1 : Int32)).toUInt32 &&& Int32.toUInt32 31)).toInt32) &&& ((1431655765 : Int32)))) &&& ((858993459 : Int32))) + ((((x0 - (((x0.toUInt32 >>> (((1 : Int32)).toUInt32 &&& Int32.toUInt32 31)).toInt32) &&& ((1431655765 : Int32)))).toUInt32 >>> (((2 : Int32)).toUInt32 &&& Int32.toUInt32 31)).toInt32) &&& ((858993459 : Int32)))).toUInt32 >>> (((4 : Int32)).toUInt32 &&& Int32.toUInt32 31)).toInt32)) &&& ((252645135 : Int32))) + (((((((x0 - (((x0.toUInt32 >>> (((1 : Int32)).toUInt32 &&& Int32.toUInt32 31)).toInt32) &&& ((1431655765 : Int32)))) &&& ((858993459 : Int32))) + ((((x0 - (((x0.toUInt32 >>> (((1 : Int32)).toUInt32 &&& Int32.toUInt32 31)).toInt32) &&& ((1431655765 : Int32)))).toUInt32 >>> (((2 : Int32)).toUInt32 &&& Int32.toUInt32 31)).toInt32) &&& ((858993459 : Int32)))) + (((((x0 - (((x0.toUInt32 >>> (((1 : Int32)).toUInt32 &&& Int32.toUInt32 31)).toInt32) &&& ((1431655765 : Int32)))) &&& ((858993459 : Int32))) + ((((x0 - (((x0.toUInt32 >>> (((1 : Int32)).toUInt32 &&& Int32.toUInt32 31)).toInt32) &&& ((1431655765 : Int32)))).toUInt32 >>> (((2 : Int32)).toUInt32 &&& Int32.toUInt32 31)).toInt32) &&& ((858993459 : Int32)))).toUInt32 >>> (((4 : Int32)).toUInt32 &&& Int32.toUInt32 31)).toInt32)) &&& ((252645135 : Int32))).toUInt32 >>> (((8 : Int32)).toUInt32 &&& Int32.toUInt32 31)).toInt32)) + ((((((((x0 - (((x0.toUInt32 >>> (((1 : Int32)).toUInt32 &&& Int32.toUInt32 31)).toInt32) &&& ((1431655765 : Int32)))) &&& ((858993459 : Int32))) + ((((x0 - (((x0.toUInt32 >>> (((1 : Int32)).toUInt32 &&& Int32.toUInt32 31)).toInt32) &&& ((1431655765 : Int32)))).toUInt32 >>> (((2 : Int32)).toUInt32 &&& Int32.toUInt32 31)).toInt32) &&& ((858993459 : Int32)))) + (((((x0 - (((x0.toUInt32 >>> (((1 : Int32)).toUInt32 &&& Int32.toUInt32 31)).toInt32) &&& ((1431655765 : Int32)))) &&& ((858993459 : Int32))) + ((((x0 - (((x0.toUInt32 >>> (((1 : Int32)).toUInt32 &&& Int32.toUInt32 31)).toInt32) &&& ((1431655765 : Int32)))).toUInt32 >>> (((2 : Int32)).toUInt32 &&& Int32.toUInt32 31)).toInt32) &&& ((858993459 : Int32)))).toUInt32 >>> (((4 : Int32)).toUInt32 &&& Int32.toUInt32 31)).toInt32)) &&& ((252645135 : Int32))) + (((((((x0 - (((x0.toUInt32 >>> (((1 : Int32)).toUInt32 &&& Int32.toUInt32 31)).toInt32) &&& ((1431655765 : Int32)))) &&& ((858993459 : Int32))) + ((((x0 - (((x0.toUInt32 >>> (((1 : Int32)).toUInt32 &&& Int32.toUInt32 31)).toInt32) &&& ((1431655765 : Int32)))).toUInt32 >>> (((2 : Int32)).toUInt32 &&& Int32.toUInt32 31)).toInt32) &&& ((858993459 : Int32)))) + (((((x0 - (((x0.toUInt32 >>> (((1 : Int32)).toUInt32 &&& Int32.toUInt32 31)).toInt32) &&& ((1431655765 : Int32)))) &&& ((858993459 : Int32))) + ((((x0 - (((x0.toUInt32 >>> (((1 : Int32)).toUInt32 &&& Int32.toUInt32 31)).toInt32) &&& ((1431655765 : Int32)))).toUInt32 >>> (((2 : Int32)).toUInt32 &&& Int32.toUInt32 31)).toInt32) &&& ((858993459 : Int32)))).toUInt32 >>> (((4 : Int32)).toUInt32 &&& Int32.toUInt32 31)).toInt32)) &&& ((252645135 : Int32))).toUInt32 >>> (((8 : Int32)).toUInt32 &&& Int32.toUInt32 31)).toInt32)).toUInt32 >>> (((16 : Int32)).toUInt32 &&& Int32.toUInt32 31)).toInt32)))]) hx hb dJ6_bitCount_0f7a4_47 rfl hl (by decide) rfl (fun ls hl => ?_)
  refine lv_iload_n hx hb dJ6_bitCount_0f7a4_48 rfl (lv_at hl 0 rfl) ?_
  refine lv_bipush (v := (63 : Int32)) hx hb dJ6_bitCount_0f7a4_49 (by decide) ?_
  refine lv_iand hx hb dJ6_bitCount_0f7a4_51 ?_
  obtain ⟨rfl, rfl⟩ := o_r hp
  exact W.iret (v := (((((((x0 - (((x0.toUInt32 >>> (((1 : Int32)).toUInt32 &&& Int32.toUInt32 31)).toInt32) &&& ((1431655765 : Int32)))) &&& ((858993459 : Int32))) + ((((x0 - (((x0.toUInt32 >>> (((1 : Int32)).toUInt32 &&& Int32.toUInt32 31)).toInt32) &&& ((1431655765 : Int32)))).toUInt32 >>> (((2 : Int32)).toUInt32 &&& Int32.toUInt32 31)).toInt32) &&& ((858993459 : Int32)))) + (((((x0 - (((x0.toUInt32 >>> (((1 : Int32)).toUInt32 &&& Int32.toUInt32 31)).toInt32) &&& ((1431655765 : Int32)))) &&& ((858993459 : Int32))) + ((((x0 - (((x0.toUInt32 >>> (((1 : Int32)).toUInt32 &&& Int32.toUInt32 31)).toInt32) &&& ((1431655765 : Int32)))).toUInt32 >>> (((2 : Int32)).toUInt32 &&& Int32.toUInt32 31)).toInt32) &&& ((858993459 : Int32)))).toUInt32 >>> (((4 : Int32)).toUInt32 &&& Int32.toUInt32 31)).toInt32)) &&& ((252645135 : Int32))) + (((((((x0 - (((x0.toUInt32 >>> (((1 : Int32)).toUInt32 &&& Int32.toUInt32 31)).toInt32) &&& ((1431655765 : Int32)))) &&& ((858993459 : Int32))) + ((((x0 - (((x0.toUInt32 >>> (((1 : Int32)).toUInt32 &&& Int32.toUInt32 31)).toInt32) &&& ((1431655765 : Int32)))).toUInt32 >>> (((2 : Int32)).toUInt32 &&& Int32.toUInt32 31)).toInt32) &&& ((858993459 : Int32)))) + (((((x0 - (((x0.toUInt32 >>> (((1 : Int32)).toUInt32 &&& Int32.toUInt32 31)).toInt32) &&& ((1431655765 : Int32)))) &&& ((858993459 : Int32))) + ((((x0 - (((x0.toUInt32 >>> (((1 : Int32)).toUInt32 &&& Int32.toUInt32 31)).toInt32) &&& ((1431655765 : Int32)))).toUInt32 >>> (((2 : Int32)).toUInt32 &&& Int32.toUInt32 31)).toInt32) &&& ((858993459 : Int32)))).toUInt32 >>> (((4 : Int32)).toUInt32 &&& Int32.toUInt32 31)).toInt32)) &&& ((252645135 : Int32))).toUInt32 >>> (((8 : Int32)).toUInt32 &&& Int32.toUInt32 31)).toInt32)) + ((((((((x0 - (((x0.toUInt32 >>> (((1 : Int32)).toUInt32 &&& Int32.toUInt32 31)).toInt32) &&& ((1431655765 : Int32)))) &&& ((858993459 : Int32))) + ((((x0 - (((x0.toUInt32 >>> (((1 : Int32)).toUInt32 &&& Int32.toUInt32 31)).toInt32) &&& ((1431655765 : Int32)))).toUInt32 >>> (((2 : Int32)).toUInt32 &&& Int32.toUInt32 31)).toInt32) &&& ((858993459 : Int32)))) + (((((x0 - (((x0.toUInt32 >>> (((1 : Int32)).toUInt32 &&& Int32.toUInt32 31)).toInt32) &&& ((1431655765 : Int32)))) &&& ((858993459 : Int32))) + ((((x0 - (((x0.toUInt32 >>> (((1 : Int32)).toUInt32 &&& Int32.toUInt32 31)).toInt32) &&& ((1431655765 : Int32)))).toUInt32 >>> (((2 : Int32)).toUInt32 &&& Int32.toUInt32 31)).toInt32) &&& ((858993459 : Int32)))).toUInt32 >>> (((4 : Int32)).toUInt32 &&& Int32.toUInt32 31)).toInt32)) &&& ((252645135 : Int32))) + (((((((x0 - (((x0.toUInt32 >>> (((1 : Int32)).toUInt32 &&& Int32.toUInt32 31)).toInt32) &&& ((1431655765 : Int32)))) &&& ((858993459 : Int32))) + ((((x0 - (((x0.toUInt32 >>> (((1 : Int32)).toUInt32 &&& Int32.toUInt32 31)).toInt32) &&& ((1431655765 : Int32)))).toUInt32 >>> (((2 : Int32)).toUInt32 &&& Int32.toUInt32 31)).toInt32) &&& ((858993459 : Int32)))) + (((((x0 - (((x0.toUInt32 >>> (((1 : Int32)).toUInt32 &&& Int32.toUInt32 31)).toInt32) &&& ((1431655765 : Int32)))) &&& ((858993459 : Int32))) + ((((x0 - (((x0.toUInt32 >>> (((1 : Int32)).toUInt32 &&& Int32.toUInt32 31)).toInt32) &&& ((1431655765 : Int32)))).toUInt32 >>> (((2 : Int32)).toUInt32 &&& Int32.toUInt32 31)).toInt32) &&& ((858993459 : Int32)))).toUInt32 >>> (((4 : Int32)).toUInt32 &&& Int32.toUInt32 31)).toInt32)) &&& ((252645135 : Int32))).toUInt32 >>> (((8 : Int32)).toUInt32 &&& Int32.toUInt32 31)).toInt32)).toUInt32 >>> (((16 : Int32)).toUInt32 &&& Int32.toUInt32 31)).toInt32)) &&& ((63 : Int32))) hx hb hr (fun t ht hW => ⟨⟨(((((((x0 - (((x0.toUInt32 >>> (((1 : Int32)).toUInt32 &&& Int32.toUInt32 31)).toInt32) &&& ((1431655765 : Int32)))) &&& ((858993459 : Int32))) + ((((x0 - (((x0.toUInt32 >>> (((1 : Int32)).toUInt32 &&& Int32.toUInt32 31)).toInt32) &&& ((1431655765 : Int32)))).toUInt32 >>> (((2 : Int32)).toUInt32 &&& Int32.toUInt32 31)).toInt32) &&& ((858993459 : Int32)))) + (((((x0 - (((x0.toUInt32 >>> (((1 : Int32)).toUInt32 &&& Int32.toUInt32 31)).toInt32) &&& ((1431655765 : Int32)))) &&& ((858993459 : Int32))) + ((((x0 - (((x0.toUInt32 >>> (((1 : Int32)).toUInt32 &&& Int32.toUInt32 31)).toInt32) &&& ((1431655765 : Int32)))).toUInt32 >>> (((2 : Int32)).toUInt32 &&& Int32.toUInt32 31)).toInt32) &&& ((858993459 : Int32)))).toUInt32 >>> (((4 : Int32)).toUInt32 &&& Int32.toUInt32 31)).toInt32)) &&& ((252645135 : Int32))) + (((((((x0 - (((x0.toUInt32 >>> (((1 : Int32)).toUInt32 &&& Int32.toUInt32 31)).toInt32) &&& ((1431655765 : Int32)))) &&& ((858993459 : Int32))) + ((((x0 - (((x0.toUInt32 >>> (((1 : Int32)).toUInt32 &&& Int32.toUInt32 31)).toInt32) &&& ((1431655765 : Int32)))).toUInt32 >>> (((2 : Int32)).toUInt32 &&& Int32.toUInt32 31)).toInt32) &&& ((858993459 : Int32)))) + (((((x0 - (((x0.toUInt32 >>> (((1 : Int32)).toUInt32 &&& Int32.toUInt32 31)).toInt32) &&& ((1431655765 : Int32)))) &&& ((858993459 : Int32))) + ((((x0 - (((x0.toUInt32 >>> (((1 : Int32)).toUInt32 &&& Int32.toUInt32 31)).toInt32) &&& ((1431655765 : Int32)))).toUInt32 >>> (((2 : Int32)).toUInt32 &&& Int32.toUInt32 31)).toInt32) &&& ((858993459 : Int32)))).toUInt32 >>> (((4 : Int32)).toUInt32 &&& Int32.toUInt32 31)).toInt32)) &&& ((252645135 : Int32))).toUInt32 >>> (((8 : Int32)).toUInt32 &&& Int32.toUInt32 31)).toInt32)) + ((((((((x0 - (((x0.toUInt32 >>> (((1 : Int32)).toUInt32 &&& Int32.toUInt32 31)).toInt32) &&& ((1431655765 : Int32)))) &&& ((858993459 : Int32))) + ((((x0 - (((x0.toUInt32 >>> (((1 : Int32)).toUInt32 &&& Int32.toUInt32 31)).toInt32) &&& ((1431655765 : Int32)))).toUInt32 >>> (((2 : Int32)).toUInt32 &&& Int32.toUInt32 31)).toInt32) &&& ((858993459 : Int32)))) + (((((x0 - (((x0.toUInt32 >>> (((1 : Int32)).toUInt32 &&& Int32.toUInt32 31)).toInt32) &&& ((1431655765 : Int32)))) &&& ((858993459 : Int32))) + ((((x0 - (((x0.toUInt32 >>> (((1 : Int32)).toUInt32 &&& Int32.toUInt32 31)).toInt32) &&& ((1431655765 : Int32)))).toUInt32 >>> (((2 : Int32)).toUInt32 &&& Int32.toUInt32 31)).toInt32) &&& ((858993459 : Int32)))).toUInt32 >>> (((4 : Int32)).toUInt32 &&& Int32.toUInt32 31)).toInt32)) &&& ((252645135 : Int32))) + (((((((x0 - (((x0.toUInt32 >>> (((1 : Int32)).toUInt32 &&& Int32.toUInt32 31)).toInt32) &&& ((1431655765 : Int32)))) &&& ((858993459 : Int32))) + ((((x0 - (((x0.toUInt32 >>> (((1 : Int32)).toUInt32 &&& Int32.toUInt32 31)).toInt32) &&& ((1431655765 : Int32)))).toUInt32 >>> (((2 : Int32)).toUInt32 &&& Int32.toUInt32 31)).toInt32) &&& ((858993459 : Int32)))) + (((((x0 - (((x0.toUInt32 >>> (((1 : Int32)).toUInt32 &&& Int32.toUInt32 31)).toInt32) &&& ((1431655765 : Int32)))) &&& ((858993459 : Int32))) + ((((x0 - (((x0.toUInt32 >>> (((1 : Int32)).toUInt32 &&& Int32.toUInt32 31)).toInt32) &&& ((1431655765 : Int32)))).toUInt32 >>> (((2 : Int32)).toUInt32 &&& Int32.toUInt32 31)).toInt32) &&& ((858993459 : Int32)))).toUInt32 >>> (((4 : Int32)).toUInt32 &&& Int32.toUInt32 31)).toInt32)) &&& ((252645135 : Int32))).toUInt32 >>> (((8 : Int32)).toUInt32 &&& Int32.toUInt32 31)).toInt32)).toUInt32 >>> (((16 : Int32)).toUInt32 &&& Int32.toUInt32 31)).toInt32)) &&& ((63 : Int32)), (), rfl, rfl, by subst ht; exact hP⟩, hS.F ht⟩) hS.2.2 dJ6_bitCount_0f7a4_52
def sJ6_bitCount_0f7a4 (x0 : Int32) (σ : TS) : Option (Int32 × TS) := sJ6_bitCount_0f7a4_0 x0 σ
theorem nVJ6_bitCount_0f7a4 : yJ6_bitCount_0f7a4.cls ≠ "java/lang/invoke/MethodHandle" ∧ yJ6_bitCount_0f7a4.cls ≠ "java/lang/invoke/VarHandle" ∧ (parseMethodDescriptor yJ6_bitCount_0f7a4.desc).map (fun d => d.parameters.length) = some 1 := by decide +kernel
set_option maxHeartbeats 4000000 in
set_option maxRecDepth 100000 in
theorem mJ6_bitCount_0f7a4 (l : Launch) (hJ : gJ 78 q) {x0 : Int32} {σ : TS} {r : Int32} {u : TS} (hp : sJ6_bitCount_0f7a4 x0 σ = some (r, u)) : Met l yJ6_bitCount_0f7a4 wsJ6_bitCount_0f7a4 rmJ6_bitCount_0f7a4 (va_Pc [.int x0] (gPre D vwCl (tyL cy) (gS 78 q (TX cy q) σ))) (gQi D vwCl r (gS 78 q (TX cy q) u) (gA 78 q)) 0 0 (gA 78 q) := by
  refine g_ofW (cc := cJ6_bitCount_0f7a4) (maxL := 1) (ret := (some .int)) (by decide +kernel) rfl ?_
  intro p e s m args below meth c s₁ B hml hv
  obtain ⟨rfl, hP, hK⟩ := hv
  have hl := lv_entry ([.int x0]) (n := 1) (Nat.le_of_ble_eq_true rfl)
  rw [lg_entry_eq]
  generalize (lg_sl ([.int x0]) ++ List.replicate (1 - (lg_sl ([.int x0])).length) Slot.unset).toArray = ls at hl ⊢
  have hl : lv_has ls 1 [(0, .int x0)] := hl
  exact kJ6_bitCount_0f7a4_0 ⟨B.exec, B.bytes, B.returns, hml, findClass_of_methodNamed B.named, atoms_spec (ws := wsJ6_bitCount_0f7a4) B.pre, B.notSynchronized⟩ hK hJ  hP va_S.rf hl hp
theorem miX4_mend_X4 : ∀ w ∈ u_ws RX4 TX4 3, w ∈ wsX4_mend := by decide +kernel
theorem mwX4_mend_0 : Cond.fieldLink RX4 15 "Triplane$Memory" "flips" "[I" ∈ wsX4_mend := by decide +kernel
theorem mwX4_mend_1 : Cond.fieldLink RX4 18 "Triplane$Memory" "mendedBits" "I" ∈ wsX4_mend := by decide +kernel
abbrev rmX4_mend : Room := { frames := 1, cells := 0, slots := 0, locals := 20 }
def sX4_mend_9 (c0 : Nat) (x1 : Int32) (sx0 : Int32) (σ : TS) : Option (Int32 × TS) := (if sx0 ≤ ((1 : Int32)) then (if vin x1 18 = true then some ((1 : Int32), st2 (st2 σ (18+6*c0) (x1.toNatClampNeg) ((0 : Int32))) (16+6*c0) 2 (((st2 σ (18+6*c0) (x1.toNatClampNeg) ((0 : Int32))) (16+6*c0) 2) + sx0)) else none) else some ((0 : Int32), σ))
set_option maxHeartbeats 4000000 in
set_option maxRecDepth 100000 in
theorem kX4_mend_9 {r : Int32} {u : TS} (C0 : gC RX4 cX4_mend 3 ((some .boolean)) wsX4_mend p s m args meth c) (hK : va_K D vwCl (tyL cy) s) (hJ : gJ 78 q) {H : Heap} {locs : List Loc} {σ : TS} {c0 : Nat} {x1 : Int32} {sx0 : Int32} (hc0 : c0 < 4) (hP : va_P D vwCl (gS 78 q (TX cy q) σ) H) (hS : va_S (gA 78 q) s.heap H locs) {ls : Array Slot} (hl : lv_has ls 3 [(0, .ref (q (16+6*c0))), (1, .int x1)]) (hp : sX4_mend_9 c0 x1 sx0 σ = some (r, u)) : W p l e rmX4_mend s m args below meth c H locs 0 0 (MQ below (gQi D vwCl r (gS 78 q (TX cy q) u) (gA 78 q)) args s 0 0 (gA 78 q)) (F0 m 9 ls [.int sx0]) := by
  obtain ⟨hx, hb, hr, hml, hown, hts, hlocks⟩ := id C0
  unfold sX4_mend_9 at hp
  refine lv_istore_n (lv' := [(2, .int sx0), (0, .ref (q (16+6*c0))), (1, .int x1)]) hx hb dX4_mend_9 rfl hl (by decide) rfl (fun ls hl => ?_)
  refine lv_iload_n hx hb dX4_mend_10 rfl (lv_at hl 0 rfl) ?_
  refine lv_iconst (v := (1 : Int32)) hx hb dX4_mend_11 (by decide) ?_
  refine lv_icmp_le (tgt := 17) hx hb dX4_mend_12 (by decide) (fun hcd1 => ?_) (fun hcd1 => ?_)
  · have hp := o_t hp hcd1
    refine lv_aload_n hx hb dX4_mend_17 rfl (lv_at hl 1 rfl) ?_
    refine g_get (v := .ref (q (18+6*c0))) hx hb hts miX4_mend_X4 hown hK hP (kk_Mem hc0) (ce_Mem hc0) rfl 1 (by decide) mwX4_mend_0 rfl dX4_mend_18 ?_
    refine lv_iload_n hx hb dX4_mend_21 rfl (lv_at hl 2 rfl) ?_
    refine lv_iconst (v := (0 : Int32)) hx hb dX4_mend_22 (by decide) ?_
    obtain ⟨hi2, hp⟩ := o_chk hp
    refine g_iast (j := x1.toNatClampNeg) hx hb hK hJ hP hS (kk_Fl hc0) (ce_Fl hc0) 0 rfl (vin_of hi2) rfl dX4_mend_23 (fun H locs hP hS => ?_)
    refine lv_aload_n hx hb dX4_mend_24 rfl (lv_at hl 1 rfl) ?_
    refine lv_dup hx hb dX4_mend_25 rfl ?_
    refine g_get (v := .int ((st2 σ (18+6*c0) (x1.toNatClampNeg) ((0 : Int32))) (16+6*c0) 2)) hx hb hts miX4_mend_X4 hown hK hP (kk_Mem hc0) (ce_Mem hc0) rfl 2 (by decide) mwX4_mend_1 rfl dX4_mend_26 ?_
    refine lv_iload_n hx hb dX4_mend_29 rfl (lv_at hl 0 rfl) ?_
    refine lv_iadd hx hb dX4_mend_30 ?_
    refine g_put (v := ((st2 σ (18+6*c0) (x1.toNatClampNeg) ((0 : Int32))) (16+6*c0) 2) + sx0) hx hb hts miX4_mend_X4 tyX4 tyX4_ok nmX4 hown hK hJ hP hS (kk_Mem hc0) (ce_Mem hc0) rfl 2 (by decide) mwX4_mend_1 rfl rfl rfl (Nat.le_of_ble_eq_true rfl) rfl dX4_mend_31 (fun H locs hP hS => ?_)
    refine lv_iconst (v := (1 : Int32)) hx hb dX4_mend_34 (by decide) ?_
    obtain ⟨rfl, rfl⟩ := o_r hp
    exact W.zret (v := (1 : Int32)) hx hb hr (zok_n (by decide)).1 (fun t ht hW => ⟨⟨(1 : Int32), (), rfl, rfl, by subst ht; exact hP⟩, hS.F ht⟩) hS.2.2 dX4_mend_35
  · have hp := o_f hp hcd1
    refine lv_iconst (v := (0 : Int32)) hx hb dX4_mend_15 (by decide) ?_
    obtain ⟨rfl, rfl⟩ := o_r hp
    exact W.zret (v := (0 : Int32)) hx hb hr (zok_n (by decide)).1 (fun t ht hW => ⟨⟨(0 : Int32), (), rfl, rfl, by subst ht; exact hP⟩, hS.F ht⟩) hS.2.2 dX4_mend_16
def sX4_mend_0 (c0 : Nat) (x1 : Int32) (σ : TS) : Option (Int32 × TS) := (if vin x1 18 = true then ((sJ6_bitCount_0f7a4 (σ (18+6*c0) (x1.toNatClampNeg)) σ).bind (fun z => sX4_mend_9 c0 x1 z.1 z.2)) else none)
set_option maxHeartbeats 4000000 in
set_option maxRecDepth 100000 in
theorem kX4_mend_0 {r : Int32} {u : TS} (C0 : gC RX4 cX4_mend 3 ((some .boolean)) wsX4_mend p s m args meth c) (hK : va_K D vwCl (tyL cy) s) (hJ : gJ 78 q) {H : Heap} {locs : List Loc} {σ : TS} {c0 : Nat} {x1 : Int32} (hc0 : c0 < 4) (hP : va_P D vwCl (gS 78 q (TX cy q) σ) H) (hS : va_S (gA 78 q) s.heap H locs) {ls : Array Slot} (hl : lv_has ls 3 [(0, .ref (q (16+6*c0))), (1, .int x1)]) (hp : sX4_mend_0 c0 x1 σ = some (r, u)) : W p l e rmX4_mend s m args below meth c H locs 0 0 (MQ below (gQi D vwCl r (gS 78 q (TX cy q) u) (gA 78 q)) args s 0 0 (gA 78 q)) (F0 m 0 ls []) := by
  obtain ⟨hx, hb, hr, hml, hown, hts, hlocks⟩ := id C0
  unfold sX4_mend_0 at hp
  refine lv_aload_n hx hb dX4_mend_0 rfl (lv_at hl 0 rfl) ?_
  refine g_get (v := .ref (q (18+6*c0))) hx hb hts miX4_mend_X4 hown hK hP (kk_Mem hc0) (ce_Mem hc0) rfl 1 (by decide) mwX4_mend_0 rfl dX4_mend_1 ?_
  refine lv_iload_n hx hb dX4_mend_4 rfl (lv_at hl 1 rfl) ?_
  obtain ⟨hi3, hp⟩ := o_chk hp
  refine g_iald (j := x1.toNatClampNeg) hx hb hK hP (kk_Fl hc0) (ce_Fl hc0) 0 rfl (vin_of hi3) rfl dX4_mend_5 ?_
  obtain ⟨⟨r4, u5⟩, hq6, hp⟩ := o_b hp
  refine g_cSi (As := [.int (σ (18+6*c0) (x1.toNatClampNeg))]) (rest := []) hx hb hml hown hts hK hP hS (mJ6_bitCount_0f7a4 l hJ hq6) (va_cwS 1 hts gX4_mend_J6_bitCount_0f7a4 rfl rfl rfl nVJ6_bitCount_0f7a4 ⟨Nat.le_of_ble_eq_true rfl, Nat.le_of_ble_eq_true rfl⟩) rfl hl.1 rfl (Nat.le_of_ble_eq_true rfl) dX4_mend_6 ⟨Nat.le_of_ble_eq_true rfl, Nat.le_of_ble_eq_true rfl⟩ (fun H locs hP hS => ?_)
  exact kX4_mend_9 C0 hK hJ hc0 hP hS hl hp
def sX4_mend (c0 : Nat) (x1 : Int32) (σ : TS) : Option (Int32 × TS) := sX4_mend_0 c0 x1 σ
theorem nVX4_mend : yX4_mend.cls = RX4 ∧ yX4_mend.cls ≠ "java/lang/invoke/MethodHandle" ∧ yX4_mend.cls ≠ "java/lang/invoke/VarHandle" ∧ (parseMethodDescriptor yX4_mend.desc).map (fun d => d.parameters.length) = some 1 := by decide +kernel
set_option maxHeartbeats 4000000 in
set_option maxRecDepth 100000 in
theorem mX4_mend (l : Launch) (hJ : gJ 78 q) {c0 : Nat} {x1 : Int32} (hc0 : c0 < 4) {σ : TS} {r : Int32} {u : TS} (hp : sX4_mend c0 x1 σ = some (r, u)) : Met l yX4_mend wsX4_mend rmX4_mend (va_Pc [.ref (q (16+6*c0)), .int x1] (gPre D vwCl (tyL cy) (gS 78 q (TX cy q) σ))) (gQi D vwCl r (gS 78 q (TX cy q) u) (gA 78 q)) 0 0 (gA 78 q) := by
  refine Met.ofW (cc := cX4_mend) (maxL := 3) (ret := (some .boolean)) (by decide +kernel) rfl ?_
  intro p e s m args below meth c s₁ B hml hv
  obtain ⟨rfl, hP, hK⟩ := hv
  have hl := lv_entry ([.ref (q (16+6*c0)), .int x1]) (n := 3) (Nat.le_of_ble_eq_true rfl)
  rw [lg_entry_eq]
  generalize (lg_sl ([.ref (q (16+6*c0)), .int x1]) ++ List.replicate (3 - (lg_sl ([.ref (q (16+6*c0)), .int x1])).length) Slot.unset).toArray = ls at hl ⊢
  have hl : lv_has ls 3 [(0, .ref (q (16+6*c0))), (1, .int x1)] := hl
  exact kX4_mend_0 ⟨B.exec, B.bytes, B.returns, hml, findClass_of_methodNamed B.named, atoms_spec (ws := wsX4_mend) B.pre, B.notSynchronized⟩ hK hJ hc0 hP va_S.rf hl hp
theorem miX1_carryOut_X1 : ∀ w ∈ u_ws RX1 TX1 14, w ∈ wsX1_carryOut := by decide +kernel
theorem miX1_carryOut_X6 : ∀ w ∈ u_ws RX6 TX6 5, w ∈ wsX1_carryOut := by decide +kernel
theorem miX1_carryOut_X7 : ∀ w ∈ u_ws RX7 TX7 4, w ∈ wsX1_carryOut := by decide +kernel
theorem mwX1_carryOut_0 : Cond.fieldLink RX1 92 "Triplane$Program" "registers" "[I" ∈ wsX1_carryOut := by decide +kernel
theorem mwX1_carryOut_1 : Cond.fieldLink RX1 81 "Triplane$Program" "ns" "[I" ∈ wsX1_carryOut := by decide +kernel
theorem mwX1_carryOut_2 : Cond.fieldLink RX1 77 "Triplane$Program" "kinds" "[C" ∈ wsX1_carryOut := by decide +kernel
theorem mwX1_carryOut_3 : Cond.fieldLink RX1 42 "Triplane$Computer" "registers" "[I" ∈ wsX1_carryOut := by decide +kernel
theorem mwX1_carryOut_4 : Cond.fieldLink RX1 100 "Triplane$Sensor" "agreedNumber" "I" ∈ wsX1_carryOut := by decide +kernel
theorem mwX1_carryOut_5 : Cond.fieldLink RX1 12 "Triplane$Computer" "memory" "LTriplane$Memory;" ∈ wsX1_carryOut := by decide +kernel
theorem mwX1_carryOut_6 : Cond.fieldLink RX1 54 "Triplane$Computer" "givenOutput" "I" ∈ wsX1_carryOut := by decide +kernel
theorem mwX1_carryOut_7 : Cond.fieldLink RX1 57 "Triplane$Computer" "givenNumber" "I" ∈ wsX1_carryOut := by decide +kernel
theorem mwX1_carryOut_8 : Cond.fieldLink RX1 51 "Triplane$Computer" "next" "I" ∈ wsX1_carryOut := by decide +kernel
abbrev rmX1_carryOut : Room := { frames := 2, cells := 0, slots := 0, locals := 44 }
def sX1_carryOut_265 (σ : TS) : Option (Int32 × TS) := some (0, σ)
set_option maxHeartbeats 4000000 in
set_option maxRecDepth 100000 in
theorem kX1_carryOut_265 {r : Int32} {u : TS} (C0 : gC RX1 cX1_carryOut 7 none wsX1_carryOut p s m args meth c) (hK : va_K D vwCl (tyL cy) s) (hJ : gJ 78 q) {H : Heap} {locs : List Loc} {σ : TS} (hP : va_P D vwCl (gS 78 q (TX cy q) σ) H) (hS : va_S (gA 78 q) s.heap H locs) {ls : Array Slot} (hl : lv_has ls 7 []) (hp : sX1_carryOut_265 σ = some (r, u)) : W p l e rmX1_carryOut s m args below meth c H locs 0 0 (MQ below (gQv D vwCl (gS 78 q (TX cy q) u) (gA 78 q)) args s 0 0 (gA 78 q)) (F0 m 265 ls []) := by
  obtain ⟨hx, hb, hr, hml, hown, hts, hlocks⟩ := id C0
  unfold sX1_carryOut_265 at hp
  obtain ⟨rfl, rfl⟩ := o_r hp
  exact W.vret hx hb hr (fun t ht hW => ⟨⟨(), rfl, trivial, by subst ht; exact hP⟩, hS.F ht⟩) hS.2.2 dX1_carryOut_265
def sX1_carryOut_120 (σ : TS) : Option (Int32 × TS) := sX1_carryOut_265 σ
set_option maxHeartbeats 4000000 in
set_option maxRecDepth 100000 in
theorem kX1_carryOut_120 {r : Int32} {u : TS} (C0 : gC RX1 cX1_carryOut 7 none wsX1_carryOut p s m args meth c) (hK : va_K D vwCl (tyL cy) s) (hJ : gJ 78 q) {H : Heap} {locs : List Loc} {σ : TS} (hP : va_P D vwCl (gS 78 q (TX cy q) σ) H) (hS : va_S (gA 78 q) s.heap H locs) {ls : Array Slot} (hl : lv_has ls 7 []) (hp : sX1_carryOut_120 σ = some (r, u)) : W p l e rmX1_carryOut s m args below meth c H locs 0 0 (MQ below (gQv D vwCl (gS 78 q (TX cy q) u) (gA 78 q)) args s 0 0 (gA 78 q)) (F0 m 120 ls []) := by
  obtain ⟨hx, hb, hr, hml, hown, hts, hlocks⟩ := id C0
  unfold sX1_carryOut_120 at hp
  refine lv_goto (tgt := 265) hx hb dX1_carryOut_120 (by decide) ?_
  exact kX1_carryOut_265 C0 hK hJ  hP hS hl hp
def sX1_carryOut_144 (σ : TS) : Option (Int32 × TS) := sX1_carryOut_265 σ
set_option maxHeartbeats 4000000 in
set_option maxRecDepth 100000 in
theorem kX1_carryOut_144 {r : Int32} {u : TS} (C0 : gC RX1 cX1_carryOut 7 none wsX1_carryOut p s m args meth c) (hK : va_K D vwCl (tyL cy) s) (hJ : gJ 78 q) {H : Heap} {locs : List Loc} {σ : TS} (hP : va_P D vwCl (gS 78 q (TX cy q) σ) H) (hS : va_S (gA 78 q) s.heap H locs) {ls : Array Slot} (hl : lv_has ls 7 []) (hp : sX1_carryOut_144 σ = some (r, u)) : W p l e rmX1_carryOut s m args below meth c H locs 0 0 (MQ below (gQv D vwCl (gS 78 q (TX cy q) u) (gA 78 q)) args s 0 0 (gA 78 q)) (F0 m 144 ls []) := by
  obtain ⟨hx, hb, hr, hml, hown, hts, hlocks⟩ := id C0
  unfold sX1_carryOut_144 at hp
  refine lv_goto (tgt := 265) hx hb dX1_carryOut_144 (by decide) ?_
  exact kX1_carryOut_265 C0 hK hJ  hP hS hl hp
def sX1_carryOut_168 (σ : TS) : Option (Int32 × TS) := sX1_carryOut_265 σ
set_option maxHeartbeats 4000000 in
set_option maxRecDepth 100000 in
theorem kX1_carryOut_168 {r : Int32} {u : TS} (C0 : gC RX1 cX1_carryOut 7 none wsX1_carryOut p s m args meth c) (hK : va_K D vwCl (tyL cy) s) (hJ : gJ 78 q) {H : Heap} {locs : List Loc} {σ : TS} (hP : va_P D vwCl (gS 78 q (TX cy q) σ) H) (hS : va_S (gA 78 q) s.heap H locs) {ls : Array Slot} (hl : lv_has ls 7 []) (hp : sX1_carryOut_168 σ = some (r, u)) : W p l e rmX1_carryOut s m args below meth c H locs 0 0 (MQ below (gQv D vwCl (gS 78 q (TX cy q) u) (gA 78 q)) args s 0 0 (gA 78 q)) (F0 m 168 ls []) := by
  obtain ⟨hx, hb, hr, hml, hown, hts, hlocks⟩ := id C0
  unfold sX1_carryOut_168 at hp
  refine lv_goto (tgt := 265) hx hb dX1_carryOut_168 (by decide) ?_
  exact kX1_carryOut_265 C0 hK hJ  hP hS hl hp
def sX1_carryOut_189 (σ : TS) : Option (Int32 × TS) := sX1_carryOut_265 σ
set_option maxHeartbeats 4000000 in
set_option maxRecDepth 100000 in
theorem kX1_carryOut_189 {r : Int32} {u : TS} (C0 : gC RX1 cX1_carryOut 7 none wsX1_carryOut p s m args meth c) (hK : va_K D vwCl (tyL cy) s) (hJ : gJ 78 q) {H : Heap} {locs : List Loc} {σ : TS} (hP : va_P D vwCl (gS 78 q (TX cy q) σ) H) (hS : va_S (gA 78 q) s.heap H locs) {ls : Array Slot} (hl : lv_has ls 7 []) (hp : sX1_carryOut_189 σ = some (r, u)) : W p l e rmX1_carryOut s m args below meth c H locs 0 0 (MQ below (gQv D vwCl (gS 78 q (TX cy q) u) (gA 78 q)) args s 0 0 (gA 78 q)) (F0 m 189 ls []) := by
  obtain ⟨hx, hb, hr, hml, hown, hts, hlocks⟩ := id C0
  unfold sX1_carryOut_189 at hp
  refine lv_goto (tgt := 265) hx hb dX1_carryOut_189 (by decide) ?_
  exact kX1_carryOut_265 C0 hK hJ  hP hS hl hp
def sX1_carryOut_209 (σ : TS) : Option (Int32 × TS) := sX1_carryOut_265 σ
set_option maxHeartbeats 4000000 in
set_option maxRecDepth 100000 in
theorem kX1_carryOut_209 {r : Int32} {u : TS} (C0 : gC RX1 cX1_carryOut 7 none wsX1_carryOut p s m args meth c) (hK : va_K D vwCl (tyL cy) s) (hJ : gJ 78 q) {H : Heap} {locs : List Loc} {σ : TS} (hP : va_P D vwCl (gS 78 q (TX cy q) σ) H) (hS : va_S (gA 78 q) s.heap H locs) {ls : Array Slot} (hl : lv_has ls 7 []) (hp : sX1_carryOut_209 σ = some (r, u)) : W p l e rmX1_carryOut s m args below meth c H locs 0 0 (MQ below (gQv D vwCl (gS 78 q (TX cy q) u) (gA 78 q)) args s 0 0 (gA 78 q)) (F0 m 209 ls []) := by
  obtain ⟨hx, hb, hr, hml, hown, hts, hlocks⟩ := id C0
  unfold sX1_carryOut_209 at hp
  refine lv_goto (tgt := 265) hx hb dX1_carryOut_209 (by decide) ?_
  exact kX1_carryOut_265 C0 hK hJ  hP hS hl hp
def sX1_carryOut_206 (d0 : Nat) (sx1 : Int32) (sx2 : Int32) (σ : TS) : Option (Int32 × TS) := ((sX1_change d0 sx1 sx2 σ).bind (fun z => sX1_carryOut_209 z.2))
set_option maxHeartbeats 4000000 in
set_option maxRecDepth 100000 in
theorem kX1_carryOut_206 {r : Int32} {u : TS} (C0 : gC RX1 cX1_carryOut 7 none wsX1_carryOut p s m args meth c) (hK : va_K D vwCl (tyL cy) s) (hJ : gJ 78 q) {H : Heap} {locs : List Loc} {σ : TS} {d0 : Nat} {sx1 : Int32} {sx2 : Int32} (hd0 : d0 < 4) (hP : va_P D vwCl (gS 78 q (TX cy q) σ) H) (hS : va_S (gA 78 q) s.heap H locs) {ls : Array Slot} (hl : lv_has ls 7 []) (hp : sX1_carryOut_206 d0 sx1 sx2 σ = some (r, u)) : W p l e rmX1_carryOut s m args below meth c H locs 0 0 (MQ below (gQv D vwCl (gS 78 q (TX cy q) u) (gA 78 q)) args s 0 0 (gA 78 q)) (F0 m 206 ls [.int sx2, .int sx1, .ref (q (15+6*d0))]) := by
  obtain ⟨hx, hb, hr, hml, hown, hts, hlocks⟩ := id C0
  unfold sX1_carryOut_206 at hp
  obtain ⟨⟨r1, u2⟩, hq3, hp⟩ := o_b hp
  refine g_cVv (As := [.int sx1, .int sx2]) (rest := []) hx hb hml hown hts hK hP hS (mX1_change l hJ hd0 hq3) (cwV 2 hts gX1_carryOut_X1_change rfl rfl rfl nVX1_change ⟨Nat.le_of_ble_eq_true rfl, Nat.le_of_ble_eq_true rfl⟩) (g_recv hK hP (kk_Comp hd0) (ce_Comp hd0) rfl) rfl hl.1 rfl (Nat.le_of_ble_eq_true rfl) dX1_carryOut_206 ⟨Nat.le_of_ble_eq_true rfl, Nat.le_of_ble_eq_true rfl⟩ (fun H locs hP hS => ?_)
  exact kX1_carryOut_209 C0 hK hJ  hP hS hl hp
def sX1_carryOut_226 (σ : TS) : Option (Int32 × TS) := sX1_carryOut_265 σ
set_option maxHeartbeats 4000000 in
set_option maxRecDepth 100000 in
theorem kX1_carryOut_226 {r : Int32} {u : TS} (C0 : gC RX1 cX1_carryOut 7 none wsX1_carryOut p s m args meth c) (hK : va_K D vwCl (tyL cy) s) (hJ : gJ 78 q) {H : Heap} {locs : List Loc} {σ : TS} (hP : va_P D vwCl (gS 78 q (TX cy q) σ) H) (hS : va_S (gA 78 q) s.heap H locs) {ls : Array Slot} (hl : lv_has ls 7 []) (hp : sX1_carryOut_226 σ = some (r, u)) : W p l e rmX1_carryOut s m args below meth c H locs 0 0 (MQ below (gQv D vwCl (gS 78 q (TX cy q) u) (gA 78 q)) args s 0 0 (gA 78 q)) (F0 m 226 ls []) := by
  obtain ⟨hx, hb, hr, hml, hown, hts, hlocks⟩ := id C0
  unfold sX1_carryOut_226 at hp
  refine lv_goto (tgt := 265) hx hb dX1_carryOut_226 (by decide) ?_
  exact kX1_carryOut_265 C0 hK hJ  hP hS hl hp
def sX1_carryOut_0 (c0 : Nat) (c1 : Nat) (x2 : Int32) (x3 : Int32) (σ : TS) : Option (Int32 × TS) := (if vin x2 10 = true then (if (σ (40+4*c1) (x2.toNatClampNeg)) = (97 : Int32) then (if vin (σ (41+4*c1) (x2.toNatClampNeg)) 4 = true then (if vin (σ (42+4*c1) (x2.toNatClampNeg)) 4 = true then ((sX1_change c0 (σ (41+4*c1) (x2.toNatClampNeg)) ((σ (20+6*c0) ((σ (41+4*c1) (x2.toNatClampNeg)).toNatClampNeg)) + (σ (20+6*c0) ((σ (42+4*c1) (x2.toNatClampNeg)).toNatClampNeg))) σ).bind (fun z => sX1_carryOut_144 z.2)) else none) else none) else (if (σ (40+4*c1) (x2.toNatClampNeg)) = (105 : Int32) then (if vin (σ (42+4*c1) (x2.toNatClampNeg)) 4 = true then ((sX1_change c0 (σ (41+4*c1) (x2.toNatClampNeg)) (σ (66+((σ (42+4*c1) (x2.toNatClampNeg)).toNatClampNeg)) 2) σ).bind (fun z => sX1_carryOut_226 z.2)) else none) else (if (σ (40+4*c1) (x2.toNatClampNeg)) = (108 : Int32) then ((sX1_change c0 (σ (41+4*c1) (x2.toNatClampNeg)) (σ (42+4*c1) (x2.toNatClampNeg)) σ).bind (fun z => sX1_carryOut_120 z.2)) else (if (σ (40+4*c1) (x2.toNatClampNeg)) = (109 : Int32) then (if vin (σ (41+4*c1) (x2.toNatClampNeg)) 4 = true then ((sX4_put c0 (x3 + (σ (42+4*c1) (x2.toNatClampNeg))) (σ (20+6*c0) ((σ (41+4*c1) (x2.toNatClampNeg)).toNatClampNeg)) σ).bind (fun z => sX1_carryOut_189 z.2)) else none) else (if (σ (40+4*c1) (x2.toNatClampNeg)) = (111 : Int32) then (if vin (σ (41+4*c1) (x2.toNatClampNeg)) 4 = true then sX1_carryOut_265 (st2 (st2 σ (15+6*c0) 12 (σ (42+4*c1) (x2.toNatClampNeg))) (15+6*c0) 13 ((st2 σ (15+6*c0) 12 (σ (42+4*c1) (x2.toNatClampNeg))) (20+6*c0) ((σ (41+4*c1) (x2.toNatClampNeg)).toNatClampNeg))) else none) else (if (σ (40+4*c1) (x2.toNatClampNeg)) = (114 : Int32) then ((sX4_unflipped c0 (x3 + (σ (42+4*c1) (x2.toNatClampNeg))) σ).bind (fun z => sX1_carryOut_206 c0 (σ (41+4*c1) (x2.toNatClampNeg)) z.1 z.2)) else (if (σ (40+4*c1) (x2.toNatClampNeg)) = (115 : Int32) then (if vin (σ (41+4*c1) (x2.toNatClampNeg)) 4 = true then (if vin (σ (42+4*c1) (x2.toNatClampNeg)) 4 = true then ((sX1_change c0 (σ (41+4*c1) (x2.toNatClampNeg)) ((σ (20+6*c0) ((σ (41+4*c1) (x2.toNatClampNeg)).toNatClampNeg)) - (σ (20+6*c0) ((σ (42+4*c1) (x2.toNatClampNeg)).toNatClampNeg))) σ).bind (fun z => sX1_carryOut_168 z.2)) else none) else none) else (if vin (σ (41+4*c1) (x2.toNatClampNeg)) 4 = true then (if (σ (20+6*c0) ((σ (41+4*c1) (x2.toNatClampNeg)).toNatClampNeg)) ≤ 0 then sX1_carryOut_265 σ else sX1_carryOut_265 (st2 σ (15+6*c0) 11 (σ (42+4*c1) (x2.toNatClampNeg)))) else none)))))))) else none)
set_option maxHeartbeats 4000000 in
set_option maxRecDepth 100000 in
theorem kX1_carryOut_0 {r : Int32} {u : TS} (C0 : gC RX1 cX1_carryOut 7 none wsX1_carryOut p s m args meth c) (hK : va_K D vwCl (tyL cy) s) (hJ : gJ 78 q) {H : Heap} {locs : List Loc} {σ : TS} {c0 : Nat} {c1 : Nat} {x2 : Int32} {x3 : Int32} (hc0 : c0 < 4) (hc1 : c1 < 3) (hP : va_P D vwCl (gS 78 q (TX cy q) σ) H) (hS : va_S (gA 78 q) s.heap H locs) {ls : Array Slot} (hl : lv_has ls 7 [(0, .ref (q (15+6*c0))), (1, .ref (q (39+4*c1))), (2, .int x2), (3, .int x3), (4, .ref (q (7)))]) (hp : sX1_carryOut_0 c0 c1 x2 x3 σ = some (r, u)) : W p l e rmX1_carryOut s m args below meth c H locs 0 0 (MQ below (gQv D vwCl (gS 78 q (TX cy q) u) (gA 78 q)) args s 0 0 (gA 78 q)) (F0 m 0 ls []) := by
  obtain ⟨hx, hb, hr, hml, hown, hts, hlocks⟩ := id C0
  unfold sX1_carryOut_0 at hp
  refine lv_aload_n hx hb dX1_carryOut_0 rfl (lv_at hl 1 rfl) ?_
  refine g_get (v := .ref (q (41+4*c1))) hx hb hts miX1_carryOut_X6 hown hK hP (kk_Prog hc1) (ce_Prog hc1) rfl 1 (by decide) mwX1_carryOut_0 rfl dX1_carryOut_1 ?_
  refine lv_iload_n hx hb dX1_carryOut_4 rfl (lv_at hl 2 rfl) ?_
  obtain ⟨hi4, hp⟩ := o_chk hp
  refine g_iald (j := x2.toNatClampNeg) hx hb hK hP (kk_PR hc1) (ce_PR hc1) 0 rfl (vin_of hi4) rfl dX1_carryOut_5 ?_
  refine lv_istore (lv' := [(5, .int (σ (41+4*c1) (x2.toNatClampNeg))), (0, .ref (q (15+6*c0))), (1, .ref (q (39+4*c1))), (2, .int x2), (3, .int x3), (4, .ref (q (7)))]) hx hb dX1_carryOut_6 hl (by decide) rfl (fun ls hl => ?_)
  refine lv_aload_n hx hb dX1_carryOut_8 rfl (lv_at hl 2 rfl) ?_
  refine g_get (v := .ref (q (42+4*c1))) hx hb hts miX1_carryOut_X6 hown hK hP (kk_Prog hc1) (ce_Prog hc1) rfl 2 (by decide) mwX1_carryOut_1 rfl dX1_carryOut_9 ?_
  refine lv_iload_n hx hb dX1_carryOut_12 rfl (lv_at hl 3 rfl) ?_
  refine g_iald (j := x2.toNatClampNeg) hx hb hK hP (kk_PN hc1) (ce_PN hc1) 0 rfl (vin_of hi4) rfl dX1_carryOut_13 ?_
  refine lv_istore (lv' := [(6, .int (σ (42+4*c1) (x2.toNatClampNeg))), (5, .int (σ (41+4*c1) (x2.toNatClampNeg))), (0, .ref (q (15+6*c0))), (1, .ref (q (39+4*c1))), (2, .int x2), (3, .int x3), (4, .ref (q (7)))]) hx hb dX1_carryOut_14 hl (by decide) rfl (fun ls hl => ?_)
  refine lv_aload_n hx hb dX1_carryOut_16 rfl (lv_at hl 3 rfl) ?_
  refine g_get (v := .ref (q (40+4*c1))) hx hb hts miX1_carryOut_X6 hown hK hP (kk_Prog hc1) (ce_Prog hc1) rfl 0 (by decide) mwX1_carryOut_2 rfl dX1_carryOut_17 ?_
  refine lv_iload_n hx hb dX1_carryOut_20 rfl (lv_at hl 4 rfl) ?_
  refine g_cald (j := x2.toNatClampNeg) hx hb hK hP (kk_PK hc1) (ce_PK hc1) 2 rfl (vin_of hi4) rfl dX1_carryOut_21 ?_
  by_cases hcd5 : (σ (40+4*c1) (x2.toNatClampNeg)) = (97 : Int32)
  · have hp := o_t hp hcd5
    refine g_sw hx hb (off := 101) (tgt := 123) dX1_carryOut_22 (by decide) (by rw [hcd5]; decide) (by decide) ?_
    refine lv_aload_n hx hb dX1_carryOut_123 rfl (lv_at hl 2 rfl) ?_
    refine lv_iload hx hb dX1_carryOut_124 (lv_at hl 1 rfl) ?_
    refine lv_aload_n hx hb dX1_carryOut_126 rfl (lv_at hl 2 rfl) ?_
    refine g_get (v := .ref (q (20+6*c0))) hx hb hts miX1_carryOut_X1 hown hK hP (kk_Comp hc0) (ce_Comp hc0) rfl 8 (by decide) mwX1_carryOut_3 rfl dX1_carryOut_127 ?_
    refine lv_iload hx hb dX1_carryOut_130 (lv_at hl 1 rfl) ?_
    obtain ⟨hi6, hp⟩ := o_chk hp
    refine g_iald (j := (σ (41+4*c1) (x2.toNatClampNeg)).toNatClampNeg) hx hb hK hP (kk_Regs hc0) (ce_Regs hc0) 0 rfl (vin_of hi6) rfl dX1_carryOut_132 ?_
    refine lv_aload_n hx hb dX1_carryOut_133 rfl (lv_at hl 2 rfl) ?_
    refine g_get (v := .ref (q (20+6*c0))) hx hb hts miX1_carryOut_X1 hown hK hP (kk_Comp hc0) (ce_Comp hc0) rfl 8 (by decide) mwX1_carryOut_3 rfl dX1_carryOut_134 ?_
    refine lv_iload hx hb dX1_carryOut_137 (lv_at hl 0 rfl) ?_
    obtain ⟨hi7, hp⟩ := o_chk hp
    refine g_iald (j := (σ (42+4*c1) (x2.toNatClampNeg)).toNatClampNeg) hx hb hK hP (kk_Regs hc0) (ce_Regs hc0) 0 rfl (vin_of hi7) rfl dX1_carryOut_139 ?_
    refine lv_iadd hx hb dX1_carryOut_140 ?_
    obtain ⟨⟨r8, u9⟩, hq10, hp⟩ := o_b hp
    refine g_cVv (As := [.int (σ (41+4*c1) (x2.toNatClampNeg)), .int ((σ (20+6*c0) ((σ (41+4*c1) (x2.toNatClampNeg)).toNatClampNeg)) + (σ (20+6*c0) ((σ (42+4*c1) (x2.toNatClampNeg)).toNatClampNeg)))]) (rest := []) hx hb hml hown hts hK hP hS (mX1_change l hJ hc0 hq10) (cwV 2 hts gX1_carryOut_X1_change rfl rfl rfl nVX1_change ⟨Nat.le_of_ble_eq_true rfl, Nat.le_of_ble_eq_true rfl⟩) (g_recv hK hP (kk_Comp hc0) (ce_Comp hc0) rfl) rfl hl.1 rfl (Nat.le_of_ble_eq_true rfl) dX1_carryOut_141 ⟨Nat.le_of_ble_eq_true rfl, Nat.le_of_ble_eq_true rfl⟩ (fun H locs hP hS => ?_)
    exact kX1_carryOut_144 C0 hK hJ  hP hS (lv_sub hl [] rfl) hp
  have hp := o_f hp hcd5
  by_cases hcd11 : (σ (40+4*c1) (x2.toNatClampNeg)) = (105 : Int32)
  · have hp := o_t hp hcd11
    refine g_sw hx hb (off := 190) (tgt := 212) dX1_carryOut_22 (by decide) (by rw [hcd11]; decide) (by decide) ?_
    refine lv_aload_n hx hb dX1_carryOut_212 rfl (lv_at hl 2 rfl) ?_
    refine lv_iload hx hb dX1_carryOut_213 (lv_at hl 1 rfl) ?_
    refine lv_aload hx hb dX1_carryOut_215 (lv_at hl 6 rfl) ?_
    refine lv_iload hx hb dX1_carryOut_217 (lv_at hl 0 rfl) ?_
    obtain ⟨hi12, hp⟩ := o_chk hp
    have hn13 : (σ (42+4*c1) (x2.toNatClampNeg)).toNatClampNeg < 4 := Nat.lt_of_lt_of_le (vin_lt hi12) (by decide)
    refine g_aald (j := (σ (42+4*c1) (x2.toNatClampNeg)).toNatClampNeg) hx hb hK hP (kk_SensArr) (ce_SensArr) 7 rfl rfl (vin_of hi12) rfl dX1_carryOut_219 ?_
    refine g_get (v := .int (σ (66+((σ (42+4*c1) (x2.toNatClampNeg)).toNatClampNeg)) 2)) hx hb hts miX1_carryOut_X7 hown hK hP (kk_Sens hn13) (ce_Sens hn13) rfl 2 (by decide) mwX1_carryOut_4 rfl dX1_carryOut_220 ?_
    obtain ⟨⟨r14, u15⟩, hq16, hp⟩ := o_b hp
    refine g_cVv (As := [.int (σ (41+4*c1) (x2.toNatClampNeg)), .int (σ (66+((σ (42+4*c1) (x2.toNatClampNeg)).toNatClampNeg)) 2)]) (rest := []) hx hb hml hown hts hK hP hS (mX1_change l hJ hc0 hq16) (cwV 2 hts gX1_carryOut_X1_change rfl rfl rfl nVX1_change ⟨Nat.le_of_ble_eq_true rfl, Nat.le_of_ble_eq_true rfl⟩) (g_recv hK hP (kk_Comp hc0) (ce_Comp hc0) rfl) rfl hl.1 rfl (Nat.le_of_ble_eq_true rfl) dX1_carryOut_223 ⟨Nat.le_of_ble_eq_true rfl, Nat.le_of_ble_eq_true rfl⟩ (fun H locs hP hS => ?_)
    exact kX1_carryOut_226 C0 hK hJ  hP hS (lv_sub hl [] rfl) hp
  have hp := o_f hp hcd11
  by_cases hcd17 : (σ (40+4*c1) (x2.toNatClampNeg)) = (108 : Int32)
  · have hp := o_t hp hcd17
    refine g_sw hx hb (off := 90) (tgt := 112) dX1_carryOut_22 (by decide) (by rw [hcd17]; decide) (by decide) ?_
    refine lv_aload_n hx hb dX1_carryOut_112 rfl (lv_at hl 2 rfl) ?_
    refine lv_iload hx hb dX1_carryOut_113 (lv_at hl 1 rfl) ?_
    refine lv_iload hx hb dX1_carryOut_115 (lv_at hl 0 rfl) ?_
    obtain ⟨⟨r18, u19⟩, hq20, hp⟩ := o_b hp
    refine g_cVv (As := [.int (σ (41+4*c1) (x2.toNatClampNeg)), .int (σ (42+4*c1) (x2.toNatClampNeg))]) (rest := []) hx hb hml hown hts hK hP hS (mX1_change l hJ hc0 hq20) (cwV 2 hts gX1_carryOut_X1_change rfl rfl rfl nVX1_change ⟨Nat.le_of_ble_eq_true rfl, Nat.le_of_ble_eq_true rfl⟩) (g_recv hK hP (kk_Comp hc0) (ce_Comp hc0) rfl) rfl hl.1 rfl (Nat.le_of_ble_eq_true rfl) dX1_carryOut_117 ⟨Nat.le_of_ble_eq_true rfl, Nat.le_of_ble_eq_true rfl⟩ (fun H locs hP hS => ?_)
    exact kX1_carryOut_120 C0 hK hJ  hP hS (lv_sub hl [] rfl) hp
  have hp := o_f hp hcd17
  by_cases hcd21 : (σ (40+4*c1) (x2.toNatClampNeg)) = (109 : Int32)
  · have hp := o_t hp hcd21
    refine g_sw hx hb (off := 149) (tgt := 171) dX1_carryOut_22 (by decide) (by rw [hcd21]; decide) (by decide) ?_
    refine lv_aload_n hx hb dX1_carryOut_171 rfl (lv_at hl 2 rfl) ?_
    refine g_get (v := .ref (q (16+6*c0))) hx hb hts miX1_carryOut_X1 hown hK hP (kk_Comp hc0) (ce_Comp hc0) rfl 0 (by decide) mwX1_carryOut_5 rfl dX1_carryOut_172 ?_
    refine lv_iload_n hx hb dX1_carryOut_175 rfl (lv_at hl 5 rfl) ?_
    refine lv_iload hx hb dX1_carryOut_176 (lv_at hl 0 rfl) ?_
    refine lv_iadd hx hb dX1_carryOut_178 ?_
    refine lv_aload_n hx hb dX1_carryOut_179 rfl (lv_at hl 2 rfl) ?_
    refine g_get (v := .ref (q (20+6*c0))) hx hb hts miX1_carryOut_X1 hown hK hP (kk_Comp hc0) (ce_Comp hc0) rfl 8 (by decide) mwX1_carryOut_3 rfl dX1_carryOut_180 ?_
    refine lv_iload hx hb dX1_carryOut_183 (lv_at hl 1 rfl) ?_
    obtain ⟨hi22, hp⟩ := o_chk hp
    refine g_iald (j := (σ (41+4*c1) (x2.toNatClampNeg)).toNatClampNeg) hx hb hK hP (kk_Regs hc0) (ce_Regs hc0) 0 rfl (vin_of hi22) rfl dX1_carryOut_185 ?_
    obtain ⟨⟨r23, u24⟩, hq25, hp⟩ := o_b hp
    refine g_cVv (As := [.int (x3 + (σ (42+4*c1) (x2.toNatClampNeg))), .int (σ (20+6*c0) ((σ (41+4*c1) (x2.toNatClampNeg)).toNatClampNeg))]) (rest := []) hx hb hml hown hts hK hP hS (mX4_put l hJ hc0 hq25) (cwV 2 hts gX1_carryOut_X4_put rfl rfl rfl nVX4_put ⟨Nat.le_of_ble_eq_true rfl, Nat.le_of_ble_eq_true rfl⟩) (g_recv hK hP (kk_Mem hc0) (ce_Mem hc0) rfl) rfl hl.1 rfl (Nat.le_of_ble_eq_true rfl) dX1_carryOut_186 ⟨Nat.le_of_ble_eq_true rfl, Nat.le_of_ble_eq_true rfl⟩ (fun H locs hP hS => ?_)
    exact kX1_carryOut_189 C0 hK hJ  hP hS (lv_sub hl [] rfl) hp
  have hp := o_f hp hcd21
  by_cases hcd26 : (σ (40+4*c1) (x2.toNatClampNeg)) = (111 : Int32)
  · have hp := o_t hp hcd26
    refine g_sw hx hb (off := 207) (tgt := 229) dX1_carryOut_22 (by decide) (by rw [hcd26]; decide) (by decide) ?_
    refine lv_aload_n hx hb dX1_carryOut_229 rfl (lv_at hl 2 rfl) ?_
    refine lv_iload hx hb dX1_carryOut_230 (lv_at hl 0 rfl) ?_
    refine g_put (v := σ (42+4*c1) (x2.toNatClampNeg)) hx hb hts miX1_carryOut_X1 tyX1 tyX1_ok nmX1 hown hK hJ hP hS (kk_Comp hc0) (ce_Comp hc0) rfl 12 (by decide) mwX1_carryOut_6 rfl rfl rfl (Nat.le_of_ble_eq_true rfl) rfl dX1_carryOut_232 (fun H locs hP hS => ?_)
    refine lv_aload_n hx hb dX1_carryOut_235 rfl (lv_at hl 2 rfl) ?_
    refine lv_aload_n hx hb dX1_carryOut_236 rfl (lv_at hl 2 rfl) ?_
    refine g_get (v := .ref (q (20+6*c0))) hx hb hts miX1_carryOut_X1 hown hK hP (kk_Comp hc0) (ce_Comp hc0) rfl 8 (by decide) mwX1_carryOut_3 rfl dX1_carryOut_237 ?_
    refine lv_iload hx hb dX1_carryOut_240 (lv_at hl 1 rfl) ?_
    obtain ⟨hi27, hp⟩ := o_chk hp
    refine g_iald (j := (σ (41+4*c1) (x2.toNatClampNeg)).toNatClampNeg) hx hb hK hP (kk_Regs hc0) (ce_Regs hc0) 0 rfl (vin_of hi27) rfl dX1_carryOut_242 ?_
    refine g_put (v := (st2 σ (15+6*c0) 12 (σ (42+4*c1) (x2.toNatClampNeg))) (20+6*c0) ((σ (41+4*c1) (x2.toNatClampNeg)).toNatClampNeg)) hx hb hts miX1_carryOut_X1 tyX1 tyX1_ok nmX1 hown hK hJ hP hS (kk_Comp hc0) (ce_Comp hc0) rfl 13 (by decide) mwX1_carryOut_7 rfl rfl rfl (Nat.le_of_ble_eq_true rfl) rfl dX1_carryOut_243 (fun H locs hP hS => ?_)
    refine lv_goto (tgt := 265) hx hb dX1_carryOut_246 (by decide) ?_
    exact kX1_carryOut_265 C0 hK hJ  hP hS (lv_sub hl [] rfl) hp
  have hp := o_f hp hcd26
  by_cases hcd28 : (σ (40+4*c1) (x2.toNatClampNeg)) = (114 : Int32)
  · have hp := o_t hp hcd28
    refine g_sw hx hb (off := 170) (tgt := 192) dX1_carryOut_22 (by decide) (by rw [hcd28]; decide) (by decide) ?_
    refine lv_aload_n hx hb dX1_carryOut_192 rfl (lv_at hl 2 rfl) ?_
    refine lv_iload hx hb dX1_carryOut_193 (lv_at hl 1 rfl) ?_
    refine lv_aload_n hx hb dX1_carryOut_195 rfl (lv_at hl 2 rfl) ?_
    refine g_get (v := .ref (q (16+6*c0))) hx hb hts miX1_carryOut_X1 hown hK hP (kk_Comp hc0) (ce_Comp hc0) rfl 0 (by decide) mwX1_carryOut_5 rfl dX1_carryOut_196 ?_
    refine lv_iload_n hx hb dX1_carryOut_199 rfl (lv_at hl 5 rfl) ?_
    refine lv_iload hx hb dX1_carryOut_200 (lv_at hl 0 rfl) ?_
    refine lv_iadd hx hb dX1_carryOut_202 ?_
    obtain ⟨⟨r29, u30⟩, hq31, hp⟩ := o_b hp
    refine g_cVi (As := [.int (x3 + (σ (42+4*c1) (x2.toNatClampNeg)))]) (rest := [.int (σ (41+4*c1) (x2.toNatClampNeg)), .ref (q (15+6*c0))]) hx hb hml hown hts hK hP hS (mX4_unflipped l hJ hc0 hq31) (cwV 1 hts gX1_carryOut_X4_unflipped rfl rfl rfl nVX4_unflipped ⟨Nat.le_of_ble_eq_true rfl, Nat.le_of_ble_eq_true rfl⟩) (g_recv hK hP (kk_Mem hc0) (ce_Mem hc0) rfl) rfl hl.1 rfl (Nat.le_of_ble_eq_true rfl) dX1_carryOut_203 ⟨Nat.le_of_ble_eq_true rfl, Nat.le_of_ble_eq_true rfl⟩ (fun H locs hP hS => ?_)
    exact kX1_carryOut_206 C0 hK hJ hc0 hP hS (lv_sub hl [] rfl) hp
  have hp := o_f hp hcd28
  by_cases hcd32 : (σ (40+4*c1) (x2.toNatClampNeg)) = (115 : Int32)
  · have hp := o_t hp hcd32
    refine g_sw hx hb (off := 125) (tgt := 147) dX1_carryOut_22 (by decide) (by rw [hcd32]; decide) (by decide) ?_
    refine lv_aload_n hx hb dX1_carryOut_147 rfl (lv_at hl 2 rfl) ?_
    refine lv_iload hx hb dX1_carryOut_148 (lv_at hl 1 rfl) ?_
    refine lv_aload_n hx hb dX1_carryOut_150 rfl (lv_at hl 2 rfl) ?_
    refine g_get (v := .ref (q (20+6*c0))) hx hb hts miX1_carryOut_X1 hown hK hP (kk_Comp hc0) (ce_Comp hc0) rfl 8 (by decide) mwX1_carryOut_3 rfl dX1_carryOut_151 ?_
    refine lv_iload hx hb dX1_carryOut_154 (lv_at hl 1 rfl) ?_
    obtain ⟨hi33, hp⟩ := o_chk hp
    refine g_iald (j := (σ (41+4*c1) (x2.toNatClampNeg)).toNatClampNeg) hx hb hK hP (kk_Regs hc0) (ce_Regs hc0) 0 rfl (vin_of hi33) rfl dX1_carryOut_156 ?_
    refine lv_aload_n hx hb dX1_carryOut_157 rfl (lv_at hl 2 rfl) ?_
    refine g_get (v := .ref (q (20+6*c0))) hx hb hts miX1_carryOut_X1 hown hK hP (kk_Comp hc0) (ce_Comp hc0) rfl 8 (by decide) mwX1_carryOut_3 rfl dX1_carryOut_158 ?_
    refine lv_iload hx hb dX1_carryOut_161 (lv_at hl 0 rfl) ?_
    obtain ⟨hi34, hp⟩ := o_chk hp
    refine g_iald (j := (σ (42+4*c1) (x2.toNatClampNeg)).toNatClampNeg) hx hb hK hP (kk_Regs hc0) (ce_Regs hc0) 0 rfl (vin_of hi34) rfl dX1_carryOut_163 ?_
    refine lv_isub hx hb dX1_carryOut_164 ?_
    obtain ⟨⟨r35, u36⟩, hq37, hp⟩ := o_b hp
    refine g_cVv (As := [.int (σ (41+4*c1) (x2.toNatClampNeg)), .int ((σ (20+6*c0) ((σ (41+4*c1) (x2.toNatClampNeg)).toNatClampNeg)) - (σ (20+6*c0) ((σ (42+4*c1) (x2.toNatClampNeg)).toNatClampNeg)))]) (rest := []) hx hb hml hown hts hK hP hS (mX1_change l hJ hc0 hq37) (cwV 2 hts gX1_carryOut_X1_change rfl rfl rfl nVX1_change ⟨Nat.le_of_ble_eq_true rfl, Nat.le_of_ble_eq_true rfl⟩) (g_recv hK hP (kk_Comp hc0) (ce_Comp hc0) rfl) rfl hl.1 rfl (Nat.le_of_ble_eq_true rfl) dX1_carryOut_165 ⟨Nat.le_of_ble_eq_true rfl, Nat.le_of_ble_eq_true rfl⟩ (fun H locs hP hS => ?_)
    exact kX1_carryOut_168 C0 hK hJ  hP hS (lv_sub hl [] rfl) hp
  have hp := o_f hp hcd32
  refine g_sw hx hb (off := 227) (tgt := 249) dX1_carryOut_22 (by decide) (g_swd (vs := [(97 : Int32), (105 : Int32), (108 : Int32), (109 : Int32), (111 : Int32), (114 : Int32), (115 : Int32)]) (by decide) (List.not_mem_cons_of_ne_of_not_mem hcd5 (List.not_mem_cons_of_ne_of_not_mem hcd11 (List.not_mem_cons_of_ne_of_not_mem hcd17 (List.not_mem_cons_of_ne_of_not_mem hcd21 (List.not_mem_cons_of_ne_of_not_mem hcd26 (List.not_mem_cons_of_ne_of_not_mem hcd28 (List.not_mem_cons_of_ne_of_not_mem hcd32 List.not_mem_nil)))))))) (by decide) ?_
  refine lv_aload_n hx hb dX1_carryOut_249 rfl (lv_at hl 2 rfl) ?_
  refine g_get (v := .ref (q (20+6*c0))) hx hb hts miX1_carryOut_X1 hown hK hP (kk_Comp hc0) (ce_Comp hc0) rfl 8 (by decide) mwX1_carryOut_3 rfl dX1_carryOut_250 ?_
  refine lv_iload hx hb dX1_carryOut_253 (lv_at hl 1 rfl) ?_
  obtain ⟨hi38, hp⟩ := o_chk hp
  refine g_iald (j := (σ (41+4*c1) (x2.toNatClampNeg)).toNatClampNeg) hx hb hK hP (kk_Regs hc0) (ce_Regs hc0) 0 rfl (vin_of hi38) rfl dX1_carryOut_255 ?_
  refine lv_if_le (tgt := 265) hx hb dX1_carryOut_256 (by decide) (fun hcd39 => ?_) (fun hcd39 => ?_)
  · have hp := o_t hp hcd39
    exact kX1_carryOut_265 C0 hK hJ  hP hS (lv_sub hl [] rfl) hp
  · have hp := o_f hp hcd39
    refine lv_aload_n hx hb dX1_carryOut_259 rfl (lv_at hl 2 rfl) ?_
    refine lv_iload hx hb dX1_carryOut_260 (lv_at hl 0 rfl) ?_
    refine g_put (v := σ (42+4*c1) (x2.toNatClampNeg)) hx hb hts miX1_carryOut_X1 tyX1 tyX1_ok nmX1 hown hK hJ hP hS (kk_Comp hc0) (ce_Comp hc0) rfl 11 (by decide) mwX1_carryOut_8 rfl rfl rfl (Nat.le_of_ble_eq_true rfl) rfl dX1_carryOut_262 (fun H locs hP hS => ?_)
    exact kX1_carryOut_265 C0 hK hJ  hP hS (lv_sub hl [] rfl) hp
def sX1_carryOut (c0 : Nat) (c1 : Nat) (x2 : Int32) (x3 : Int32) (σ : TS) : Option (Int32 × TS) := sX1_carryOut_0 c0 c1 x2 x3 σ
theorem nVX1_carryOut : yX1_carryOut.cls = RX1 ∧ yX1_carryOut.cls ≠ "java/lang/invoke/MethodHandle" ∧ yX1_carryOut.cls ≠ "java/lang/invoke/VarHandle" ∧ (parseMethodDescriptor yX1_carryOut.desc).map (fun d => d.parameters.length) = some 4 := by decide +kernel
set_option maxHeartbeats 4000000 in
set_option maxRecDepth 100000 in
theorem mX1_carryOut (l : Launch) (hJ : gJ 78 q) {c0 : Nat} {c1 : Nat} {x2 : Int32} {x3 : Int32} (hc0 : c0 < 4) (hc1 : c1 < 3) {σ : TS} {r : Int32} {u : TS} (hp : sX1_carryOut c0 c1 x2 x3 σ = some (r, u)) : Met l yX1_carryOut wsX1_carryOut rmX1_carryOut (va_Pc [.ref (q (15+6*c0)), .ref (q (39+4*c1)), .int x2, .int x3, .ref (q (7))] (gPre D vwCl (tyL cy) (gS 78 q (TX cy q) σ))) (gQv D vwCl (gS 78 q (TX cy q) u) (gA 78 q)) 0 0 (gA 78 q) := by
  refine Met.ofW (cc := cX1_carryOut) (maxL := 7) (ret := none) (by decide +kernel) rfl ?_
  intro p e s m args below meth c s₁ B hml hv
  obtain ⟨rfl, hP, hK⟩ := hv
  have hl := lv_entry ([.ref (q (15+6*c0)), .ref (q (39+4*c1)), .int x2, .int x3, .ref (q (7))]) (n := 7) (Nat.le_of_ble_eq_true rfl)
  rw [lg_entry_eq]
  generalize (lg_sl ([.ref (q (15+6*c0)), .ref (q (39+4*c1)), .int x2, .int x3, .ref (q (7))]) ++ List.replicate (7 - (lg_sl ([.ref (q (15+6*c0)), .ref (q (39+4*c1)), .int x2, .int x3, .ref (q (7))])).length) Slot.unset).toArray = ls at hl ⊢
  have hl : lv_has ls 7 [(0, .ref (q (15+6*c0))), (1, .ref (q (39+4*c1))), (2, .int x2), (3, .int x3), (4, .ref (q (7)))] := hl
  exact kX1_carryOut_0 ⟨B.exec, B.bytes, B.returns, hml, findClass_of_methodNamed B.named, atoms_spec (ws := wsX1_carryOut) B.pre, B.notSynchronized⟩ hK hJ hc0 hc1 hP va_S.rf hl hp
theorem miX1_doNext_X1 : ∀ w ∈ u_ws RX1 TX1 14, w ∈ wsX1_doNext := by decide +kernel
theorem miX1_doNext_X6 : ∀ w ∈ u_ws RX6 TX6 5, w ∈ wsX1_doNext := by decide +kernel
theorem mwX1_doNext_0 : Cond.fieldLink RX1 51 "Triplane$Computer" "next" "I" ∈ wsX1_doNext := by decide +kernel
theorem mwX1_doNext_1 : Cond.fieldLink RX1 77 "Triplane$Program" "kinds" "[C" ∈ wsX1_doNext := by decide +kernel
theorem mwX1_doNext_2 : Cond.fieldLink RX1 12 "Triplane$Computer" "memory" "LTriplane$Memory;" ∈ wsX1_doNext := by decide +kernel
theorem mwX1_doNext_3 : Cond.fieldLink RX1 81 "Triplane$Program" "ns" "[I" ∈ wsX1_doNext := by decide +kernel
theorem mwX1_doNext_4 : Cond.fieldLink RX1 54 "Triplane$Computer" "givenOutput" "I" ∈ wsX1_doNext := by decide +kernel
abbrev rmX1_doNext : Room := { frames := 3, cells := 0, slots := 0, locals := 70 }
def sX1_doNext_71 (σ : TS) : Option (Int32 × TS) := some ((1 : Int32), σ)
set_option maxHeartbeats 4000000 in
set_option maxRecDepth 100000 in
theorem kX1_doNext_71 {r : Int32} {u : TS} (C0 : gC RX1 cX1_doNext 5 ((some .boolean)) wsX1_doNext p s m args meth c) (hK : va_K D vwCl (tyL cy) s) (hJ : gJ 78 q) {H : Heap} {locs : List Loc} {σ : TS} (hP : va_P D vwCl (gS 78 q (TX cy q) σ) H) (hS : va_S (gA 78 q) s.heap H locs) {ls : Array Slot} (hl : lv_has ls 5 []) (hp : sX1_doNext_71 σ = some (r, u)) : W p l e rmX1_doNext s m args below meth c H locs 0 0 (MQ below (gQi D vwCl r (gS 78 q (TX cy q) u) (gA 78 q)) args s 0 0 (gA 78 q)) (F0 m 71 ls []) := by
  obtain ⟨hx, hb, hr, hml, hown, hts, hlocks⟩ := id C0
  unfold sX1_doNext_71 at hp
  refine lv_iconst (v := (1 : Int32)) hx hb dX1_doNext_71 (by decide) ?_
  obtain ⟨rfl, rfl⟩ := o_r hp
  exact W.zret (v := (1 : Int32)) hx hb hr (zok_n (by decide)).1 (fun t ht hW => ⟨⟨(1 : Int32), (), rfl, rfl, by subst ht; exact hP⟩, hS.F ht⟩) hS.2.2 dX1_doNext_72
def sX1_doNext_54 (c0 : Nat) (c1 : Nat) (x2 : Int32) (x4 : Int32) (σ : TS) : Option (Int32 × TS) := ((sX1_carryOut c0 c1 x4 x2 (st2 σ (15+6*c0) 11 (x4 + ((1 : Int32))))).bind (fun z => sX1_doNext_71 z.2))
set_option maxHeartbeats 4000000 in
set_option maxRecDepth 100000 in
theorem kX1_doNext_54 {r : Int32} {u : TS} (C0 : gC RX1 cX1_doNext 5 ((some .boolean)) wsX1_doNext p s m args meth c) (hK : va_K D vwCl (tyL cy) s) (hJ : gJ 78 q) {H : Heap} {locs : List Loc} {σ : TS} {c0 : Nat} {c1 : Nat} {x2 : Int32} {x4 : Int32} (hc0 : c0 < 4) (hc1 : c1 < 3) (hP : va_P D vwCl (gS 78 q (TX cy q) σ) H) (hS : va_S (gA 78 q) s.heap H locs) {ls : Array Slot} (hl : lv_has ls 5 [(0, .ref (q (15+6*c0))), (1, .ref (q (39+4*c1))), (2, .int x2), (3, .ref (q (7))), (4, .int x4)]) (hp : sX1_doNext_54 c0 c1 x2 x4 σ = some (r, u)) : W p l e rmX1_doNext s m args below meth c H locs 0 0 (MQ below (gQi D vwCl r (gS 78 q (TX cy q) u) (gA 78 q)) args s 0 0 (gA 78 q)) (F0 m 54 ls []) := by
  obtain ⟨hx, hb, hr, hml, hown, hts, hlocks⟩ := id C0
  unfold sX1_doNext_54 at hp
  refine lv_aload_n hx hb dX1_doNext_54 rfl (lv_at hl 0 rfl) ?_
  refine lv_iload hx hb dX1_doNext_55 (lv_at hl 4 rfl) ?_
  refine lv_iconst (v := (1 : Int32)) hx hb dX1_doNext_57 (by decide) ?_
  refine lv_iadd hx hb dX1_doNext_58 ?_
  refine g_put (v := x4 + ((1 : Int32))) hx hb hts miX1_doNext_X1 tyX1 tyX1_ok nmX1 hown hK hJ hP hS (kk_Comp hc0) (ce_Comp hc0) rfl 11 (by decide) mwX1_doNext_0 rfl rfl rfl (Nat.le_of_ble_eq_true rfl) rfl dX1_doNext_59 (fun H locs hP hS => ?_)
  refine lv_aload_n hx hb dX1_doNext_62 rfl (lv_at hl 0 rfl) ?_
  refine lv_aload_n hx hb dX1_doNext_63 rfl (lv_at hl 1 rfl) ?_
  refine lv_iload hx hb dX1_doNext_64 (lv_at hl 4 rfl) ?_
  refine lv_iload_n hx hb dX1_doNext_66 rfl (lv_at hl 2 rfl) ?_
  refine lv_aload_n hx hb dX1_doNext_67 rfl (lv_at hl 3 rfl) ?_
  obtain ⟨⟨r1, u2⟩, hq3, hp⟩ := o_b hp
  refine g_cVv (As := [.ref (q (39+4*c1)), .int x4, .int x2, .ref (q (7))]) (rest := []) hx hb hml hown hts hK hP hS (mX1_carryOut l hJ hc0 hc1 hq3) (cwV 4 hts gX1_doNext_X1_carryOut rfl rfl rfl nVX1_carryOut ⟨Nat.le_of_ble_eq_true rfl, Nat.le_of_ble_eq_true rfl⟩) (g_recv hK hP (kk_Comp hc0) (ce_Comp hc0) rfl) rfl hl.1 rfl (Nat.le_of_ble_eq_true rfl) dX1_doNext_68 ⟨Nat.le_of_ble_eq_true rfl, Nat.le_of_ble_eq_true rfl⟩ (fun H locs hP hS => ?_)
  exact kX1_doNext_71 C0 hK hJ  hP hS (lv_sub hl [] rfl) hp
def sX1_doNext_49 (c0 : Nat) (c1 : Nat) (x2 : Int32) (x4 : Int32) (sx0 : Int32) (σ : TS) : Option (Int32 × TS) := (if sx0 = 0 then some ((0 : Int32), σ) else sX1_doNext_54 c0 c1 x2 x4 σ)
set_option maxHeartbeats 4000000 in
set_option maxRecDepth 100000 in
theorem kX1_doNext_49 {r : Int32} {u : TS} (C0 : gC RX1 cX1_doNext 5 ((some .boolean)) wsX1_doNext p s m args meth c) (hK : va_K D vwCl (tyL cy) s) (hJ : gJ 78 q) {H : Heap} {locs : List Loc} {σ : TS} {c0 : Nat} {c1 : Nat} {x2 : Int32} {x4 : Int32} {sx0 : Int32} (hc0 : c0 < 4) (hc1 : c1 < 3) (hP : va_P D vwCl (gS 78 q (TX cy q) σ) H) (hS : va_S (gA 78 q) s.heap H locs) {ls : Array Slot} (hl : lv_has ls 5 [(0, .ref (q (15+6*c0))), (1, .ref (q (39+4*c1))), (2, .int x2), (3, .ref (q (7))), (4, .int x4)]) (hp : sX1_doNext_49 c0 c1 x2 x4 sx0 σ = some (r, u)) : W p l e rmX1_doNext s m args below meth c H locs 0 0 (MQ below (gQi D vwCl r (gS 78 q (TX cy q) u) (gA 78 q)) args s 0 0 (gA 78 q)) (F0 m 49 ls [.int sx0]) := by
  obtain ⟨hx, hb, hr, hml, hown, hts, hlocks⟩ := id C0
  unfold sX1_doNext_49 at hp
  refine lv_if_ne (tgt := 54) hx hb dX1_doNext_49 (by decide) (fun hcd4 => ?_) (fun hcd4 => ?_)
  · have hp := o_f hp hcd4
    exact kX1_doNext_54 C0 hK hJ hc0 hc1 hP hS hl hp
  · have hp := o_t hp hcd4
    refine lv_iconst (v := (0 : Int32)) hx hb dX1_doNext_52 (by decide) ?_
    obtain ⟨rfl, rfl⟩ := o_r hp
    exact W.zret (v := (0 : Int32)) hx hb hr (zok_n (by decide)).1 (fun t ht hW => ⟨⟨(0 : Int32), (), rfl, rfl, by subst ht; exact hP⟩, hS.F ht⟩) hS.2.2 dX1_doNext_53
def sX1_doNext_10 (c0 : Nat) (c1 : Nat) (x2 : Int32) (sx0 : Int32) (σ : TS) : Option (Int32 × TS) := (if sx0 = 0 then some ((1 : Int32), σ) else (if vin (σ (15+6*c0) 11) 10 = true then (if (σ (40+4*c1) ((σ (15+6*c0) 11).toNatClampNeg)) = ((114 : Int32)) then ((sX4_mend c0 (x2 + (σ (42+4*c1) ((σ (15+6*c0) 11).toNatClampNeg))) σ).bind (fun z => sX1_doNext_49 c0 c1 x2 (σ (15+6*c0) 11) z.1 z.2)) else sX1_doNext_54 c0 c1 x2 (σ (15+6*c0) 11) σ) else none))
set_option maxHeartbeats 4000000 in
set_option maxRecDepth 100000 in
theorem kX1_doNext_10 {r : Int32} {u : TS} (C0 : gC RX1 cX1_doNext 5 ((some .boolean)) wsX1_doNext p s m args meth c) (hK : va_K D vwCl (tyL cy) s) (hJ : gJ 78 q) {H : Heap} {locs : List Loc} {σ : TS} {c0 : Nat} {c1 : Nat} {x2 : Int32} {sx0 : Int32} (hc0 : c0 < 4) (hc1 : c1 < 3) (hP : va_P D vwCl (gS 78 q (TX cy q) σ) H) (hS : va_S (gA 78 q) s.heap H locs) {ls : Array Slot} (hl : lv_has ls 5 [(0, .ref (q (15+6*c0))), (1, .ref (q (39+4*c1))), (2, .int x2), (3, .ref (q (7)))]) (hp : sX1_doNext_10 c0 c1 x2 sx0 σ = some (r, u)) : W p l e rmX1_doNext s m args below meth c H locs 0 0 (MQ below (gQi D vwCl r (gS 78 q (TX cy q) u) (gA 78 q)) args s 0 0 (gA 78 q)) (F0 m 10 ls [.int sx0]) := by
  obtain ⟨hx, hb, hr, hml, hown, hts, hlocks⟩ := id C0
  unfold sX1_doNext_10 at hp
  refine lv_if_ne (tgt := 15) hx hb dX1_doNext_10 (by decide) (fun hcd5 => ?_) (fun hcd5 => ?_)
  · have hp := o_f hp hcd5
    refine lv_aload_n hx hb dX1_doNext_15 rfl (lv_at hl 0 rfl) ?_
    refine g_get (v := .int (σ (15+6*c0) 11)) hx hb hts miX1_doNext_X1 hown hK hP (kk_Comp hc0) (ce_Comp hc0) rfl 11 (by decide) mwX1_doNext_0 rfl dX1_doNext_16 ?_
    refine lv_istore (lv' := [(4, .int (σ (15+6*c0) 11)), (0, .ref (q (15+6*c0))), (1, .ref (q (39+4*c1))), (2, .int x2), (3, .ref (q (7)))]) hx hb dX1_doNext_19 hl (by decide) rfl (fun ls hl => ?_)
    refine lv_aload_n hx hb dX1_doNext_21 rfl (lv_at hl 2 rfl) ?_
    refine g_get (v := .ref (q (40+4*c1))) hx hb hts miX1_doNext_X6 hown hK hP (kk_Prog hc1) (ce_Prog hc1) rfl 0 (by decide) mwX1_doNext_1 rfl dX1_doNext_22 ?_
    refine lv_iload hx hb dX1_doNext_25 (lv_at hl 0 rfl) ?_
    obtain ⟨hi6, hp⟩ := o_chk hp
    refine g_cald (j := (σ (15+6*c0) 11).toNatClampNeg) hx hb hK hP (kk_PK hc1) (ce_PK hc1) 2 rfl (vin_of hi6) rfl dX1_doNext_27 ?_
    refine lv_bipush (v := (114 : Int32)) hx hb dX1_doNext_28 (by decide) ?_
    refine lv_icmp_ne (tgt := 54) hx hb dX1_doNext_30 (by decide) (fun hcd7 => ?_) (fun hcd7 => ?_)
    · have hp := o_f hp hcd7
      exact kX1_doNext_54 C0 hK hJ hc0 hc1 hP hS (lv_sub hl [1, 2, 3, 4, 0] rfl) hp
    · have hp := o_t hp hcd7
      refine lv_aload_n hx hb dX1_doNext_33 rfl (lv_at hl 1 rfl) ?_
      refine g_get (v := .ref (q (16+6*c0))) hx hb hts miX1_doNext_X1 hown hK hP (kk_Comp hc0) (ce_Comp hc0) rfl 0 (by decide) mwX1_doNext_2 rfl dX1_doNext_34 ?_
      refine lv_iload_n hx hb dX1_doNext_37 rfl (lv_at hl 3 rfl) ?_
      refine lv_aload_n hx hb dX1_doNext_38 rfl (lv_at hl 2 rfl) ?_
      refine g_get (v := .ref (q (42+4*c1))) hx hb hts miX1_doNext_X6 hown hK hP (kk_Prog hc1) (ce_Prog hc1) rfl 2 (by decide) mwX1_doNext_3 rfl dX1_doNext_39 ?_
      refine lv_iload hx hb dX1_doNext_42 (lv_at hl 0 rfl) ?_
      refine g_iald (j := (σ (15+6*c0) 11).toNatClampNeg) hx hb hK hP (kk_PN hc1) (ce_PN hc1) 0 rfl (vin_of hi6) rfl dX1_doNext_44 ?_
      refine lv_iadd hx hb dX1_doNext_45 ?_
      obtain ⟨⟨r8, u9⟩, hq10, hp⟩ := o_b hp
      refine g_cVi (As := [.int (x2 + (σ (42+4*c1) ((σ (15+6*c0) 11).toNatClampNeg)))]) (rest := []) hx hb hml hown hts hK hP hS (mX4_mend l hJ hc0 hq10) (cwV 1 hts gX1_doNext_X4_mend rfl rfl rfl nVX4_mend ⟨Nat.le_of_ble_eq_true rfl, Nat.le_of_ble_eq_true rfl⟩) (g_recv hK hP (kk_Mem hc0) (ce_Mem hc0) rfl) rfl hl.1 rfl (Nat.le_of_ble_eq_true rfl) dX1_doNext_46 ⟨Nat.le_of_ble_eq_true rfl, Nat.le_of_ble_eq_true rfl⟩ (fun H locs hP hS => ?_)
      exact kX1_doNext_49 C0 hK hJ hc0 hc1 hP hS (lv_sub hl [1, 2, 3, 4, 0] rfl) hp
  · have hp := o_t hp hcd5
    refine lv_iconst (v := (1 : Int32)) hx hb dX1_doNext_13 (by decide) ?_
    obtain ⟨rfl, rfl⟩ := o_r hp
    exact W.zret (v := (1 : Int32)) hx hb hr (zok_n (by decide)).1 (fun t ht hW => ⟨⟨(1 : Int32), (), rfl, rfl, by subst ht; exact hP⟩, hS.F ht⟩) hS.2.2 dX1_doNext_14
def sX1_doNext_0 (c0 : Nat) (c1 : Nat) (x2 : Int32) (σ : TS) : Option (Int32 × TS) := ((sX1_hasLeft c0 c1 (st2 σ (15+6*c0) 12 ((-1 : Int32)))).bind (fun z => sX1_doNext_10 c0 c1 x2 z.1 z.2))
set_option maxHeartbeats 4000000 in
set_option maxRecDepth 100000 in
theorem kX1_doNext_0 {r : Int32} {u : TS} (C0 : gC RX1 cX1_doNext 5 ((some .boolean)) wsX1_doNext p s m args meth c) (hK : va_K D vwCl (tyL cy) s) (hJ : gJ 78 q) {H : Heap} {locs : List Loc} {σ : TS} {c0 : Nat} {c1 : Nat} {x2 : Int32} (hc0 : c0 < 4) (hc1 : c1 < 3) (hP : va_P D vwCl (gS 78 q (TX cy q) σ) H) (hS : va_S (gA 78 q) s.heap H locs) {ls : Array Slot} (hl : lv_has ls 5 [(0, .ref (q (15+6*c0))), (1, .ref (q (39+4*c1))), (2, .int x2), (3, .ref (q (7)))]) (hp : sX1_doNext_0 c0 c1 x2 σ = some (r, u)) : W p l e rmX1_doNext s m args below meth c H locs 0 0 (MQ below (gQi D vwCl r (gS 78 q (TX cy q) u) (gA 78 q)) args s 0 0 (gA 78 q)) (F0 m 0 ls []) := by
  obtain ⟨hx, hb, hr, hml, hown, hts, hlocks⟩ := id C0
  unfold sX1_doNext_0 at hp
  refine lv_aload_n hx hb dX1_doNext_0 rfl (lv_at hl 0 rfl) ?_
  refine lv_iconst (v := (-1 : Int32)) hx hb dX1_doNext_1 (by decide) ?_
  refine g_put (v := (-1 : Int32)) hx hb hts miX1_doNext_X1 tyX1 tyX1_ok nmX1 hown hK hJ hP hS (kk_Comp hc0) (ce_Comp hc0) rfl 12 (by decide) mwX1_doNext_4 rfl rfl rfl (Nat.le_of_ble_eq_true rfl) rfl dX1_doNext_2 (fun H locs hP hS => ?_)
  refine lv_aload_n hx hb dX1_doNext_5 rfl (lv_at hl 0 rfl) ?_
  refine lv_aload_n hx hb dX1_doNext_6 rfl (lv_at hl 1 rfl) ?_
  obtain ⟨⟨r11, u12⟩, hq13, hp⟩ := o_b hp
  refine g_cVi (As := [.ref (q (39+4*c1))]) (rest := []) hx hb hml hown hts hK hP hS (mX1_hasLeft l hJ hc0 hc1 hq13) (cwV 1 hts gX1_doNext_X1_hasLeft rfl rfl rfl nVX1_hasLeft ⟨Nat.le_of_ble_eq_true rfl, Nat.le_of_ble_eq_true rfl⟩) (g_recv hK hP (kk_Comp hc0) (ce_Comp hc0) rfl) rfl hl.1 rfl (Nat.le_of_ble_eq_true rfl) dX1_doNext_7 ⟨Nat.le_of_ble_eq_true rfl, Nat.le_of_ble_eq_true rfl⟩ (fun H locs hP hS => ?_)
  exact kX1_doNext_10 C0 hK hJ hc0 hc1 hP hS hl hp
def sX1_doNext (c0 : Nat) (c1 : Nat) (x2 : Int32) (σ : TS) : Option (Int32 × TS) := sX1_doNext_0 c0 c1 x2 σ
theorem nVX1_doNext : yX1_doNext.cls = RX1 ∧ yX1_doNext.cls ≠ "java/lang/invoke/MethodHandle" ∧ yX1_doNext.cls ≠ "java/lang/invoke/VarHandle" ∧ (parseMethodDescriptor yX1_doNext.desc).map (fun d => d.parameters.length) = some 3 := by decide +kernel
set_option maxHeartbeats 4000000 in
set_option maxRecDepth 100000 in
theorem mX1_doNext (l : Launch) (hJ : gJ 78 q) {c0 : Nat} {c1 : Nat} {x2 : Int32} (hc0 : c0 < 4) (hc1 : c1 < 3) {σ : TS} {r : Int32} {u : TS} (hp : sX1_doNext c0 c1 x2 σ = some (r, u)) : Met l yX1_doNext wsX1_doNext rmX1_doNext (va_Pc [.ref (q (15+6*c0)), .ref (q (39+4*c1)), .int x2, .ref (q (7))] (gPre D vwCl (tyL cy) (gS 78 q (TX cy q) σ))) (gQi D vwCl r (gS 78 q (TX cy q) u) (gA 78 q)) 0 0 (gA 78 q) := by
  refine Met.ofW (cc := cX1_doNext) (maxL := 5) (ret := (some .boolean)) (by decide +kernel) rfl ?_
  intro p e s m args below meth c s₁ B hml hv
  obtain ⟨rfl, hP, hK⟩ := hv
  have hl := lv_entry ([.ref (q (15+6*c0)), .ref (q (39+4*c1)), .int x2, .ref (q (7))]) (n := 5) (Nat.le_of_ble_eq_true rfl)
  rw [lg_entry_eq]
  generalize (lg_sl ([.ref (q (15+6*c0)), .ref (q (39+4*c1)), .int x2, .ref (q (7))]) ++ List.replicate (5 - (lg_sl ([.ref (q (15+6*c0)), .ref (q (39+4*c1)), .int x2, .ref (q (7))])).length) Slot.unset).toArray = ls at hl ⊢
  have hl : lv_has ls 5 [(0, .ref (q (15+6*c0))), (1, .ref (q (39+4*c1))), (2, .int x2), (3, .ref (q (7)))] := hl
  exact kX1_doNext_0 ⟨B.exec, B.bytes, B.returns, hml, findClass_of_methodNamed B.named, atoms_spec (ws := wsX1_doNext) B.pre, B.notSynchronized⟩ hK hJ hc0 hc1 hP va_S.rf hl hp
theorem miX1_givesLike_X1 : ∀ w ∈ u_ws RX1 TX1 14, w ∈ wsX1_givesLike := by decide +kernel
theorem mwX1_givesLike_0 : Cond.fieldLink RX1 54 "Triplane$Computer" "givenOutput" "I" ∈ wsX1_givesLike := by decide +kernel
theorem mwX1_givesLike_1 : Cond.fieldLink RX1 57 "Triplane$Computer" "givenNumber" "I" ∈ wsX1_givesLike := by decide +kernel
abbrev rmX1_givesLike : Room := { frames := 0, cells := 0, slots := 0, locals := 0 }
def sX1_givesLike_37 (sx0 : Int32) (σ : TS) : Option (Int32 × TS) := (if zok sx0 = true then some (sx0, σ) else none)
set_option maxHeartbeats 4000000 in
set_option maxRecDepth 100000 in
theorem kX1_givesLike_37 {r : Int32} {u : TS} (C0 : gC RX1 cX1_givesLike 2 ((some .boolean)) wsX1_givesLike p s m args meth c) (hK : va_K D vwCl (tyL cy) s) (hJ : gJ 78 q) {H : Heap} {locs : List Loc} {σ : TS} {sx0 : Int32} (hP : va_P D vwCl (gS 78 q (TX cy q) σ) H) (hS : va_S (gA 78 q) s.heap H locs) {ls : Array Slot} (hl : lv_has ls 2 []) (hp : sX1_givesLike_37 sx0 σ = some (r, u)) : W p l e rmX1_givesLike s m args below meth c H locs 0 0 (MQ below (gQi D vwCl r (gS 78 q (TX cy q) u) (gA 78 q)) args s 0 0 (gA 78 q)) (F0 m 37 ls [.int sx0]) := by
  obtain ⟨hx, hb, hr, hml, hown, hts, hlocks⟩ := id C0
  unfold sX1_givesLike_37 at hp
  obtain ⟨hz1, hp⟩ := o_chk hp
  obtain ⟨rfl, rfl⟩ := o_r hp
  exact W.zret (v := sx0) hx hb hr (zok_n hz1).1 (fun t ht hW => ⟨⟨sx0, (), rfl, rfl, by subst ht; exact hP⟩, hS.F ht⟩) hS.2.2 dX1_givesLike_37
def sX1_givesLike_32 (σ : TS) : Option (Int32 × TS) := sX1_givesLike_37 ((1 : Int32)) σ
set_option maxHeartbeats 4000000 in
set_option maxRecDepth 100000 in
theorem kX1_givesLike_32 {r : Int32} {u : TS} (C0 : gC RX1 cX1_givesLike 2 ((some .boolean)) wsX1_givesLike p s m args meth c) (hK : va_K D vwCl (tyL cy) s) (hJ : gJ 78 q) {H : Heap} {locs : List Loc} {σ : TS} (hP : va_P D vwCl (gS 78 q (TX cy q) σ) H) (hS : va_S (gA 78 q) s.heap H locs) {ls : Array Slot} (hl : lv_has ls 2 []) (hp : sX1_givesLike_32 σ = some (r, u)) : W p l e rmX1_givesLike s m args below meth c H locs 0 0 (MQ below (gQi D vwCl r (gS 78 q (TX cy q) u) (gA 78 q)) args s 0 0 (gA 78 q)) (F0 m 32 ls []) := by
  obtain ⟨hx, hb, hr, hml, hown, hts, hlocks⟩ := id C0
  unfold sX1_givesLike_32 at hp
  refine lv_iconst (v := (1 : Int32)) hx hb dX1_givesLike_32 (by decide) ?_
  refine lv_goto (tgt := 37) hx hb dX1_givesLike_33 (by decide) ?_
  exact kX1_givesLike_37 C0 hK hJ  hP hS hl hp
def sX1_givesLike_0 (c0 : Nat) (c1 : Nat) (σ : TS) : Option (Int32 × TS) := (if (σ (15+6*c0) 12) = (σ (15+6*c1) 12) then (if (σ (15+6*c0) 12) = ((-1 : Int32)) then sX1_givesLike_32 σ else (if (σ (15+6*c0) 13) = (σ (15+6*c1) 13) then sX1_givesLike_32 σ else sX1_givesLike_37 ((0 : Int32)) σ)) else some ((0 : Int32), σ))
set_option maxHeartbeats 4000000 in
set_option maxRecDepth 100000 in
theorem kX1_givesLike_0 {r : Int32} {u : TS} (C0 : gC RX1 cX1_givesLike 2 ((some .boolean)) wsX1_givesLike p s m args meth c) (hK : va_K D vwCl (tyL cy) s) (hJ : gJ 78 q) {H : Heap} {locs : List Loc} {σ : TS} {c0 : Nat} {c1 : Nat} (hc0 : c0 < 4) (hc1 : c1 < 4) (hP : va_P D vwCl (gS 78 q (TX cy q) σ) H) (hS : va_S (gA 78 q) s.heap H locs) {ls : Array Slot} (hl : lv_has ls 2 [(0, .ref (q (15+6*c0))), (1, .ref (q (15+6*c1)))]) (hp : sX1_givesLike_0 c0 c1 σ = some (r, u)) : W p l e rmX1_givesLike s m args below meth c H locs 0 0 (MQ below (gQi D vwCl r (gS 78 q (TX cy q) u) (gA 78 q)) args s 0 0 (gA 78 q)) (F0 m 0 ls []) := by
  obtain ⟨hx, hb, hr, hml, hown, hts, hlocks⟩ := id C0
  unfold sX1_givesLike_0 at hp
  refine lv_aload_n hx hb dX1_givesLike_0 rfl (lv_at hl 0 rfl) ?_
  refine g_get (v := .int (σ (15+6*c0) 12)) hx hb hts miX1_givesLike_X1 hown hK hP (kk_Comp hc0) (ce_Comp hc0) rfl 12 (by decide) mwX1_givesLike_0 rfl dX1_givesLike_1 ?_
  refine lv_aload_n hx hb dX1_givesLike_4 rfl (lv_at hl 1 rfl) ?_
  refine g_get (v := .int (σ (15+6*c1) 12)) hx hb hts miX1_givesLike_X1 hown hK hP (kk_Comp hc1) (ce_Comp hc1) rfl 12 (by decide) mwX1_givesLike_0 rfl dX1_givesLike_5 ?_
  refine lv_icmp_eq (tgt := 13) hx hb dX1_givesLike_8 (by decide) (fun hcd2 => ?_) (fun hcd2 => ?_)
  · have hp := o_t hp hcd2
    refine lv_aload_n hx hb dX1_givesLike_13 rfl (lv_at hl 0 rfl) ?_
    refine g_get (v := .int (σ (15+6*c0) 12)) hx hb hts miX1_givesLike_X1 hown hK hP (kk_Comp hc0) (ce_Comp hc0) rfl 12 (by decide) mwX1_givesLike_0 rfl dX1_givesLike_14 ?_
    refine lv_iconst (v := (-1 : Int32)) hx hb dX1_givesLike_17 (by decide) ?_
    refine lv_icmp_eq (tgt := 32) hx hb dX1_givesLike_18 (by decide) (fun hcd3 => ?_) (fun hcd3 => ?_)
    · have hp := o_t hp hcd3
      exact kX1_givesLike_32 C0 hK hJ  hP hS (lv_sub hl [] rfl) hp
    · have hp := o_f hp hcd3
      refine lv_aload_n hx hb dX1_givesLike_21 rfl (lv_at hl 0 rfl) ?_
      refine g_get (v := .int (σ (15+6*c0) 13)) hx hb hts miX1_givesLike_X1 hown hK hP (kk_Comp hc0) (ce_Comp hc0) rfl 13 (by decide) mwX1_givesLike_1 rfl dX1_givesLike_22 ?_
      refine lv_aload_n hx hb dX1_givesLike_25 rfl (lv_at hl 1 rfl) ?_
      refine g_get (v := .int (σ (15+6*c1) 13)) hx hb hts miX1_givesLike_X1 hown hK hP (kk_Comp hc1) (ce_Comp hc1) rfl 13 (by decide) mwX1_givesLike_1 rfl dX1_givesLike_26 ?_
      refine lv_icmp_ne (tgt := 36) hx hb dX1_givesLike_29 (by decide) (fun hcd4 => ?_) (fun hcd4 => ?_)
      · have hp := o_f hp hcd4
        refine lv_iconst (v := (0 : Int32)) hx hb dX1_givesLike_36 (by decide) ?_
        exact kX1_givesLike_37 C0 hK hJ  hP hS (lv_sub hl [] rfl) hp
      · have hp := o_t hp hcd4
        exact kX1_givesLike_32 C0 hK hJ  hP hS (lv_sub hl [] rfl) hp
  · have hp := o_f hp hcd2
    refine lv_iconst (v := (0 : Int32)) hx hb dX1_givesLike_11 (by decide) ?_
    obtain ⟨rfl, rfl⟩ := o_r hp
    exact W.zret (v := (0 : Int32)) hx hb hr (zok_n (by decide)).1 (fun t ht hW => ⟨⟨(0 : Int32), (), rfl, rfl, by subst ht; exact hP⟩, hS.F ht⟩) hS.2.2 dX1_givesLike_12
def sX1_givesLike (c0 : Nat) (c1 : Nat) (σ : TS) : Option (Int32 × TS) := sX1_givesLike_0 c0 c1 σ
theorem nVX1_givesLike : yX1_givesLike.cls = RX1 ∧ yX1_givesLike.cls ≠ "java/lang/invoke/MethodHandle" ∧ yX1_givesLike.cls ≠ "java/lang/invoke/VarHandle" ∧ (parseMethodDescriptor yX1_givesLike.desc).map (fun d => d.parameters.length) = some 1 := by decide +kernel
set_option maxHeartbeats 4000000 in
set_option maxRecDepth 100000 in
theorem mX1_givesLike (l : Launch) (hJ : gJ 78 q) {c0 : Nat} {c1 : Nat} (hc0 : c0 < 4) (hc1 : c1 < 4) {σ : TS} {r : Int32} {u : TS} (hp : sX1_givesLike c0 c1 σ = some (r, u)) : Met l yX1_givesLike wsX1_givesLike rmX1_givesLike (va_Pc [.ref (q (15+6*c0)), .ref (q (15+6*c1))] (gPre D vwCl (tyL cy) (gS 78 q (TX cy q) σ))) (gQi D vwCl r (gS 78 q (TX cy q) u) (gA 78 q)) 0 0 (gA 78 q) := by
  refine Met.ofW (cc := cX1_givesLike) (maxL := 2) (ret := (some .boolean)) (by decide +kernel) rfl ?_
  intro p e s m args below meth c s₁ B hml hv
  obtain ⟨rfl, hP, hK⟩ := hv
  have hl := lv_entry ([.ref (q (15+6*c0)), .ref (q (15+6*c1))]) (n := 2) (Nat.le_of_ble_eq_true rfl)
  rw [lg_entry_eq]
  generalize (lg_sl ([.ref (q (15+6*c0)), .ref (q (15+6*c1))]) ++ List.replicate (2 - (lg_sl ([.ref (q (15+6*c0)), .ref (q (15+6*c1))])).length) Slot.unset).toArray = ls at hl ⊢
  have hl : lv_has ls 2 [(0, .ref (q (15+6*c0))), (1, .ref (q (15+6*c1)))] := hl
  exact kX1_givesLike_0 ⟨B.exec, B.bytes, B.returns, hml, findClass_of_methodNamed B.named, atoms_spec (ws := wsX1_givesLike) B.pre, B.notSynchronized⟩ hK hJ hc0 hc1 hP va_S.rf hl hp
theorem miX1_handTo_X1 : ∀ w ∈ u_ws RX1 TX1 14, w ∈ wsX1_handTo := by decide +kernel
theorem mwX1_handTo_0 : Cond.fieldLink RX1 54 "Triplane$Computer" "givenOutput" "I" ∈ wsX1_handTo := by decide +kernel
theorem mwX1_handTo_1 : Cond.fieldLink RX1 57 "Triplane$Computer" "givenNumber" "I" ∈ wsX1_handTo := by decide +kernel
abbrev rmX1_handTo : Room := { frames := 0, cells := 0, slots := 0, locals := 0 }
def sX1_handTo_18 (σ : TS) : Option (Int32 × TS) := some (0, σ)
set_option maxHeartbeats 4000000 in
set_option maxRecDepth 100000 in
theorem kX1_handTo_18 {r : Int32} {u : TS} (C0 : gC RX1 cX1_handTo 2 none wsX1_handTo p s m args meth c) (hK : va_K D vwCl (tyL cy) s) (hJ : gJ 78 q) {H : Heap} {locs : List Loc} {σ : TS} (hP : va_P D vwCl (gS 78 q (TX cy q) σ) H) (hS : va_S (gA 78 q) s.heap H locs) {ls : Array Slot} (hl : lv_has ls 2 []) (hp : sX1_handTo_18 σ = some (r, u)) : W p l e rmX1_handTo s m args below meth c H locs 0 0 (MQ below (gQv D vwCl (gS 78 q (TX cy q) u) (gA 78 q)) args s 0 0 (gA 78 q)) (F0 m 18 ls []) := by
  obtain ⟨hx, hb, hr, hml, hown, hts, hlocks⟩ := id C0
  unfold sX1_handTo_18 at hp
  obtain ⟨rfl, rfl⟩ := o_r hp
  exact W.vret hx hb hr (fun t ht hW => ⟨⟨(), rfl, trivial, by subst ht; exact hP⟩, hS.F ht⟩) hS.2.2 dX1_handTo_18
def sX1_handTo_0 (c0 : Nat) (c1 : Nat) (σ : TS) : Option (Int32 × TS) := (if (σ (15+6*c0) 12) = ((-1 : Int32)) then sX1_handTo_18 σ else (if vin (σ (15+6*c0) 12) 4 = true then sX1_handTo_18 (st2 σ (9+c1) ((σ (15+6*c0) 12).toNatClampNeg) (σ (15+6*c0) 13)) else none))
set_option maxHeartbeats 4000000 in
set_option maxRecDepth 100000 in
theorem kX1_handTo_0 {r : Int32} {u : TS} (C0 : gC RX1 cX1_handTo 2 none wsX1_handTo p s m args meth c) (hK : va_K D vwCl (tyL cy) s) (hJ : gJ 78 q) {H : Heap} {locs : List Loc} {σ : TS} {c0 : Nat} {c1 : Nat} (hc0 : c0 < 4) (hc1 : c1 < 2) (hP : va_P D vwCl (gS 78 q (TX cy q) σ) H) (hS : va_S (gA 78 q) s.heap H locs) {ls : Array Slot} (hl : lv_has ls 2 [(0, .ref (q (15+6*c0))), (1, .ref (q (9+c1)))]) (hp : sX1_handTo_0 c0 c1 σ = some (r, u)) : W p l e rmX1_handTo s m args below meth c H locs 0 0 (MQ below (gQv D vwCl (gS 78 q (TX cy q) u) (gA 78 q)) args s 0 0 (gA 78 q)) (F0 m 0 ls []) := by
  obtain ⟨hx, hb, hr, hml, hown, hts, hlocks⟩ := id C0
  unfold sX1_handTo_0 at hp
  refine lv_aload_n hx hb dX1_handTo_0 rfl (lv_at hl 0 rfl) ?_
  refine g_get (v := .int (σ (15+6*c0) 12)) hx hb hts miX1_handTo_X1 hown hK hP (kk_Comp hc0) (ce_Comp hc0) rfl 12 (by decide) mwX1_handTo_0 rfl dX1_handTo_1 ?_
  refine lv_iconst (v := (-1 : Int32)) hx hb dX1_handTo_4 (by decide) ?_
  refine lv_icmp_eq (tgt := 18) hx hb dX1_handTo_5 (by decide) (fun hcd1 => ?_) (fun hcd1 => ?_)
  · have hp := o_t hp hcd1
    exact kX1_handTo_18 C0 hK hJ  hP hS (lv_sub hl [] rfl) hp
  · have hp := o_f hp hcd1
    refine lv_aload_n hx hb dX1_handTo_8 rfl (lv_at hl 1 rfl) ?_
    refine lv_aload_n hx hb dX1_handTo_9 rfl (lv_at hl 0 rfl) ?_
    refine g_get (v := .int (σ (15+6*c0) 12)) hx hb hts miX1_handTo_X1 hown hK hP (kk_Comp hc0) (ce_Comp hc0) rfl 12 (by decide) mwX1_handTo_0 rfl dX1_handTo_10 ?_
    refine lv_aload_n hx hb dX1_handTo_13 rfl (lv_at hl 0 rfl) ?_
    refine g_get (v := .int (σ (15+6*c0) 13)) hx hb hts miX1_handTo_X1 hown hK hP (kk_Comp hc0) (ce_Comp hc0) rfl 13 (by decide) mwX1_handTo_1 rfl dX1_handTo_14 ?_
    obtain ⟨hi2, hp⟩ := o_chk hp
    refine g_iast (j := (σ (15+6*c0) 12).toNatClampNeg) hx hb hK hJ hP hS (kk_Out hc1) (ce_Out hc1) 0 rfl (vin_of hi2) rfl dX1_handTo_17 (fun H locs hP hS => ?_)
    exact kX1_handTo_18 C0 hK hJ  hP hS (lv_sub hl [] rfl) hp
def sX1_handTo (c0 : Nat) (c1 : Nat) (σ : TS) : Option (Int32 × TS) := sX1_handTo_0 c0 c1 σ
theorem nVX1_handTo : yX1_handTo.cls = RX1 ∧ yX1_handTo.cls ≠ "java/lang/invoke/MethodHandle" ∧ yX1_handTo.cls ≠ "java/lang/invoke/VarHandle" ∧ (parseMethodDescriptor yX1_handTo.desc).map (fun d => d.parameters.length) = some 1 := by decide +kernel
set_option maxHeartbeats 4000000 in
set_option maxRecDepth 100000 in
theorem mX1_handTo (l : Launch) (hJ : gJ 78 q) {c0 : Nat} {c1 : Nat} (hc0 : c0 < 4) (hc1 : c1 < 2) {σ : TS} {r : Int32} {u : TS} (hp : sX1_handTo c0 c1 σ = some (r, u)) : Met l yX1_handTo wsX1_handTo rmX1_handTo (va_Pc [.ref (q (15+6*c0)), .ref (q (9+c1))] (gPre D vwCl (tyL cy) (gS 78 q (TX cy q) σ))) (gQv D vwCl (gS 78 q (TX cy q) u) (gA 78 q)) 0 0 (gA 78 q) := by
  refine Met.ofW (cc := cX1_handTo) (maxL := 2) (ret := none) (by decide +kernel) rfl ?_
  intro p e s m args below meth c s₁ B hml hv
  obtain ⟨rfl, hP, hK⟩ := hv
  have hl := lv_entry ([.ref (q (15+6*c0)), .ref (q (9+c1))]) (n := 2) (Nat.le_of_ble_eq_true rfl)
  rw [lg_entry_eq]
  generalize (lg_sl ([.ref (q (15+6*c0)), .ref (q (9+c1))]) ++ List.replicate (2 - (lg_sl ([.ref (q (15+6*c0)), .ref (q (9+c1))])).length) Slot.unset).toArray = ls at hl ⊢
  have hl : lv_has ls 2 [(0, .ref (q (15+6*c0))), (1, .ref (q (9+c1)))] := hl
  exact kX1_handTo_0 ⟨B.exec, B.bytes, B.returns, hml, findClass_of_methodNamed B.named, atoms_spec (ws := wsX1_handTo) B.pre, B.notSynchronized⟩ hK hJ hc0 hc1 hP va_S.rf hl hp
theorem miX2_nextToWrite_X2 : ∀ w ∈ u_ws RX2 TX2 3, w ∈ wsX2_nextToWrite := by decide +kernel
theorem mwX2_nextToWrite_0 : Cond.fieldLink RX2 20 "Triplane$Copies" "newest" "I" ∈ wsX2_nextToWrite := by decide +kernel
abbrev rmX2_nextToWrite : Room := { frames := 0, cells := 0, slots := 0, locals := 0 }
def sX2_nextToWrite_12 (sx0 : Int32) (σ : TS) : Option (Int32 × TS) := some (sx0, σ)
set_option maxHeartbeats 4000000 in
set_option maxRecDepth 100000 in
theorem kX2_nextToWrite_12 {r : Int32} {u : TS} (C0 : gC RX2 cX2_nextToWrite 1 ((some .int)) wsX2_nextToWrite p s m args meth c) (hK : va_K D vwCl (tyL cy) s) (hJ : gJ 78 q) {H : Heap} {locs : List Loc} {σ : TS} {sx0 : Int32} (hP : va_P D vwCl (gS 78 q (TX cy q) σ) H) (hS : va_S (gA 78 q) s.heap H locs) {ls : Array Slot} (hl : lv_has ls 1 []) (hp : sX2_nextToWrite_12 sx0 σ = some (r, u)) : W p l e rmX2_nextToWrite s m args below meth c H locs 0 0 (MQ below (gQi D vwCl r (gS 78 q (TX cy q) u) (gA 78 q)) args s 0 0 (gA 78 q)) (F0 m 12 ls [.int sx0]) := by
  obtain ⟨hx, hb, hr, hml, hown, hts, hlocks⟩ := id C0
  unfold sX2_nextToWrite_12 at hp
  obtain ⟨rfl, rfl⟩ := o_r hp
  exact W.iret (v := sx0) hx hb hr (fun t ht hW => ⟨⟨sx0, (), rfl, rfl, by subst ht; exact hP⟩, hS.F ht⟩) hS.2.2 dX2_nextToWrite_12
def sX2_nextToWrite_0 (c0 : Nat) (σ : TS) : Option (Int32 × TS) := (if (σ (51+5*c0) 2) = 0 then sX2_nextToWrite_12 ((1 : Int32)) σ else sX2_nextToWrite_12 ((0 : Int32)) σ)
set_option maxHeartbeats 4000000 in
set_option maxRecDepth 100000 in
theorem kX2_nextToWrite_0 {r : Int32} {u : TS} (C0 : gC RX2 cX2_nextToWrite 1 ((some .int)) wsX2_nextToWrite p s m args meth c) (hK : va_K D vwCl (tyL cy) s) (hJ : gJ 78 q) {H : Heap} {locs : List Loc} {σ : TS} {c0 : Nat} (hc0 : c0 < 3) (hP : va_P D vwCl (gS 78 q (TX cy q) σ) H) (hS : va_S (gA 78 q) s.heap H locs) {ls : Array Slot} (hl : lv_has ls 1 [(0, .ref (q (51+5*c0)))]) (hp : sX2_nextToWrite_0 c0 σ = some (r, u)) : W p l e rmX2_nextToWrite s m args below meth c H locs 0 0 (MQ below (gQi D vwCl r (gS 78 q (TX cy q) u) (gA 78 q)) args s 0 0 (gA 78 q)) (F0 m 0 ls []) := by
  obtain ⟨hx, hb, hr, hml, hown, hts, hlocks⟩ := id C0
  unfold sX2_nextToWrite_0 at hp
  refine lv_aload_n hx hb dX2_nextToWrite_0 rfl (lv_at hl 0 rfl) ?_
  refine g_get (v := .int (σ (51+5*c0) 2)) hx hb hts miX2_nextToWrite_X2 hown hK hP (kk_Cop hc0) (ce_Cop hc0) rfl 2 (by decide) mwX2_nextToWrite_0 rfl dX2_nextToWrite_1 ?_
  refine lv_if_ne (tgt := 11) hx hb dX2_nextToWrite_4 (by decide) (fun hcd1 => ?_) (fun hcd1 => ?_)
  · have hp := o_f hp hcd1
    refine lv_iconst (v := (0 : Int32)) hx hb dX2_nextToWrite_11 (by decide) ?_
    exact kX2_nextToWrite_12 C0 hK hJ  hP hS (lv_sub hl [] rfl) hp
  · have hp := o_t hp hcd1
    refine lv_iconst (v := (1 : Int32)) hx hb dX2_nextToWrite_7 (by decide) ?_
    refine lv_goto (tgt := 12) hx hb dX2_nextToWrite_8 (by decide) ?_
    exact kX2_nextToWrite_12 C0 hK hJ  hP hS (lv_sub hl [] rfl) hp
def sX2_nextToWrite (c0 : Nat) (σ : TS) : Option (Int32 × TS) := sX2_nextToWrite_0 c0 σ
theorem nVX2_nextToWrite : yX2_nextToWrite.cls = RX2 ∧ yX2_nextToWrite.cls ≠ "java/lang/invoke/MethodHandle" ∧ yX2_nextToWrite.cls ≠ "java/lang/invoke/VarHandle" ∧ (parseMethodDescriptor yX2_nextToWrite.desc).map (fun d => d.parameters.length) = some 0 := by decide +kernel
set_option maxHeartbeats 4000000 in
set_option maxRecDepth 100000 in
theorem mX2_nextToWrite (l : Launch) (hJ : gJ 78 q) {c0 : Nat} (hc0 : c0 < 3) {σ : TS} {r : Int32} {u : TS} (hp : sX2_nextToWrite c0 σ = some (r, u)) : Met l yX2_nextToWrite wsX2_nextToWrite rmX2_nextToWrite (va_Pc [.ref (q (51+5*c0))] (gPre D vwCl (tyL cy) (gS 78 q (TX cy q) σ))) (gQi D vwCl r (gS 78 q (TX cy q) u) (gA 78 q)) 0 0 (gA 78 q) := by
  refine Met.ofW (cc := cX2_nextToWrite) (maxL := 1) (ret := (some .int)) (by decide +kernel) rfl ?_
  intro p e s m args below meth c s₁ B hml hv
  obtain ⟨rfl, hP, hK⟩ := hv
  have hl := lv_entry ([.ref (q (51+5*c0))]) (n := 1) (Nat.le_of_ble_eq_true rfl)
  rw [lg_entry_eq]
  generalize (lg_sl ([.ref (q (51+5*c0))]) ++ List.replicate (1 - (lg_sl ([.ref (q (51+5*c0))])).length) Slot.unset).toArray = ls at hl ⊢
  have hl : lv_has ls 1 [(0, .ref (q (51+5*c0)))] := hl
  exact kX2_nextToWrite_0 ⟨B.exec, B.bytes, B.returns, hml, findClass_of_methodNamed B.named, atoms_spec (ws := wsX2_nextToWrite) B.pre, B.notSynchronized⟩ hK hJ hc0 hP va_S.rf hl hp
theorem miX2_spoil_X2 : ∀ w ∈ u_ws RX2 TX2 3, w ∈ wsX2_spoil := by decide +kernel
theorem mwX2_spoil_0 : Cond.fieldLink RX2 16 "Triplane$Copies" "isGood" "[Z" ∈ wsX2_spoil := by decide +kernel
abbrev rmX2_spoil : Room := { frames := 1, cells := 0, slots := 0, locals := 20 }
def sX2_spoil_8 (d0 : Nat) (sx1 : Int32) (σ : TS) : Option (Int32 × TS) := (if vin sx1 2 = true then some (0, st2 σ (55+5*d0) (sx1.toNatClampNeg) (vp_nar .boolean ((0 : Int32)))) else none)
set_option maxHeartbeats 4000000 in
set_option maxRecDepth 100000 in
theorem kX2_spoil_8 {r : Int32} {u : TS} (C0 : gC RX2 cX2_spoil 1 none wsX2_spoil p s m args meth c) (hK : va_K D vwCl (tyL cy) s) (hJ : gJ 78 q) {H : Heap} {locs : List Loc} {σ : TS} {d0 : Nat} {sx1 : Int32} (hd0 : d0 < 3) (hP : va_P D vwCl (gS 78 q (TX cy q) σ) H) (hS : va_S (gA 78 q) s.heap H locs) {ls : Array Slot} (hl : lv_has ls 1 []) (hp : sX2_spoil_8 d0 sx1 σ = some (r, u)) : W p l e rmX2_spoil s m args below meth c H locs 0 0 (MQ below (gQv D vwCl (gS 78 q (TX cy q) u) (gA 78 q)) args s 0 0 (gA 78 q)) (F0 m 8 ls [.int sx1, .ref (q (55+5*d0))]) := by
  obtain ⟨hx, hb, hr, hml, hown, hts, hlocks⟩ := id C0
  unfold sX2_spoil_8 at hp
  refine lv_iconst (v := (0 : Int32)) hx hb dX2_spoil_8 (by decide) ?_
  obtain ⟨hi1, hp⟩ := o_chk hp
  refine g_zast (j := sx1.toNatClampNeg) hx hb hK hJ hP hS (kk_CG hd0) (ce_CG hd0) 1 rfl (vin_of hi1) rfl dX2_spoil_9 (fun H locs hP hS => ?_)
  obtain ⟨rfl, rfl⟩ := o_r hp
  exact W.vret hx hb hr (fun t ht hW => ⟨⟨(), rfl, trivial, by subst ht; exact hP⟩, hS.F ht⟩) hS.2.2 dX2_spoil_10
def sX2_spoil_0 (c0 : Nat) (σ : TS) : Option (Int32 × TS) := ((sX2_nextToWrite c0 σ).bind (fun z => sX2_spoil_8 c0 z.1 z.2))
set_option maxHeartbeats 4000000 in
set_option maxRecDepth 100000 in
theorem kX2_spoil_0 {r : Int32} {u : TS} (C0 : gC RX2 cX2_spoil 1 none wsX2_spoil p s m args meth c) (hK : va_K D vwCl (tyL cy) s) (hJ : gJ 78 q) {H : Heap} {locs : List Loc} {σ : TS} {c0 : Nat} (hc0 : c0 < 3) (hP : va_P D vwCl (gS 78 q (TX cy q) σ) H) (hS : va_S (gA 78 q) s.heap H locs) {ls : Array Slot} (hl : lv_has ls 1 [(0, .ref (q (51+5*c0)))]) (hp : sX2_spoil_0 c0 σ = some (r, u)) : W p l e rmX2_spoil s m args below meth c H locs 0 0 (MQ below (gQv D vwCl (gS 78 q (TX cy q) u) (gA 78 q)) args s 0 0 (gA 78 q)) (F0 m 0 ls []) := by
  obtain ⟨hx, hb, hr, hml, hown, hts, hlocks⟩ := id C0
  unfold sX2_spoil_0 at hp
  refine lv_aload_n hx hb dX2_spoil_0 rfl (lv_at hl 0 rfl) ?_
  refine g_get (v := .ref (q (55+5*c0))) hx hb hts miX2_spoil_X2 hown hK hP (kk_Cop hc0) (ce_Cop hc0) rfl 1 (by decide) mwX2_spoil_0 rfl dX2_spoil_1 ?_
  refine lv_aload_n hx hb dX2_spoil_4 rfl (lv_at hl 0 rfl) ?_
  obtain ⟨⟨r2, u3⟩, hq4, hp⟩ := o_b hp
  refine g_cVi (As := []) (rest := [.ref (q (55+5*c0))]) hx hb hml hown hts hK hP hS (mX2_nextToWrite l hJ hc0 hq4) (cwV 0 hts gX2_spoil_X2_nextToWrite rfl rfl rfl nVX2_nextToWrite ⟨Nat.le_of_ble_eq_true rfl, Nat.le_of_ble_eq_true rfl⟩) (g_recv hK hP (kk_Cop hc0) (ce_Cop hc0) rfl) rfl hl.1 rfl (Nat.le_of_ble_eq_true rfl) dX2_spoil_5 ⟨Nat.le_of_ble_eq_true rfl, Nat.le_of_ble_eq_true rfl⟩ (fun H locs hP hS => ?_)
  exact kX2_spoil_8 C0 hK hJ hc0 hP hS (lv_sub hl [] rfl) hp
def sX2_spoil (c0 : Nat) (σ : TS) : Option (Int32 × TS) := sX2_spoil_0 c0 σ
theorem nVX2_spoil : yX2_spoil.cls = RX2 ∧ yX2_spoil.cls ≠ "java/lang/invoke/MethodHandle" ∧ yX2_spoil.cls ≠ "java/lang/invoke/VarHandle" ∧ (parseMethodDescriptor yX2_spoil.desc).map (fun d => d.parameters.length) = some 0 := by decide +kernel
set_option maxHeartbeats 4000000 in
set_option maxRecDepth 100000 in
theorem mX2_spoil (l : Launch) (hJ : gJ 78 q) {c0 : Nat} (hc0 : c0 < 3) {σ : TS} {r : Int32} {u : TS} (hp : sX2_spoil c0 σ = some (r, u)) : Met l yX2_spoil wsX2_spoil rmX2_spoil (va_Pc [.ref (q (51+5*c0))] (gPre D vwCl (tyL cy) (gS 78 q (TX cy q) σ))) (gQv D vwCl (gS 78 q (TX cy q) u) (gA 78 q)) 0 0 (gA 78 q) := by
  refine Met.ofW (cc := cX2_spoil) (maxL := 1) (ret := none) (by decide +kernel) rfl ?_
  intro p e s m args below meth c s₁ B hml hv
  obtain ⟨rfl, hP, hK⟩ := hv
  have hl := lv_entry ([.ref (q (51+5*c0))]) (n := 1) (Nat.le_of_ble_eq_true rfl)
  rw [lg_entry_eq]
  generalize (lg_sl ([.ref (q (51+5*c0))]) ++ List.replicate (1 - (lg_sl ([.ref (q (51+5*c0))])).length) Slot.unset).toArray = ls at hl ⊢
  have hl : lv_has ls 1 [(0, .ref (q (51+5*c0)))] := hl
  exact kX2_spoil_0 ⟨B.exec, B.bytes, B.returns, hml, findClass_of_methodNamed B.named, atoms_spec (ws := wsX2_spoil) B.pre, B.notSynchronized⟩ hK hJ hc0 hP va_S.rf hl hp
theorem miX2_keep_X2 : ∀ w ∈ u_ws RX2 TX2 3, w ∈ wsX2_keep := by decide +kernel
theorem mwX2_keep_0 : Cond.fieldLink RX2 16 "Triplane$Copies" "isGood" "[Z" ∈ wsX2_keep := by decide +kernel
theorem mwX2_keep_1 : Cond.fieldLink RX2 20 "Triplane$Copies" "newest" "I" ∈ wsX2_keep := by decide +kernel
theorem mwX2_keep_2 : Cond.fieldLink RX2 11 "Triplane$Copies" "words" "[[I" ∈ wsX2_keep := by decide +kernel
abbrev rmX2_keep : Room := { frames := 1, cells := 0, slots := 0, locals := 21 }
def sX2_keep_31 (K8 : Nat → Nat → Int32 → Int32 → Int32 → TS → Option (Int32 × TS)) (c0 : Nat) (c1 : Nat) (d0a : Nat) (d0b : Nat) (x2 : Int32) (x3 : Int32) (x4 : Int32) (sx1 : Int32) (sx2 : Int32) (σ : TS) : Option (Int32 × TS) := (if vin sx1 6 = true then K8 c0 c1 x2 x3 (x4 + (1 : Int32)) (st2 σ (53+5*d0a+d0b) (sx1.toNatClampNeg) sx2) else none)
set_option maxHeartbeats 4000000 in
set_option maxRecDepth 100000 in
theorem kX2_keep_31 {r : Int32} {u : TS} {K8 : Nat → Nat → Int32 → Int32 → Int32 → TS → Option (Int32 × TS)} (C0 : gC RX2 cX2_keep 5 none wsX2_keep p s m args meth c) (hK : va_K D vwCl (tyL cy) s) (hJ : gJ 78 q) (kh8 : ∀ (H : Heap) (locs : List Loc) (σ : TS) (c0 : Nat) (c1 : Nat) (x2 : Int32) (x3 : Int32) (x4 : Int32) (hc0 : c0 < 3) (hc1 : c1 < 4) (hP : va_P D vwCl (gS 78 q (TX cy q) σ) H) (hS : va_S (gA 78 q) s.heap H locs) (ls : Array Slot) (hl : lv_has ls 5 [(0, .ref (q (51+5*c0))), (1, .ref (q (16+6*c1))), (2, .int x2), (3, .int x3), (4, .int x4)]) (hp : K8 c0 c1 x2 x3 x4 σ = some (r, u)), W p l e rmX2_keep s m args below meth c H locs 0 0 (MQ below (gQv D vwCl (gS 78 q (TX cy q) u) (gA 78 q)) args s 0 0 (gA 78 q)) (F0 m 8 ls [])) {H : Heap} {locs : List Loc} {σ : TS} {c0 : Nat} {c1 : Nat} {d0a : Nat} {d0b : Nat} {x2 : Int32} {x3 : Int32} {x4 : Int32} {sx1 : Int32} {sx2 : Int32} (hc0 : c0 < 3) (hc1 : c1 < 4) (hd0a : d0a < 3) (hd0b : d0b < 2) (hP : va_P D vwCl (gS 78 q (TX cy q) σ) H) (hS : va_S (gA 78 q) s.heap H locs) {ls : Array Slot} (hl : lv_has ls 5 [(0, .ref (q (51+5*c0))), (1, .ref (q (16+6*c1))), (2, .int x2), (3, .int x3), (4, .int x4)]) (hp : sX2_keep_31 K8 c0 c1 d0a d0b x2 x3 x4 sx1 sx2 σ = some (r, u)) : W p l e rmX2_keep s m args below meth c H locs 0 0 (MQ below (gQv D vwCl (gS 78 q (TX cy q) u) (gA 78 q)) args s 0 0 (gA 78 q)) (F0 m 31 ls [.int sx2, .int sx1, .ref (q (53+5*d0a+d0b))]) := by
  obtain ⟨hx, hb, hr, hml, hown, hts, hlocks⟩ := id C0
  unfold sX2_keep_31 at hp
  obtain ⟨hi1, hp⟩ := o_chk hp
  refine g_iast (j := sx1.toNatClampNeg) hx hb hK hJ hP hS (kk_CWi hd0a hd0b) (ce_CWi hd0a hd0b) 0 rfl (vin_of hi1) rfl dX2_keep_31 (fun H locs hP hS => ?_)
  refine lv_iinc (v := x4 + (1 : Int32)) (lv' := [(4, .int (x4 + (1 : Int32))), (0, .ref (q (51+5*c0))), (1, .ref (q (16+6*c1))), (2, .int x2), (3, .int x3)]) hx hb dX2_keep_32 hl (k := 4) rfl rfl (by decide) rfl (fun ls hl => ?_)
  refine lv_goto (tgt := 8) hx hb dX2_keep_35 (by decide) ?_
  exact kh8 _ _ _ _ _ _ _ _ hc0 hc1 hP hS _ (lv_sub hl [1, 2, 3, 4, 0] rfl) hp
def sX2_keep_8 : Nat → Nat → Nat → Int32 → Int32 → Int32 → TS → Option (Int32 × TS)
  | 0, _, _, _, _, _, _ => none
  | n + 1, c0, c1, x2, x3, x4, σ => (if ((6 : Int32)) ≤ x4 then (if vin x3 2 = true then some (0, st2 (st2 σ (55+5*c0) (x3.toNatClampNeg) (vp_nar .boolean ((1 : Int32)))) (51+5*c0) 2 x3) else none) else (if vin x3 2 = true then ((sX4_unflipped c1 (x2 + x4) σ).bind (fun z => sX2_keep_31 (sX2_keep_8 n) c0 c1 c0 (x3.toNatClampNeg) x2 x3 x4 x4 z.1 z.2)) else none))
set_option maxHeartbeats 4000000 in
set_option maxRecDepth 100000 in
theorem kX2_keep_8 {r : Int32} {u : TS} (C0 : gC RX2 cX2_keep 5 none wsX2_keep p s m args meth c) (hK : va_K D vwCl (tyL cy) s) (hJ : gJ 78 q) : ∀ (n : Nat) (H : Heap) (locs : List Loc) (σ : TS) (c0 : Nat) (c1 : Nat) (x2 : Int32) (x3 : Int32) (x4 : Int32) (hc0 : c0 < 3) (hc1 : c1 < 4) (hP : va_P D vwCl (gS 78 q (TX cy q) σ) H) (hS : va_S (gA 78 q) s.heap H locs) (ls : Array Slot) (hl : lv_has ls 5 [(0, .ref (q (51+5*c0))), (1, .ref (q (16+6*c1))), (2, .int x2), (3, .int x3), (4, .int x4)]) (hp : sX2_keep_8 n c0 c1 x2 x3 x4 σ = some (r, u)), W p l e rmX2_keep s m args below meth c H locs 0 0 (MQ below (gQv D vwCl (gS 78 q (TX cy q) u) (gA 78 q)) args s 0 0 (gA 78 q)) (F0 m 8 ls []) := by
  obtain ⟨hx, hb, hr, hml, hown, hts, hlocks⟩ := id C0
  intro n
  induction n with
  | zero =>
    intro H locs σ c0 c1 x2 x3 x4 hc0 hc1 hP hS ls hl hp
    cases hp
  | succ n ih =>
    intro H locs σ c0 c1 x2 x3 x4 hc0 hc1 hP hS ls hl hp
    unfold sX2_keep_8 at hp
    refine lv_iload hx hb dX2_keep_8 (lv_at hl 4 rfl) ?_
    refine lv_bipush (v := (6 : Int32)) hx hb dX2_keep_10 (by decide) ?_
    refine lv_icmp_ge (tgt := 38) hx hb dX2_keep_12 (by decide) (fun hcd2 => ?_) (fun hcd2 => ?_)
    · have hp := o_t hp hcd2
      refine lv_aload_n hx hb dX2_keep_38 rfl (lv_at hl 0 rfl) ?_
      refine g_get (v := .ref (q (55+5*c0))) hx hb hts miX2_keep_X2 hown hK hP (kk_Cop hc0) (ce_Cop hc0) rfl 1 (by decide) mwX2_keep_0 rfl dX2_keep_39 ?_
      refine lv_iload_n hx hb dX2_keep_42 rfl (lv_at hl 3 rfl) ?_
      refine lv_iconst (v := (1 : Int32)) hx hb dX2_keep_43 (by decide) ?_
      obtain ⟨hi3, hp⟩ := o_chk hp
      refine g_zast (j := x3.toNatClampNeg) hx hb hK hJ hP hS (kk_CG hc0) (ce_CG hc0) 1 rfl (vin_of hi3) rfl dX2_keep_44 (fun H locs hP hS => ?_)
      refine lv_aload_n hx hb dX2_keep_45 rfl (lv_at hl 0 rfl) ?_
      refine lv_iload_n hx hb dX2_keep_46 rfl (lv_at hl 3 rfl) ?_
      refine g_put (v := x3) hx hb hts miX2_keep_X2 tyX2 tyX2_ok nmX2 hown hK hJ hP hS (kk_Cop hc0) (ce_Cop hc0) rfl 2 (by decide) mwX2_keep_1 rfl rfl rfl (Nat.le_of_ble_eq_true rfl) rfl dX2_keep_47 (fun H locs hP hS => ?_)
      obtain ⟨rfl, rfl⟩ := o_r hp
      exact W.vret hx hb hr (fun t ht hW => ⟨⟨(), rfl, trivial, by subst ht; exact hP⟩, hS.F ht⟩) hS.2.2 dX2_keep_50
    · have hp := o_f hp hcd2
      refine lv_aload_n hx hb dX2_keep_15 rfl (lv_at hl 0 rfl) ?_
      refine g_get (v := .ref (q (52+5*c0))) hx hb hts miX2_keep_X2 hown hK hP (kk_Cop hc0) (ce_Cop hc0) rfl 0 (by decide) mwX2_keep_2 rfl dX2_keep_16 ?_
      refine lv_iload_n hx hb dX2_keep_19 rfl (lv_at hl 3 rfl) ?_
      obtain ⟨hi4, hp⟩ := o_chk hp
      have hn5 : x3.toNatClampNeg < 2 := Nat.lt_of_lt_of_le (vin_lt hi4) (by decide)
      refine g_aald (j := x3.toNatClampNeg) hx hb hK hP (kk_CW hc0) (ce_CW hc0) 6 rfl rfl (vin_of hi4) rfl dX2_keep_20 ?_
      refine lv_iload hx hb dX2_keep_21 (lv_at hl 4 rfl) ?_
      refine lv_aload_n hx hb dX2_keep_23 rfl (lv_at hl 1 rfl) ?_
      refine lv_iload_n hx hb dX2_keep_24 rfl (lv_at hl 2 rfl) ?_
      refine lv_iload hx hb dX2_keep_25 (lv_at hl 4 rfl) ?_
      refine lv_iadd hx hb dX2_keep_27 ?_
      obtain ⟨⟨r6, u7⟩, hq8, hp⟩ := o_b hp
      refine g_cVi (As := [.int (x2 + x4)]) (rest := [.int x4, .ref (q (53+5*c0+x3.toNatClampNeg))]) hx hb hml hown hts hK hP hS (mX4_unflipped l hJ hc1 hq8) (cwV 1 hts gX2_keep_X4_unflipped rfl rfl rfl nVX4_unflipped ⟨Nat.le_of_ble_eq_true rfl, Nat.le_of_ble_eq_true rfl⟩) (g_recv hK hP (kk_Mem hc1) (ce_Mem hc1) rfl) rfl hl.1 rfl (Nat.le_of_ble_eq_true rfl) dX2_keep_28 ⟨Nat.le_of_ble_eq_true rfl, Nat.le_of_ble_eq_true rfl⟩ (fun H locs hP hS => ?_)
      exact kX2_keep_31 C0 hK hJ ih hc0 hc1 hc0 hn5 hP hS hl hp
def sX2_keep_4 (c0 : Nat) (c1 : Nat) (x2 : Int32) (sx0 : Int32) (σ : TS) : Option (Int32 × TS) := sX2_keep_8 7 c0 c1 x2 sx0 ((0 : Int32)) σ
set_option maxHeartbeats 4000000 in
set_option maxRecDepth 100000 in
theorem kX2_keep_4 {r : Int32} {u : TS} (C0 : gC RX2 cX2_keep 5 none wsX2_keep p s m args meth c) (hK : va_K D vwCl (tyL cy) s) (hJ : gJ 78 q) {H : Heap} {locs : List Loc} {σ : TS} {c0 : Nat} {c1 : Nat} {x2 : Int32} {sx0 : Int32} (hc0 : c0 < 3) (hc1 : c1 < 4) (hP : va_P D vwCl (gS 78 q (TX cy q) σ) H) (hS : va_S (gA 78 q) s.heap H locs) {ls : Array Slot} (hl : lv_has ls 5 [(0, .ref (q (51+5*c0))), (1, .ref (q (16+6*c1))), (2, .int x2)]) (hp : sX2_keep_4 c0 c1 x2 sx0 σ = some (r, u)) : W p l e rmX2_keep s m args below meth c H locs 0 0 (MQ below (gQv D vwCl (gS 78 q (TX cy q) u) (gA 78 q)) args s 0 0 (gA 78 q)) (F0 m 4 ls [.int sx0]) := by
  obtain ⟨hx, hb, hr, hml, hown, hts, hlocks⟩ := id C0
  unfold sX2_keep_4 at hp
  refine lv_istore_n (lv' := [(3, .int sx0), (0, .ref (q (51+5*c0))), (1, .ref (q (16+6*c1))), (2, .int x2)]) hx hb dX2_keep_4 rfl hl (by decide) rfl (fun ls hl => ?_)
  refine lv_iconst (v := (0 : Int32)) hx hb dX2_keep_5 (by decide) ?_
  refine lv_istore (lv' := [(4, .int ((0 : Int32))), (3, .int sx0), (0, .ref (q (51+5*c0))), (1, .ref (q (16+6*c1))), (2, .int x2)]) hx hb dX2_keep_6 hl (by decide) rfl (fun ls hl => ?_)
  exact kX2_keep_8 C0 hK hJ _ _ _ _ _ _ _ _ _ hc0 hc1 hP hS _ (lv_sub hl [2, 3, 4, 1, 0] rfl) hp
def sX2_keep_0 (c0 : Nat) (c1 : Nat) (x2 : Int32) (σ : TS) : Option (Int32 × TS) := ((sX2_nextToWrite c0 σ).bind (fun z => sX2_keep_4 c0 c1 x2 z.1 z.2))
set_option maxHeartbeats 4000000 in
set_option maxRecDepth 100000 in
theorem kX2_keep_0 {r : Int32} {u : TS} (C0 : gC RX2 cX2_keep 5 none wsX2_keep p s m args meth c) (hK : va_K D vwCl (tyL cy) s) (hJ : gJ 78 q) {H : Heap} {locs : List Loc} {σ : TS} {c0 : Nat} {c1 : Nat} {x2 : Int32} (hc0 : c0 < 3) (hc1 : c1 < 4) (hP : va_P D vwCl (gS 78 q (TX cy q) σ) H) (hS : va_S (gA 78 q) s.heap H locs) {ls : Array Slot} (hl : lv_has ls 5 [(0, .ref (q (51+5*c0))), (1, .ref (q (16+6*c1))), (2, .int x2)]) (hp : sX2_keep_0 c0 c1 x2 σ = some (r, u)) : W p l e rmX2_keep s m args below meth c H locs 0 0 (MQ below (gQv D vwCl (gS 78 q (TX cy q) u) (gA 78 q)) args s 0 0 (gA 78 q)) (F0 m 0 ls []) := by
  obtain ⟨hx, hb, hr, hml, hown, hts, hlocks⟩ := id C0
  unfold sX2_keep_0 at hp
  refine lv_aload_n hx hb dX2_keep_0 rfl (lv_at hl 0 rfl) ?_
  obtain ⟨⟨r9, u10⟩, hq11, hp⟩ := o_b hp
  refine g_cVi (As := []) (rest := []) hx hb hml hown hts hK hP hS (mX2_nextToWrite l hJ hc0 hq11) (cwV 0 hts gX2_keep_X2_nextToWrite rfl rfl rfl nVX2_nextToWrite ⟨Nat.le_of_ble_eq_true rfl, Nat.le_of_ble_eq_true rfl⟩) (g_recv hK hP (kk_Cop hc0) (ce_Cop hc0) rfl) rfl hl.1 rfl (Nat.le_of_ble_eq_true rfl) dX2_keep_1 ⟨Nat.le_of_ble_eq_true rfl, Nat.le_of_ble_eq_true rfl⟩ (fun H locs hP hS => ?_)
  exact kX2_keep_4 C0 hK hJ hc0 hc1 hP hS hl hp
def sX2_keep (c0 : Nat) (c1 : Nat) (x2 : Int32) (σ : TS) : Option (Int32 × TS) := sX2_keep_0 c0 c1 x2 σ
theorem nVX2_keep : yX2_keep.cls = RX2 ∧ yX2_keep.cls ≠ "java/lang/invoke/MethodHandle" ∧ yX2_keep.cls ≠ "java/lang/invoke/VarHandle" ∧ (parseMethodDescriptor yX2_keep.desc).map (fun d => d.parameters.length) = some 2 := by decide +kernel
set_option maxHeartbeats 4000000 in
set_option maxRecDepth 100000 in
theorem mX2_keep (l : Launch) (hJ : gJ 78 q) {c0 : Nat} {c1 : Nat} {x2 : Int32} (hc0 : c0 < 3) (hc1 : c1 < 4) {σ : TS} {r : Int32} {u : TS} (hp : sX2_keep c0 c1 x2 σ = some (r, u)) : Met l yX2_keep wsX2_keep rmX2_keep (va_Pc [.ref (q (51+5*c0)), .ref (q (16+6*c1)), .int x2] (gPre D vwCl (tyL cy) (gS 78 q (TX cy q) σ))) (gQv D vwCl (gS 78 q (TX cy q) u) (gA 78 q)) 0 0 (gA 78 q) := by
  refine Met.ofW (cc := cX2_keep) (maxL := 5) (ret := none) (by decide +kernel) rfl ?_
  intro p e s m args below meth c s₁ B hml hv
  obtain ⟨rfl, hP, hK⟩ := hv
  have hl := lv_entry ([.ref (q (51+5*c0)), .ref (q (16+6*c1)), .int x2]) (n := 5) (Nat.le_of_ble_eq_true rfl)
  rw [lg_entry_eq]
  generalize (lg_sl ([.ref (q (51+5*c0)), .ref (q (16+6*c1)), .int x2]) ++ List.replicate (5 - (lg_sl ([.ref (q (51+5*c0)), .ref (q (16+6*c1)), .int x2])).length) Slot.unset).toArray = ls at hl ⊢
  have hl : lv_has ls 5 [(0, .ref (q (51+5*c0))), (1, .ref (q (16+6*c1))), (2, .int x2)] := hl
  exact kX2_keep_0 ⟨B.exec, B.bytes, B.returns, hml, findClass_of_methodNamed B.named, atoms_spec (ws := wsX2_keep) B.pre, B.notSynchronized⟩ hK hJ hc0 hc1 hP va_S.rf hl hp
theorem miX2_restore_X2 : ∀ w ∈ u_ws RX2 TX2 3, w ∈ wsX2_restore := by decide +kernel
theorem mwX2_restore_0 : Cond.fieldLink RX2 11 "Triplane$Copies" "words" "[[I" ∈ wsX2_restore := by decide +kernel
theorem mwX2_restore_1 : Cond.fieldLink RX2 20 "Triplane$Copies" "newest" "I" ∈ wsX2_restore := by decide +kernel
abbrev rmX2_restore : Room := { frames := 1, cells := 0, slots := 0, locals := 22 }
def sX2_restore_35 (K11 : Nat → Nat → Int32 → Int32 → TS → Option (Int32 × TS)) (c0 : Nat) (c1 : Nat) (x2 : Int32) (x3 : Int32) (σ : TS) : Option (Int32 × TS) := K11 c0 c1 x2 (x3 + (1 : Int32)) σ
set_option maxHeartbeats 4000000 in
set_option maxRecDepth 100000 in
theorem kX2_restore_35 {r : Int32} {u : TS} {K11 : Nat → Nat → Int32 → Int32 → TS → Option (Int32 × TS)} (C0 : gC RX2 cX2_restore 4 none wsX2_restore p s m args meth c) (hK : va_K D vwCl (tyL cy) s) (hJ : gJ 78 q) (kh11 : ∀ (H : Heap) (locs : List Loc) (σ : TS) (c0 : Nat) (c1 : Nat) (x2 : Int32) (x3 : Int32) (hc0 : c0 < 3) (hc1 : c1 < 4) (hP : va_P D vwCl (gS 78 q (TX cy q) σ) H) (hS : va_S (gA 78 q) s.heap H locs) (ls : Array Slot) (hl : lv_has ls 4 [(0, .ref (q (51+5*c0))), (1, .ref (q (16+6*c1))), (2, .int x2), (3, .int x3)]) (hp : K11 c0 c1 x2 x3 σ = some (r, u)), W p l e rmX2_restore s m args below meth c H locs 0 0 (MQ below (gQv D vwCl (gS 78 q (TX cy q) u) (gA 78 q)) args s 0 0 (gA 78 q)) (F0 m 11 ls [])) {H : Heap} {locs : List Loc} {σ : TS} {c0 : Nat} {c1 : Nat} {x2 : Int32} {x3 : Int32} (hc0 : c0 < 3) (hc1 : c1 < 4) (hP : va_P D vwCl (gS 78 q (TX cy q) σ) H) (hS : va_S (gA 78 q) s.heap H locs) {ls : Array Slot} (hl : lv_has ls 4 [(0, .ref (q (51+5*c0))), (1, .ref (q (16+6*c1))), (2, .int x2), (3, .int x3)]) (hp : sX2_restore_35 K11 c0 c1 x2 x3 σ = some (r, u)) : W p l e rmX2_restore s m args below meth c H locs 0 0 (MQ below (gQv D vwCl (gS 78 q (TX cy q) u) (gA 78 q)) args s 0 0 (gA 78 q)) (F0 m 35 ls []) := by
  obtain ⟨hx, hb, hr, hml, hown, hts, hlocks⟩ := id C0
  unfold sX2_restore_35 at hp
  refine lv_iinc (v := x3 + (1 : Int32)) (lv' := [(3, .int (x3 + (1 : Int32))), (0, .ref (q (51+5*c0))), (1, .ref (q (16+6*c1))), (2, .int x2)]) hx hb dX2_restore_35 hl (k := 3) rfl rfl (by decide) rfl (fun ls hl => ?_)
  refine lv_goto (tgt := 11) hx hb dX2_restore_38 (by decide) ?_
  exact kh11 _ _ _ _ _ _ _ hc0 hc1 hP hS _ (lv_sub hl [1, 2, 3, 0] rfl) hp
def sX2_restore_11 : Nat → Nat → Nat → Int32 → Int32 → TS → Option (Int32 × TS)
  | 0, _, _, _, _, _ => none
  | n + 1, c0, c1, x2, x3, σ => (if ((6 : Int32)) ≤ x3 then some (0, σ) else (if vin (σ (51+5*c0) 2) 2 = true then (if vin x3 6 = true then ((sX4_put c1 (x2 + x3) (σ (53+5*c0+((σ (51+5*c0) 2).toNatClampNeg)) (x3.toNatClampNeg)) σ).bind (fun z => sX2_restore_35 (sX2_restore_11 n) c0 c1 x2 x3 z.2)) else none) else none))
set_option maxHeartbeats 4000000 in
set_option maxRecDepth 100000 in
theorem kX2_restore_11 {r : Int32} {u : TS} (C0 : gC RX2 cX2_restore 4 none wsX2_restore p s m args meth c) (hK : va_K D vwCl (tyL cy) s) (hJ : gJ 78 q) : ∀ (n : Nat) (H : Heap) (locs : List Loc) (σ : TS) (c0 : Nat) (c1 : Nat) (x2 : Int32) (x3 : Int32) (hc0 : c0 < 3) (hc1 : c1 < 4) (hP : va_P D vwCl (gS 78 q (TX cy q) σ) H) (hS : va_S (gA 78 q) s.heap H locs) (ls : Array Slot) (hl : lv_has ls 4 [(0, .ref (q (51+5*c0))), (1, .ref (q (16+6*c1))), (2, .int x2), (3, .int x3)]) (hp : sX2_restore_11 n c0 c1 x2 x3 σ = some (r, u)), W p l e rmX2_restore s m args below meth c H locs 0 0 (MQ below (gQv D vwCl (gS 78 q (TX cy q) u) (gA 78 q)) args s 0 0 (gA 78 q)) (F0 m 11 ls []) := by
  obtain ⟨hx, hb, hr, hml, hown, hts, hlocks⟩ := id C0
  intro n
  induction n with
  | zero =>
    intro H locs σ c0 c1 x2 x3 hc0 hc1 hP hS ls hl hp
    cases hp
  | succ n ih =>
    intro H locs σ c0 c1 x2 x3 hc0 hc1 hP hS ls hl hp
    unfold sX2_restore_11 at hp
    refine lv_iload_n hx hb dX2_restore_11 rfl (lv_at hl 3 rfl) ?_
    refine lv_bipush (v := (6 : Int32)) hx hb dX2_restore_12 (by decide) ?_
    refine lv_icmp_ge (tgt := 41) hx hb dX2_restore_14 (by decide) (fun hcd1 => ?_) (fun hcd1 => ?_)
    · have hp := o_t hp hcd1
      obtain ⟨rfl, rfl⟩ := o_r hp
      exact W.vret hx hb hr (fun t ht hW => ⟨⟨(), rfl, trivial, by subst ht; exact hP⟩, hS.F ht⟩) hS.2.2 dX2_restore_41
    · have hp := o_f hp hcd1
      refine lv_aload_n hx hb dX2_restore_17 rfl (lv_at hl 1 rfl) ?_
      refine lv_iload_n hx hb dX2_restore_18 rfl (lv_at hl 2 rfl) ?_
      refine lv_iload_n hx hb dX2_restore_19 rfl (lv_at hl 3 rfl) ?_
      refine lv_iadd hx hb dX2_restore_20 ?_
      refine lv_aload_n hx hb dX2_restore_21 rfl (lv_at hl 0 rfl) ?_
      refine g_get (v := .ref (q (52+5*c0))) hx hb hts miX2_restore_X2 hown hK hP (kk_Cop hc0) (ce_Cop hc0) rfl 0 (by decide) mwX2_restore_0 rfl dX2_restore_22 ?_
      refine lv_aload_n hx hb dX2_restore_25 rfl (lv_at hl 0 rfl) ?_
      refine g_get (v := .int (σ (51+5*c0) 2)) hx hb hts miX2_restore_X2 hown hK hP (kk_Cop hc0) (ce_Cop hc0) rfl 2 (by decide) mwX2_restore_1 rfl dX2_restore_26 ?_
      obtain ⟨hi2, hp⟩ := o_chk hp
      have hn3 : (σ (51+5*c0) 2).toNatClampNeg < 2 := Nat.lt_of_lt_of_le (vin_lt hi2) (by decide)
      refine g_aald (j := (σ (51+5*c0) 2).toNatClampNeg) hx hb hK hP (kk_CW hc0) (ce_CW hc0) 6 rfl rfl (vin_of hi2) rfl dX2_restore_29 ?_
      refine lv_iload_n hx hb dX2_restore_30 rfl (lv_at hl 3 rfl) ?_
      obtain ⟨hi4, hp⟩ := o_chk hp
      refine g_iald (j := x3.toNatClampNeg) hx hb hK hP (kk_CWi hc0 hn3) (ce_CWi hc0 hn3) 0 rfl (vin_of hi4) rfl dX2_restore_31 ?_
      obtain ⟨⟨r5, u6⟩, hq7, hp⟩ := o_b hp
      refine g_cVv (As := [.int (x2 + x3), .int (σ (53+5*c0+((σ (51+5*c0) 2).toNatClampNeg)) (x3.toNatClampNeg))]) (rest := []) hx hb hml hown hts hK hP hS (mX4_put l hJ hc1 hq7) (cwV 2 hts gX2_restore_X4_put rfl rfl rfl nVX4_put ⟨Nat.le_of_ble_eq_true rfl, Nat.le_of_ble_eq_true rfl⟩) (g_recv hK hP (kk_Mem hc1) (ce_Mem hc1) rfl) rfl hl.1 rfl (Nat.le_of_ble_eq_true rfl) dX2_restore_32 ⟨Nat.le_of_ble_eq_true rfl, Nat.le_of_ble_eq_true rfl⟩ (fun H locs hP hS => ?_)
      exact kX2_restore_35 C0 hK hJ ih hc0 hc1 hP hS hl hp
def sX2_restore_0 (c0 : Nat) (c1 : Nat) (x2 : Int32) (σ : TS) : Option (Int32 × TS) := (if (σ (51+5*c0) 2) = ((-1 : Int32)) then some (0, σ) else sX2_restore_11 7 c0 c1 x2 ((0 : Int32)) σ)
set_option maxHeartbeats 4000000 in
set_option maxRecDepth 100000 in
theorem kX2_restore_0 {r : Int32} {u : TS} (C0 : gC RX2 cX2_restore 4 none wsX2_restore p s m args meth c) (hK : va_K D vwCl (tyL cy) s) (hJ : gJ 78 q) {H : Heap} {locs : List Loc} {σ : TS} {c0 : Nat} {c1 : Nat} {x2 : Int32} (hc0 : c0 < 3) (hc1 : c1 < 4) (hP : va_P D vwCl (gS 78 q (TX cy q) σ) H) (hS : va_S (gA 78 q) s.heap H locs) {ls : Array Slot} (hl : lv_has ls 4 [(0, .ref (q (51+5*c0))), (1, .ref (q (16+6*c1))), (2, .int x2)]) (hp : sX2_restore_0 c0 c1 x2 σ = some (r, u)) : W p l e rmX2_restore s m args below meth c H locs 0 0 (MQ below (gQv D vwCl (gS 78 q (TX cy q) u) (gA 78 q)) args s 0 0 (gA 78 q)) (F0 m 0 ls []) := by
  obtain ⟨hx, hb, hr, hml, hown, hts, hlocks⟩ := id C0
  unfold sX2_restore_0 at hp
  refine lv_aload_n hx hb dX2_restore_0 rfl (lv_at hl 0 rfl) ?_
  refine g_get (v := .int (σ (51+5*c0) 2)) hx hb hts miX2_restore_X2 hown hK hP (kk_Cop hc0) (ce_Cop hc0) rfl 2 (by decide) mwX2_restore_1 rfl dX2_restore_1 ?_
  refine lv_iconst (v := (-1 : Int32)) hx hb dX2_restore_4 (by decide) ?_
  refine lv_icmp_ne (tgt := 9) hx hb dX2_restore_5 (by decide) (fun hcd8 => ?_) (fun hcd8 => ?_)
  · have hp := o_f hp hcd8
    refine lv_iconst (v := (0 : Int32)) hx hb dX2_restore_9 (by decide) ?_
    refine lv_istore_n (lv' := [(3, .int ((0 : Int32))), (0, .ref (q (51+5*c0))), (1, .ref (q (16+6*c1))), (2, .int x2)]) hx hb dX2_restore_10 rfl hl (by decide) rfl (fun ls hl => ?_)
    exact kX2_restore_11 C0 hK hJ _ _ _ _ _ _ _ _ hc0 hc1 hP hS _ (lv_sub hl [1, 2, 3, 0] rfl) hp
  · have hp := o_t hp hcd8
    obtain ⟨rfl, rfl⟩ := o_r hp
    exact W.vret hx hb hr (fun t ht hW => ⟨⟨(), rfl, trivial, by subst ht; exact hP⟩, hS.F ht⟩) hS.2.2 dX2_restore_8
def sX2_restore (c0 : Nat) (c1 : Nat) (x2 : Int32) (σ : TS) : Option (Int32 × TS) := sX2_restore_0 c0 c1 x2 σ
theorem nVX2_restore : yX2_restore.cls = RX2 ∧ yX2_restore.cls ≠ "java/lang/invoke/MethodHandle" ∧ yX2_restore.cls ≠ "java/lang/invoke/VarHandle" ∧ (parseMethodDescriptor yX2_restore.desc).map (fun d => d.parameters.length) = some 2 := by decide +kernel
set_option maxHeartbeats 4000000 in
set_option maxRecDepth 100000 in
theorem mX2_restore (l : Launch) (hJ : gJ 78 q) {c0 : Nat} {c1 : Nat} {x2 : Int32} (hc0 : c0 < 3) (hc1 : c1 < 4) {σ : TS} {r : Int32} {u : TS} (hp : sX2_restore c0 c1 x2 σ = some (r, u)) : Met l yX2_restore wsX2_restore rmX2_restore (va_Pc [.ref (q (51+5*c0)), .ref (q (16+6*c1)), .int x2] (gPre D vwCl (tyL cy) (gS 78 q (TX cy q) σ))) (gQv D vwCl (gS 78 q (TX cy q) u) (gA 78 q)) 0 0 (gA 78 q) := by
  refine Met.ofW (cc := cX2_restore) (maxL := 4) (ret := none) (by decide +kernel) rfl ?_
  intro p e s m args below meth c s₁ B hml hv
  obtain ⟨rfl, hP, hK⟩ := hv
  have hl := lv_entry ([.ref (q (51+5*c0)), .ref (q (16+6*c1)), .int x2]) (n := 4) (Nat.le_of_ble_eq_true rfl)
  rw [lg_entry_eq]
  generalize (lg_sl ([.ref (q (51+5*c0)), .ref (q (16+6*c1)), .int x2]) ++ List.replicate (4 - (lg_sl ([.ref (q (51+5*c0)), .ref (q (16+6*c1)), .int x2])).length) Slot.unset).toArray = ls at hl ⊢
  have hl : lv_has ls 4 [(0, .ref (q (51+5*c0))), (1, .ref (q (16+6*c1))), (2, .int x2)] := hl
  exact kX2_restore_0 ⟨B.exec, B.bytes, B.returns, hml, findClass_of_methodNamed B.named, atoms_spec (ws := wsX2_restore) B.pre, B.notSynchronized⟩ hK hJ hc0 hc1 hP va_S.rf hl hp
theorem miX2_firstWord_X2 : ∀ w ∈ u_ws RX2 TX2 3, w ∈ wsX2_firstWord := by decide +kernel
theorem mwX2_firstWord_0 : Cond.fieldLink RX2 20 "Triplane$Copies" "newest" "I" ∈ wsX2_firstWord := by decide +kernel
theorem mwX2_firstWord_1 : Cond.fieldLink RX2 11 "Triplane$Copies" "words" "[[I" ∈ wsX2_firstWord := by decide +kernel
abbrev rmX2_firstWord : Room := { frames := 0, cells := 0, slots := 0, locals := 0 }
def sX2_firstWord_23 (sx0 : Int32) (σ : TS) : Option (Int32 × TS) := some (sx0, σ)
set_option maxHeartbeats 4000000 in
set_option maxRecDepth 100000 in
theorem kX2_firstWord_23 {r : Int32} {u : TS} (C0 : gC RX2 cX2_firstWord 1 ((some .int)) wsX2_firstWord p s m args meth c) (hK : va_K D vwCl (tyL cy) s) (hJ : gJ 78 q) {H : Heap} {locs : List Loc} {σ : TS} {sx0 : Int32} (hP : va_P D vwCl (gS 78 q (TX cy q) σ) H) (hS : va_S (gA 78 q) s.heap H locs) {ls : Array Slot} (hl : lv_has ls 1 []) (hp : sX2_firstWord_23 sx0 σ = some (r, u)) : W p l e rmX2_firstWord s m args below meth c H locs 0 0 (MQ below (gQi D vwCl r (gS 78 q (TX cy q) u) (gA 78 q)) args s 0 0 (gA 78 q)) (F0 m 23 ls [.int sx0]) := by
  obtain ⟨hx, hb, hr, hml, hown, hts, hlocks⟩ := id C0
  unfold sX2_firstWord_23 at hp
  obtain ⟨rfl, rfl⟩ := o_r hp
  exact W.iret (v := sx0) hx hb hr (fun t ht hW => ⟨⟨sx0, (), rfl, rfl, by subst ht; exact hP⟩, hS.F ht⟩) hS.2.2 dX2_firstWord_23
def sX2_firstWord_0 (c0 : Nat) (σ : TS) : Option (Int32 × TS) := (if (σ (51+5*c0) 2) = ((-1 : Int32)) then sX2_firstWord_23 ((0 : Int32)) σ else (if vin (σ (51+5*c0) 2) 2 = true then sX2_firstWord_23 (σ (53+5*c0+((σ (51+5*c0) 2).toNatClampNeg)) 0) σ else none))
set_option maxHeartbeats 4000000 in
set_option maxRecDepth 100000 in
theorem kX2_firstWord_0 {r : Int32} {u : TS} (C0 : gC RX2 cX2_firstWord 1 ((some .int)) wsX2_firstWord p s m args meth c) (hK : va_K D vwCl (tyL cy) s) (hJ : gJ 78 q) {H : Heap} {locs : List Loc} {σ : TS} {c0 : Nat} (hc0 : c0 < 3) (hP : va_P D vwCl (gS 78 q (TX cy q) σ) H) (hS : va_S (gA 78 q) s.heap H locs) {ls : Array Slot} (hl : lv_has ls 1 [(0, .ref (q (51+5*c0)))]) (hp : sX2_firstWord_0 c0 σ = some (r, u)) : W p l e rmX2_firstWord s m args below meth c H locs 0 0 (MQ below (gQi D vwCl r (gS 78 q (TX cy q) u) (gA 78 q)) args s 0 0 (gA 78 q)) (F0 m 0 ls []) := by
  obtain ⟨hx, hb, hr, hml, hown, hts, hlocks⟩ := id C0
  unfold sX2_firstWord_0 at hp
  refine lv_aload_n hx hb dX2_firstWord_0 rfl (lv_at hl 0 rfl) ?_
  refine g_get (v := .int (σ (51+5*c0) 2)) hx hb hts miX2_firstWord_X2 hown hK hP (kk_Cop hc0) (ce_Cop hc0) rfl 2 (by decide) mwX2_firstWord_0 rfl dX2_firstWord_1 ?_
  refine lv_iconst (v := (-1 : Int32)) hx hb dX2_firstWord_4 (by decide) ?_
  refine lv_icmp_ne (tgt := 12) hx hb dX2_firstWord_5 (by decide) (fun hcd1 => ?_) (fun hcd1 => ?_)
  · have hp := o_f hp hcd1
    refine lv_aload_n hx hb dX2_firstWord_12 rfl (lv_at hl 0 rfl) ?_
    refine g_get (v := .ref (q (52+5*c0))) hx hb hts miX2_firstWord_X2 hown hK hP (kk_Cop hc0) (ce_Cop hc0) rfl 0 (by decide) mwX2_firstWord_1 rfl dX2_firstWord_13 ?_
    refine lv_aload_n hx hb dX2_firstWord_16 rfl (lv_at hl 0 rfl) ?_
    refine g_get (v := .int (σ (51+5*c0) 2)) hx hb hts miX2_firstWord_X2 hown hK hP (kk_Cop hc0) (ce_Cop hc0) rfl 2 (by decide) mwX2_firstWord_0 rfl dX2_firstWord_17 ?_
    obtain ⟨hi2, hp⟩ := o_chk hp
    have hn3 : (σ (51+5*c0) 2).toNatClampNeg < 2 := Nat.lt_of_lt_of_le (vin_lt hi2) (by decide)
    refine g_aald (j := (σ (51+5*c0) 2).toNatClampNeg) hx hb hK hP (kk_CW hc0) (ce_CW hc0) 6 rfl rfl (vin_of hi2) rfl dX2_firstWord_20 ?_
    refine lv_iconst (v := (0 : Int32)) hx hb dX2_firstWord_21 (by decide) ?_
    refine g_iald (j := 0) hx hb hK hP (kk_CWi hc0 hn3) (ce_CWi hc0 hn3) 0 rfl (vin_of (by decide)) rfl dX2_firstWord_22 ?_
    exact kX2_firstWord_23 C0 hK hJ  hP hS (lv_sub hl [] rfl) hp
  · have hp := o_t hp hcd1
    refine lv_iconst (v := (0 : Int32)) hx hb dX2_firstWord_8 (by decide) ?_
    refine lv_goto (tgt := 23) hx hb dX2_firstWord_9 (by decide) ?_
    exact kX2_firstWord_23 C0 hK hJ  hP hS (lv_sub hl [] rfl) hp
def sX2_firstWord (c0 : Nat) (σ : TS) : Option (Int32 × TS) := sX2_firstWord_0 c0 σ
theorem nVX2_firstWord : yX2_firstWord.cls = RX2 ∧ yX2_firstWord.cls ≠ "java/lang/invoke/MethodHandle" ∧ yX2_firstWord.cls ≠ "java/lang/invoke/VarHandle" ∧ (parseMethodDescriptor yX2_firstWord.desc).map (fun d => d.parameters.length) = some 0 := by decide +kernel
set_option maxHeartbeats 4000000 in
set_option maxRecDepth 100000 in
theorem mX2_firstWord (l : Launch) (hJ : gJ 78 q) {c0 : Nat} (hc0 : c0 < 3) {σ : TS} {r : Int32} {u : TS} (hp : sX2_firstWord c0 σ = some (r, u)) : Met l yX2_firstWord wsX2_firstWord rmX2_firstWord (va_Pc [.ref (q (51+5*c0))] (gPre D vwCl (tyL cy) (gS 78 q (TX cy q) σ))) (gQi D vwCl r (gS 78 q (TX cy q) u) (gA 78 q)) 0 0 (gA 78 q) := by
  refine Met.ofW (cc := cX2_firstWord) (maxL := 1) (ret := (some .int)) (by decide +kernel) rfl ?_
  intro p e s m args below meth c s₁ B hml hv
  obtain ⟨rfl, hP, hK⟩ := hv
  have hl := lv_entry ([.ref (q (51+5*c0))]) (n := 1) (Nat.le_of_ble_eq_true rfl)
  rw [lg_entry_eq]
  generalize (lg_sl ([.ref (q (51+5*c0))]) ++ List.replicate (1 - (lg_sl ([.ref (q (51+5*c0))])).length) Slot.unset).toArray = ls at hl ⊢
  have hl : lv_has ls 1 [(0, .ref (q (51+5*c0)))] := hl
  exact kX2_firstWord_0 ⟨B.exec, B.bytes, B.returns, hml, findClass_of_methodNamed B.named, atoms_spec (ws := wsX2_firstWord) B.pre, B.notSynchronized⟩ hK hJ hc0 hP va_S.rf hl hp
theorem miX2_countGood_X2 : ∀ w ∈ u_ws RX2 TX2 3, w ∈ wsX2_countGood := by decide +kernel
theorem mwX2_countGood_0 : Cond.fieldLink RX2 16 "Triplane$Copies" "isGood" "[Z" ∈ wsX2_countGood := by decide +kernel
abbrev rmX2_countGood : Room := { frames := 0, cells := 0, slots := 0, locals := 0 }
def sX2_countGood_28 (sx0 : Int32) (sx1 : Int32) (σ : TS) : Option (Int32 × TS) := some (sx0 + sx1, σ)
set_option maxHeartbeats 4000000 in
set_option maxRecDepth 100000 in
theorem kX2_countGood_28 {r : Int32} {u : TS} (C0 : gC RX2 cX2_countGood 1 ((some .int)) wsX2_countGood p s m args meth c) (hK : va_K D vwCl (tyL cy) s) (hJ : gJ 78 q) {H : Heap} {locs : List Loc} {σ : TS} {sx0 : Int32} {sx1 : Int32} (hP : va_P D vwCl (gS 78 q (TX cy q) σ) H) (hS : va_S (gA 78 q) s.heap H locs) {ls : Array Slot} (hl : lv_has ls 1 []) (hp : sX2_countGood_28 sx0 sx1 σ = some (r, u)) : W p l e rmX2_countGood s m args below meth c H locs 0 0 (MQ below (gQi D vwCl r (gS 78 q (TX cy q) u) (gA 78 q)) args s 0 0 (gA 78 q)) (F0 m 28 ls [.int sx1, .int sx0]) := by
  obtain ⟨hx, hb, hr, hml, hown, hts, hlocks⟩ := id C0
  unfold sX2_countGood_28 at hp
  refine lv_iadd hx hb dX2_countGood_28 ?_
  obtain ⟨rfl, rfl⟩ := o_r hp
  exact W.iret (v := sx0 + sx1) hx hb hr (fun t ht hW => ⟨⟨sx0 + sx1, (), rfl, rfl, by subst ht; exact hP⟩, hS.F ht⟩) hS.2.2 dX2_countGood_29
def sX2_countGood_14 (c0 : Nat) (sx0 : Int32) (σ : TS) : Option (Int32 × TS) := (if (σ (55+5*c0) 1) = 0 then sX2_countGood_28 sx0 ((0 : Int32)) σ else sX2_countGood_28 sx0 ((1 : Int32)) σ)
set_option maxHeartbeats 4000000 in
set_option maxRecDepth 100000 in
theorem kX2_countGood_14 {r : Int32} {u : TS} (C0 : gC RX2 cX2_countGood 1 ((some .int)) wsX2_countGood p s m args meth c) (hK : va_K D vwCl (tyL cy) s) (hJ : gJ 78 q) {H : Heap} {locs : List Loc} {σ : TS} {c0 : Nat} {sx0 : Int32} (hc0 : c0 < 3) (hP : va_P D vwCl (gS 78 q (TX cy q) σ) H) (hS : va_S (gA 78 q) s.heap H locs) {ls : Array Slot} (hl : lv_has ls 1 [(0, .ref (q (51+5*c0)))]) (hp : sX2_countGood_14 c0 sx0 σ = some (r, u)) : W p l e rmX2_countGood s m args below meth c H locs 0 0 (MQ below (gQi D vwCl r (gS 78 q (TX cy q) u) (gA 78 q)) args s 0 0 (gA 78 q)) (F0 m 14 ls [.int sx0]) := by
  obtain ⟨hx, hb, hr, hml, hown, hts, hlocks⟩ := id C0
  unfold sX2_countGood_14 at hp
  refine lv_aload_n hx hb dX2_countGood_14 rfl (lv_at hl 0 rfl) ?_
  refine g_get (v := .ref (q (55+5*c0))) hx hb hts miX2_countGood_X2 hown hK hP (kk_Cop hc0) (ce_Cop hc0) rfl 1 (by decide) mwX2_countGood_0 rfl dX2_countGood_15 ?_
  refine lv_iconst (v := (1 : Int32)) hx hb dX2_countGood_18 (by decide) ?_
  refine g_zald (j := 1) hx hb hK hP (kk_CG hc0) (ce_CG hc0) 1 rfl (vin_of (by decide)) rfl dX2_countGood_19 ?_
  refine lv_if_eq (tgt := 27) hx hb dX2_countGood_20 (by decide) (fun hcd1 => ?_) (fun hcd1 => ?_)
  · have hp := o_t hp hcd1
    refine lv_iconst (v := (0 : Int32)) hx hb dX2_countGood_27 (by decide) ?_
    exact kX2_countGood_28 C0 hK hJ  hP hS (lv_sub hl [] rfl) hp
  · have hp := o_f hp hcd1
    refine lv_iconst (v := (1 : Int32)) hx hb dX2_countGood_23 (by decide) ?_
    refine lv_goto (tgt := 28) hx hb dX2_countGood_24 (by decide) ?_
    exact kX2_countGood_28 C0 hK hJ  hP hS (lv_sub hl [] rfl) hp
def sX2_countGood_0 (c0 : Nat) (σ : TS) : Option (Int32 × TS) := (if (σ (55+5*c0) 0) = 0 then sX2_countGood_14 c0 ((0 : Int32)) σ else sX2_countGood_14 c0 ((1 : Int32)) σ)
set_option maxHeartbeats 4000000 in
set_option maxRecDepth 100000 in
theorem kX2_countGood_0 {r : Int32} {u : TS} (C0 : gC RX2 cX2_countGood 1 ((some .int)) wsX2_countGood p s m args meth c) (hK : va_K D vwCl (tyL cy) s) (hJ : gJ 78 q) {H : Heap} {locs : List Loc} {σ : TS} {c0 : Nat} (hc0 : c0 < 3) (hP : va_P D vwCl (gS 78 q (TX cy q) σ) H) (hS : va_S (gA 78 q) s.heap H locs) {ls : Array Slot} (hl : lv_has ls 1 [(0, .ref (q (51+5*c0)))]) (hp : sX2_countGood_0 c0 σ = some (r, u)) : W p l e rmX2_countGood s m args below meth c H locs 0 0 (MQ below (gQi D vwCl r (gS 78 q (TX cy q) u) (gA 78 q)) args s 0 0 (gA 78 q)) (F0 m 0 ls []) := by
  obtain ⟨hx, hb, hr, hml, hown, hts, hlocks⟩ := id C0
  unfold sX2_countGood_0 at hp
  refine lv_aload_n hx hb dX2_countGood_0 rfl (lv_at hl 0 rfl) ?_
  refine g_get (v := .ref (q (55+5*c0))) hx hb hts miX2_countGood_X2 hown hK hP (kk_Cop hc0) (ce_Cop hc0) rfl 1 (by decide) mwX2_countGood_0 rfl dX2_countGood_1 ?_
  refine lv_iconst (v := (0 : Int32)) hx hb dX2_countGood_4 (by decide) ?_
  refine g_zald (j := 0) hx hb hK hP (kk_CG hc0) (ce_CG hc0) 1 rfl (vin_of (by decide)) rfl dX2_countGood_5 ?_
  refine lv_if_eq (tgt := 13) hx hb dX2_countGood_6 (by decide) (fun hcd2 => ?_) (fun hcd2 => ?_)
  · have hp := o_t hp hcd2
    refine lv_iconst (v := (0 : Int32)) hx hb dX2_countGood_13 (by decide) ?_
    exact kX2_countGood_14 C0 hK hJ hc0 hP hS hl hp
  · have hp := o_f hp hcd2
    refine lv_iconst (v := (1 : Int32)) hx hb dX2_countGood_9 (by decide) ?_
    refine lv_goto (tgt := 14) hx hb dX2_countGood_10 (by decide) ?_
    exact kX2_countGood_14 C0 hK hJ hc0 hP hS hl hp
def sX2_countGood (c0 : Nat) (σ : TS) : Option (Int32 × TS) := sX2_countGood_0 c0 σ
theorem nVX2_countGood : yX2_countGood.cls = RX2 ∧ yX2_countGood.cls ≠ "java/lang/invoke/MethodHandle" ∧ yX2_countGood.cls ≠ "java/lang/invoke/VarHandle" ∧ (parseMethodDescriptor yX2_countGood.desc).map (fun d => d.parameters.length) = some 0 := by decide +kernel
set_option maxHeartbeats 4000000 in
set_option maxRecDepth 100000 in
theorem mX2_countGood (l : Launch) (hJ : gJ 78 q) {c0 : Nat} (hc0 : c0 < 3) {σ : TS} {r : Int32} {u : TS} (hp : sX2_countGood c0 σ = some (r, u)) : Met l yX2_countGood wsX2_countGood rmX2_countGood (va_Pc [.ref (q (51+5*c0))] (gPre D vwCl (tyL cy) (gS 78 q (TX cy q) σ))) (gQi D vwCl r (gS 78 q (TX cy q) u) (gA 78 q)) 0 0 (gA 78 q) := by
  refine Met.ofW (cc := cX2_countGood) (maxL := 1) (ret := (some .int)) (by decide +kernel) rfl ?_
  intro p e s m args below meth c s₁ B hml hv
  obtain ⟨rfl, hP, hK⟩ := hv
  have hl := lv_entry ([.ref (q (51+5*c0))]) (n := 1) (Nat.le_of_ble_eq_true rfl)
  rw [lg_entry_eq]
  generalize (lg_sl ([.ref (q (51+5*c0))]) ++ List.replicate (1 - (lg_sl ([.ref (q (51+5*c0))])).length) Slot.unset).toArray = ls at hl ⊢
  have hl : lv_has ls 1 [(0, .ref (q (51+5*c0)))] := hl
  exact kX2_countGood_0 ⟨B.exec, B.bytes, B.returns, hml, findClass_of_methodNamed B.named, atoms_spec (ws := wsX2_countGood) B.pre, B.notSynchronized⟩ hK hJ hc0 hP va_S.rf hl hp
abbrev rmJ9_floorMod_7cf53 : Room := { frames := 0, cells := 0, slots := 0, locals := 0 }
def sJ9_floorMod_7cf53_18 (x2 : Int32) (σ : TS) : Option (Int32 × TS) := some (x2, σ)
set_option maxHeartbeats 4000000 in
set_option maxRecDepth 100000 in
theorem kJ9_floorMod_7cf53_18 {r : Int32} {u : TS} (C0 : gC RJ9 cJ9_floorMod_7cf53 3 ((some .int)) wsJ9_floorMod_7cf53 p s m args meth c) (hK : va_K D vwCl (tyL cy) s) (hJ : gJ 78 q) {H : Heap} {locs : List Loc} {σ : TS} {x2 : Int32} (hP : va_P D vwCl (gS 78 q (TX cy q) σ) H) (hS : va_S (gA 78 q) s.heap H locs) {ls : Array Slot} (hl : lv_has ls 3 [(2, .int x2)]) (hp : sJ9_floorMod_7cf53_18 x2 σ = some (r, u)) : W p l e rmJ9_floorMod_7cf53 s m args below meth c H locs 0 0 (MQ below (gQi D vwCl r (gS 78 q (TX cy q) u) (gA 78 q)) args s 0 0 (gA 78 q)) (F0 m 18 ls []) := by
  obtain ⟨hx, hb, hr, hml, hown, hts, hlocks⟩ := id C0
  unfold sJ9_floorMod_7cf53_18 at hp
  refine lv_iload_n hx hb dJ9_floorMod_7cf53_18 rfl (lv_at hl 0 rfl) ?_
  obtain ⟨rfl, rfl⟩ := o_r hp
  exact W.iret (v := x2) hx hb hr (fun t ht hW => ⟨⟨x2, (), rfl, rfl, by subst ht; exact hP⟩, hS.F ht⟩) hS.2.2 dJ9_floorMod_7cf53_19
def sJ9_floorMod_7cf53_0 (x0 : Int32) (x1 : Int32) (σ : TS) : Option (Int32 × TS) := (if nzk x1 = true then (if 0 ≤ (x0 ^^^ x1) then sJ9_floorMod_7cf53_18 (x0 - x0 / x1 * x1) σ else (if (x0 - x0 / x1 * x1) = 0 then sJ9_floorMod_7cf53_18 (x0 - x0 / x1 * x1) σ else some ((x0 - x0 / x1 * x1) + x1, σ))) else none)
set_option maxHeartbeats 4000000 in
set_option maxRecDepth 100000 in
theorem kJ9_floorMod_7cf53_0 {r : Int32} {u : TS} (C0 : gC RJ9 cJ9_floorMod_7cf53 3 ((some .int)) wsJ9_floorMod_7cf53 p s m args meth c) (hK : va_K D vwCl (tyL cy) s) (hJ : gJ 78 q) {H : Heap} {locs : List Loc} {σ : TS} {x0 : Int32} {x1 : Int32} (hP : va_P D vwCl (gS 78 q (TX cy q) σ) H) (hS : va_S (gA 78 q) s.heap H locs) {ls : Array Slot} (hl : lv_has ls 3 [(0, .int x0), (1, .int x1)]) (hp : sJ9_floorMod_7cf53_0 x0 x1 σ = some (r, u)) : W p l e rmJ9_floorMod_7cf53 s m args below meth c H locs 0 0 (MQ below (gQi D vwCl r (gS 78 q (TX cy q) u) (gA 78 q)) args s 0 0 (gA 78 q)) (F0 m 0 ls []) := by
  obtain ⟨hx, hb, hr, hml, hown, hts, hlocks⟩ := id C0
  unfold sJ9_floorMod_7cf53_0 at hp
  refine lv_iload_n hx hb dJ9_floorMod_7cf53_0 rfl (lv_at hl 0 rfl) ?_
  refine lv_iload_n hx hb dJ9_floorMod_7cf53_1 rfl (lv_at hl 1 rfl) ?_
  obtain ⟨hz1, hp⟩ := o_chk hp
  refine lv_irem hx hb dJ9_floorMod_7cf53_2 (nzk_n hz1) ?_
  refine lv_istore_n (lv' := [(2, .int (x0 - x0 / x1 * x1)), (0, .int x0), (1, .int x1)]) hx hb dJ9_floorMod_7cf53_3 rfl hl (by decide) rfl (fun ls hl => ?_)
  refine lv_iload_n hx hb dJ9_floorMod_7cf53_4 rfl (lv_at hl 1 rfl) ?_
  refine lv_iload_n hx hb dJ9_floorMod_7cf53_5 rfl (lv_at hl 2 rfl) ?_
  refine lv_ixor hx hb dJ9_floorMod_7cf53_6 ?_
  refine lv_if_ge (tgt := 18) hx hb dJ9_floorMod_7cf53_7 (by decide) (fun hcd2 => ?_) (fun hcd2 => ?_)
  · have hp := o_t hp hcd2
    exact kJ9_floorMod_7cf53_18 C0 hK hJ  hP hS (lv_sub hl [0] rfl) hp
  · have hp := o_f hp hcd2
    refine lv_iload_n hx hb dJ9_floorMod_7cf53_10 rfl (lv_at hl 0 rfl) ?_
    refine lv_if_eq (tgt := 18) hx hb dJ9_floorMod_7cf53_11 (by decide) (fun hcd3 => ?_) (fun hcd3 => ?_)
    · have hp := o_t hp hcd3
      exact kJ9_floorMod_7cf53_18 C0 hK hJ  hP hS (lv_sub hl [0] rfl) hp
    · have hp := o_f hp hcd3
      refine lv_iload_n hx hb dJ9_floorMod_7cf53_14 rfl (lv_at hl 0 rfl) ?_
      refine lv_iload_n hx hb dJ9_floorMod_7cf53_15 rfl (lv_at hl 2 rfl) ?_
      refine lv_iadd hx hb dJ9_floorMod_7cf53_16 ?_
      obtain ⟨rfl, rfl⟩ := o_r hp
      exact W.iret (v := (x0 - x0 / x1 * x1) + x1) hx hb hr (fun t ht hW => ⟨⟨(x0 - x0 / x1 * x1) + x1, (), rfl, rfl, by subst ht; exact hP⟩, hS.F ht⟩) hS.2.2 dJ9_floorMod_7cf53_17
def sJ9_floorMod_7cf53 (x0 : Int32) (x1 : Int32) (σ : TS) : Option (Int32 × TS) := sJ9_floorMod_7cf53_0 x0 x1 σ
theorem nVJ9_floorMod_7cf53 : yJ9_floorMod_7cf53.cls ≠ "java/lang/invoke/MethodHandle" ∧ yJ9_floorMod_7cf53.cls ≠ "java/lang/invoke/VarHandle" ∧ (parseMethodDescriptor yJ9_floorMod_7cf53.desc).map (fun d => d.parameters.length) = some 2 := by decide +kernel
set_option maxHeartbeats 4000000 in
set_option maxRecDepth 100000 in
theorem mJ9_floorMod_7cf53 (l : Launch) (hJ : gJ 78 q) {x0 : Int32} {x1 : Int32} {σ : TS} {r : Int32} {u : TS} (hp : sJ9_floorMod_7cf53 x0 x1 σ = some (r, u)) : Met l yJ9_floorMod_7cf53 wsJ9_floorMod_7cf53 rmJ9_floorMod_7cf53 (va_Pc [.int x0, .int x1] (gPre D vwCl (tyL cy) (gS 78 q (TX cy q) σ))) (gQi D vwCl r (gS 78 q (TX cy q) u) (gA 78 q)) 0 0 (gA 78 q) := by
  refine g_ofW (cc := cJ9_floorMod_7cf53) (maxL := 3) (ret := (some .int)) (by decide +kernel) rfl ?_
  intro p e s m args below meth c s₁ B hml hv
  obtain ⟨rfl, hP, hK⟩ := hv
  have hl := lv_entry ([.int x0, .int x1]) (n := 3) (Nat.le_of_ble_eq_true rfl)
  rw [lg_entry_eq]
  generalize (lg_sl ([.int x0, .int x1]) ++ List.replicate (3 - (lg_sl ([.int x0, .int x1])).length) Slot.unset).toArray = ls at hl ⊢
  have hl : lv_has ls 3 [(0, .int x0), (1, .int x1)] := hl
  exact kJ9_floorMod_7cf53_0 ⟨B.exec, B.bytes, B.returns, hml, findClass_of_methodNamed B.named, atoms_spec (ws := wsJ9_floorMod_7cf53) B.pre, B.notSynchronized⟩ hK hJ  hP va_S.rf hl hp
theorem miX3_append_X3 : ∀ w ∈ u_ws RX3 TX3 4, w ∈ wsX3_append := by decide +kernel
theorem mwX3_append_0 : Cond.fieldLink RX3 9 "Triplane$Log" "times" "[I" ∈ wsX3_append := by decide +kernel
theorem mwX3_append_1 : Cond.fieldLink RX3 15 "Triplane$Log" "computers" "[I" ∈ wsX3_append := by decide +kernel
theorem mwX3_append_2 : Cond.fieldLink RX3 18 "Triplane$Log" "letters" "[C" ∈ wsX3_append := by decide +kernel
theorem mwX3_append_3 : Cond.fieldLink RX3 22 "Triplane$Log" "total" "I" ∈ wsX3_append := by decide +kernel
abbrev rmX3_append : Room := { frames := 1, cells := 0, slots := 0, locals := 22 }
def sX3_append_9 (x1 : Int32) (x2 : Int32) (x3 : Int32) (sx0 : Int32) (σ : TS) : Option (Int32 × TS) := (if vin sx0 30 = true then some (0, st2 (st2 (st2 (st2 σ 12 (sx0.toNatClampNeg) x1) 13 (sx0.toNatClampNeg) x2) 14 (sx0.toNatClampNeg) (vp_nar .char x3)) 11 3 (((st2 (st2 (st2 σ 12 (sx0.toNatClampNeg) x1) 13 (sx0.toNatClampNeg) x2) 14 (sx0.toNatClampNeg) (vp_nar .char x3)) 11 3) + ((1 : Int32)))) else none)
set_option maxHeartbeats 4000000 in
set_option maxRecDepth 100000 in
theorem kX3_append_9 {r : Int32} {u : TS} (C0 : gC RX3 cX3_append 5 none wsX3_append p s m args meth c) (hK : va_K D vwCl (tyL cy) s) (hJ : gJ 78 q) {H : Heap} {locs : List Loc} {σ : TS} {x1 : Int32} {x2 : Int32} {x3 : Int32} {sx0 : Int32} (hP : va_P D vwCl (gS 78 q (TX cy q) σ) H) (hS : va_S (gA 78 q) s.heap H locs) {ls : Array Slot} (hl : lv_has ls 5 [(0, .ref (q (11))), (1, .int x1), (2, .int x2), (3, .int x3)]) (hp : sX3_append_9 x1 x2 x3 sx0 σ = some (r, u)) : W p l e rmX3_append s m args below meth c H locs 0 0 (MQ below (gQv D vwCl (gS 78 q (TX cy q) u) (gA 78 q)) args s 0 0 (gA 78 q)) (F0 m 9 ls [.int sx0]) := by
  obtain ⟨hx, hb, hr, hml, hown, hts, hlocks⟩ := id C0
  unfold sX3_append_9 at hp
  refine lv_istore (lv' := [(4, .int sx0), (0, .ref (q (11))), (1, .int x1), (2, .int x2), (3, .int x3)]) hx hb dX3_append_9 hl (by decide) rfl (fun ls hl => ?_)
  refine lv_aload_n hx hb dX3_append_11 rfl (lv_at hl 1 rfl) ?_
  refine g_get (v := .ref (q (12))) hx hb hts miX3_append_X3 hown hK hP (kk_Log) (ce_Log) rfl 0 (by decide) mwX3_append_0 rfl dX3_append_12 ?_
  refine lv_iload hx hb dX3_append_15 (lv_at hl 0 rfl) ?_
  refine lv_iload_n hx hb dX3_append_17 rfl (lv_at hl 2 rfl) ?_
  obtain ⟨hi1, hp⟩ := o_chk hp
  refine g_iast (j := sx0.toNatClampNeg) hx hb hK hJ hP hS (kk_LogT) (ce_LogT) 0 rfl (vin_of hi1) rfl dX3_append_18 (fun H locs hP hS => ?_)
  refine lv_aload_n hx hb dX3_append_19 rfl (lv_at hl 1 rfl) ?_
  refine g_get (v := .ref (q (13))) hx hb hts miX3_append_X3 hown hK hP (kk_Log) (ce_Log) rfl 1 (by decide) mwX3_append_1 rfl dX3_append_20 ?_
  refine lv_iload hx hb dX3_append_23 (lv_at hl 0 rfl) ?_
  refine lv_iload_n hx hb dX3_append_25 rfl (lv_at hl 3 rfl) ?_
  refine g_iast (j := sx0.toNatClampNeg) hx hb hK hJ hP hS (kk_LogC) (ce_LogC) 0 rfl (vin_of hi1) rfl dX3_append_26 (fun H locs hP hS => ?_)
  refine lv_aload_n hx hb dX3_append_27 rfl (lv_at hl 1 rfl) ?_
  refine g_get (v := .ref (q (14))) hx hb hts miX3_append_X3 hown hK hP (kk_Log) (ce_Log) rfl 2 (by decide) mwX3_append_2 rfl dX3_append_28 ?_
  refine lv_iload hx hb dX3_append_31 (lv_at hl 0 rfl) ?_
  refine lv_iload_n hx hb dX3_append_33 rfl (lv_at hl 4 rfl) ?_
  refine g_cast (j := sx0.toNatClampNeg) hx hb hK hJ hP hS (kk_LogL) (ce_LogL) 2 rfl (vin_of hi1) rfl dX3_append_34 (fun H locs hP hS => ?_)
  refine lv_aload_n hx hb dX3_append_35 rfl (lv_at hl 1 rfl) ?_
  refine lv_dup hx hb dX3_append_36 rfl ?_
  refine g_get (v := .int ((st2 (st2 (st2 σ 12 (sx0.toNatClampNeg) x1) 13 (sx0.toNatClampNeg) x2) 14 (sx0.toNatClampNeg) (vp_nar .char x3)) 11 3)) hx hb hts miX3_append_X3 hown hK hP (kk_Log) (ce_Log) rfl 3 (by decide) mwX3_append_3 rfl dX3_append_37 ?_
  refine lv_iconst (v := (1 : Int32)) hx hb dX3_append_40 (by decide) ?_
  refine lv_iadd hx hb dX3_append_41 ?_
  refine g_put (v := ((st2 (st2 (st2 σ 12 (sx0.toNatClampNeg) x1) 13 (sx0.toNatClampNeg) x2) 14 (sx0.toNatClampNeg) (vp_nar .char x3)) 11 3) + ((1 : Int32))) hx hb hts miX3_append_X3 tyX3 tyX3_ok nmX3 hown hK hJ hP hS (kk_Log) (ce_Log) rfl 3 (by decide) mwX3_append_3 rfl rfl rfl (Nat.le_of_ble_eq_true rfl) rfl dX3_append_42 (fun H locs hP hS => ?_)
  obtain ⟨rfl, rfl⟩ := o_r hp
  exact W.vret hx hb hr (fun t ht hW => ⟨⟨(), rfl, trivial, by subst ht; exact hP⟩, hS.F ht⟩) hS.2.2 dX3_append_45
def sX3_append_0 (x1 : Int32) (x2 : Int32) (x3 : Int32) (σ : TS) : Option (Int32 × TS) := ((sJ9_floorMod_7cf53 (σ 11 3) ((30 : Int32)) σ).bind (fun z => sX3_append_9 x1 x2 x3 z.1 z.2))
set_option maxHeartbeats 4000000 in
set_option maxRecDepth 100000 in
theorem kX3_append_0 {r : Int32} {u : TS} (C0 : gC RX3 cX3_append 5 none wsX3_append p s m args meth c) (hK : va_K D vwCl (tyL cy) s) (hJ : gJ 78 q) {H : Heap} {locs : List Loc} {σ : TS} {x1 : Int32} {x2 : Int32} {x3 : Int32} (hP : va_P D vwCl (gS 78 q (TX cy q) σ) H) (hS : va_S (gA 78 q) s.heap H locs) {ls : Array Slot} (hl : lv_has ls 5 [(0, .ref (q (11))), (1, .int x1), (2, .int x2), (3, .int x3)]) (hp : sX3_append_0 x1 x2 x3 σ = some (r, u)) : W p l e rmX3_append s m args below meth c H locs 0 0 (MQ below (gQv D vwCl (gS 78 q (TX cy q) u) (gA 78 q)) args s 0 0 (gA 78 q)) (F0 m 0 ls []) := by
  obtain ⟨hx, hb, hr, hml, hown, hts, hlocks⟩ := id C0
  unfold sX3_append_0 at hp
  refine lv_aload_n hx hb dX3_append_0 rfl (lv_at hl 0 rfl) ?_
  refine g_get (v := .int (σ 11 3)) hx hb hts miX3_append_X3 hown hK hP (kk_Log) (ce_Log) rfl 3 (by decide) mwX3_append_3 rfl dX3_append_1 ?_
  refine lv_bipush (v := (30 : Int32)) hx hb dX3_append_4 (by decide) ?_
  obtain ⟨⟨r2, u3⟩, hq4, hp⟩ := o_b hp
  refine g_cSi (As := [.int (σ 11 3), .int ((30 : Int32))]) (rest := []) hx hb hml hown hts hK hP hS (mJ9_floorMod_7cf53 l hJ hq4) (va_cwS 2 hts gX3_append_J9_floorMod_7cf53 rfl rfl rfl nVJ9_floorMod_7cf53 ⟨Nat.le_of_ble_eq_true rfl, Nat.le_of_ble_eq_true rfl⟩) rfl hl.1 rfl (Nat.le_of_ble_eq_true rfl) dX3_append_6 ⟨Nat.le_of_ble_eq_true rfl, Nat.le_of_ble_eq_true rfl⟩ (fun H locs hP hS => ?_)
  exact kX3_append_9 C0 hK hJ  hP hS hl hp
def sX3_append (x1 : Int32) (x2 : Int32) (x3 : Int32) (σ : TS) : Option (Int32 × TS) := sX3_append_0 x1 x2 x3 σ
theorem nVX3_append : yX3_append.cls = RX3 ∧ yX3_append.cls ≠ "java/lang/invoke/MethodHandle" ∧ yX3_append.cls ≠ "java/lang/invoke/VarHandle" ∧ (parseMethodDescriptor yX3_append.desc).map (fun d => d.parameters.length) = some 3 := by decide +kernel
set_option maxHeartbeats 4000000 in
set_option maxRecDepth 100000 in
theorem mX3_append (l : Launch) (hJ : gJ 78 q) {x1 : Int32} {x2 : Int32} {x3 : Int32} {σ : TS} {r : Int32} {u : TS} (hp : sX3_append x1 x2 x3 σ = some (r, u)) : Met l yX3_append wsX3_append rmX3_append (va_Pc [.ref (q (11)), .int x1, .int x2, .int x3] (gPre D vwCl (tyL cy) (gS 78 q (TX cy q) σ))) (gQv D vwCl (gS 78 q (TX cy q) u) (gA 78 q)) 0 0 (gA 78 q) := by
  refine Met.ofW (cc := cX3_append) (maxL := 5) (ret := none) (by decide +kernel) rfl ?_
  intro p e s m args below meth c s₁ B hml hv
  obtain ⟨rfl, hP, hK⟩ := hv
  have hl := lv_entry ([.ref (q (11)), .int x1, .int x2, .int x3]) (n := 5) (Nat.le_of_ble_eq_true rfl)
  rw [lg_entry_eq]
  generalize (lg_sl ([.ref (q (11)), .int x1, .int x2, .int x3]) ++ List.replicate (5 - (lg_sl ([.ref (q (11)), .int x1, .int x2, .int x3])).length) Slot.unset).toArray = ls at hl ⊢
  have hl : lv_has ls 5 [(0, .ref (q (11))), (1, .int x1), (2, .int x2), (3, .int x3)] := hl
  exact kX3_append_0 ⟨B.exec, B.bytes, B.returns, hml, findClass_of_methodNamed B.named, atoms_spec (ws := wsX3_append) B.pre, B.notSynchronized⟩ hK hJ  hP va_S.rf hl hp
theorem miX3_countKept_X3 : ∀ w ∈ u_ws RX3 TX3 4, w ∈ wsX3_countKept := by decide +kernel
theorem mwX3_countKept_0 : Cond.fieldLink RX3 22 "Triplane$Log" "total" "I" ∈ wsX3_countKept := by decide +kernel
theorem mwX3_countKept_1 : Cond.methodLink RX3 32 Lib.Math.min.name ∈ wsX3_countKept := by decide +kernel
theorem mwX3_countKept_2 : Cond.static Lib.Math.min.name ∈ wsX3_countKept := by decide +kernel
theorem mwX3_countKept_3 : Cond.initialized "java/lang/Math" ∈ wsX3_countKept := by decide +kernel
theorem mwX3_countKept_4 : Cond.code Lib.Math.min.name Lib.Math.min.code 2 (some .int) ∈ wsX3_countKept := by decide +kernel
abbrev rmX3_countKept : Room := { frames := 1, cells := 0, slots := 0, locals := 21 }
def sX3_countKept_0 (σ : TS) : Option (Int32 × TS) := some (if ((30 : Int32)) < (σ 11 3) then ((30 : Int32)) else (σ 11 3), σ)
set_option maxHeartbeats 4000000 in
set_option maxRecDepth 100000 in
theorem kX3_countKept_0 {r : Int32} {u : TS} (C0 : gC RX3 cX3_countKept 1 ((some .int)) wsX3_countKept p s m args meth c) (hK : va_K D vwCl (tyL cy) s) (hJ : gJ 78 q) {H : Heap} {locs : List Loc} {σ : TS} (hP : va_P D vwCl (gS 78 q (TX cy q) σ) H) (hS : va_S (gA 78 q) s.heap H locs) {ls : Array Slot} (hl : lv_has ls 1 [(0, .ref (q (11)))]) (hp : sX3_countKept_0 σ = some (r, u)) : W p l e rmX3_countKept s m args below meth c H locs 0 0 (MQ below (gQi D vwCl r (gS 78 q (TX cy q) u) (gA 78 q)) args s 0 0 (gA 78 q)) (F0 m 0 ls []) := by
  obtain ⟨hx, hb, hr, hml, hown, hts, hlocks⟩ := id C0
  unfold sX3_countKept_0 at hp
  refine lv_aload_n hx hb dX3_countKept_0 rfl (lv_at hl 0 rfl) ?_
  refine g_get (v := .int (σ 11 3)) hx hb hts miX3_countKept_X3 hown hK hP (kk_Log) (ce_Log) rfl 3 (by decide) mwX3_countKept_0 rfl dX3_countKept_1 ?_
  refine lv_bipush (v := (30 : Int32)) hx hb dX3_countKept_4 (by decide) ?_
  refine va_mmin hx hb (hml.trans hl.1.symm) hown (hts _ mwX3_countKept_1) (hts _ mwX3_countKept_2) (hts _ mwX3_countKept_3) (hts _ mwX3_countKept_4) (Nat.le_of_ble_eq_true rfl) (Nat.le_of_ble_eq_true rfl) (Nat.le_of_ble_eq_true rfl) (Nat.le_of_ble_eq_true rfl) dX3_countKept_6 ?_
  obtain ⟨rfl, rfl⟩ := o_r hp
  exact W.iret (v := if ((30 : Int32)) < (σ 11 3) then ((30 : Int32)) else (σ 11 3)) hx hb hr (fun t ht hW => ⟨⟨if ((30 : Int32)) < (σ 11 3) then ((30 : Int32)) else (σ 11 3), (), rfl, rfl, by subst ht; exact hP⟩, hS.F ht⟩) hS.2.2 dX3_countKept_9
def sX3_countKept (σ : TS) : Option (Int32 × TS) := sX3_countKept_0 σ
theorem nVX3_countKept : yX3_countKept.cls = RX3 ∧ yX3_countKept.cls ≠ "java/lang/invoke/MethodHandle" ∧ yX3_countKept.cls ≠ "java/lang/invoke/VarHandle" ∧ (parseMethodDescriptor yX3_countKept.desc).map (fun d => d.parameters.length) = some 0 := by decide +kernel
set_option maxHeartbeats 4000000 in
set_option maxRecDepth 100000 in
theorem mX3_countKept (l : Launch) (hJ : gJ 78 q) {σ : TS} {r : Int32} {u : TS} (hp : sX3_countKept σ = some (r, u)) : Met l yX3_countKept wsX3_countKept rmX3_countKept (va_Pc [.ref (q (11))] (gPre D vwCl (tyL cy) (gS 78 q (TX cy q) σ))) (gQi D vwCl r (gS 78 q (TX cy q) u) (gA 78 q)) 0 0 (gA 78 q) := by
  refine Met.ofW (cc := cX3_countKept) (maxL := 1) (ret := (some .int)) (by decide +kernel) rfl ?_
  intro p e s m args below meth c s₁ B hml hv
  obtain ⟨rfl, hP, hK⟩ := hv
  have hl := lv_entry ([.ref (q (11))]) (n := 1) (Nat.le_of_ble_eq_true rfl)
  rw [lg_entry_eq]
  generalize (lg_sl ([.ref (q (11))]) ++ List.replicate (1 - (lg_sl ([.ref (q (11))])).length) Slot.unset).toArray = ls at hl ⊢
  have hl : lv_has ls 1 [(0, .ref (q (11)))] := hl
  exact kX3_countKept_0 ⟨B.exec, B.bytes, B.returns, hml, findClass_of_methodNamed B.named, atoms_spec (ws := wsX3_countKept) B.pre, B.notSynchronized⟩ hK hJ  hP va_S.rf hl hp
theorem miX3_wasFull_X3 : ∀ w ∈ u_ws RX3 TX3 4, w ∈ wsX3_wasFull := by decide +kernel
theorem mwX3_wasFull_0 : Cond.fieldLink RX3 22 "Triplane$Log" "total" "I" ∈ wsX3_wasFull := by decide +kernel
abbrev rmX3_wasFull : Room := { frames := 0, cells := 0, slots := 0, locals := 0 }
def sX3_wasFull_14 (sx0 : Int32) (σ : TS) : Option (Int32 × TS) := (if zok sx0 = true then some (sx0, σ) else none)
set_option maxHeartbeats 4000000 in
set_option maxRecDepth 100000 in
theorem kX3_wasFull_14 {r : Int32} {u : TS} (C0 : gC RX3 cX3_wasFull 1 ((some .boolean)) wsX3_wasFull p s m args meth c) (hK : va_K D vwCl (tyL cy) s) (hJ : gJ 78 q) {H : Heap} {locs : List Loc} {σ : TS} {sx0 : Int32} (hP : va_P D vwCl (gS 78 q (TX cy q) σ) H) (hS : va_S (gA 78 q) s.heap H locs) {ls : Array Slot} (hl : lv_has ls 1 []) (hp : sX3_wasFull_14 sx0 σ = some (r, u)) : W p l e rmX3_wasFull s m args below meth c H locs 0 0 (MQ below (gQi D vwCl r (gS 78 q (TX cy q) u) (gA 78 q)) args s 0 0 (gA 78 q)) (F0 m 14 ls [.int sx0]) := by
  obtain ⟨hx, hb, hr, hml, hown, hts, hlocks⟩ := id C0
  unfold sX3_wasFull_14 at hp
  obtain ⟨hz1, hp⟩ := o_chk hp
  obtain ⟨rfl, rfl⟩ := o_r hp
  exact W.zret (v := sx0) hx hb hr (zok_n hz1).1 (fun t ht hW => ⟨⟨sx0, (), rfl, rfl, by subst ht; exact hP⟩, hS.F ht⟩) hS.2.2 dX3_wasFull_14
def sX3_wasFull_0 (σ : TS) : Option (Int32 × TS) := (if (σ 11 3) < ((30 : Int32)) then sX3_wasFull_14 ((0 : Int32)) σ else sX3_wasFull_14 ((1 : Int32)) σ)
set_option maxHeartbeats 4000000 in
set_option maxRecDepth 100000 in
theorem kX3_wasFull_0 {r : Int32} {u : TS} (C0 : gC RX3 cX3_wasFull 1 ((some .boolean)) wsX3_wasFull p s m args meth c) (hK : va_K D vwCl (tyL cy) s) (hJ : gJ 78 q) {H : Heap} {locs : List Loc} {σ : TS} (hP : va_P D vwCl (gS 78 q (TX cy q) σ) H) (hS : va_S (gA 78 q) s.heap H locs) {ls : Array Slot} (hl : lv_has ls 1 [(0, .ref (q (11)))]) (hp : sX3_wasFull_0 σ = some (r, u)) : W p l e rmX3_wasFull s m args below meth c H locs 0 0 (MQ below (gQi D vwCl r (gS 78 q (TX cy q) u) (gA 78 q)) args s 0 0 (gA 78 q)) (F0 m 0 ls []) := by
  obtain ⟨hx, hb, hr, hml, hown, hts, hlocks⟩ := id C0
  unfold sX3_wasFull_0 at hp
  refine lv_aload_n hx hb dX3_wasFull_0 rfl (lv_at hl 0 rfl) ?_
  refine g_get (v := .int (σ 11 3)) hx hb hts miX3_wasFull_X3 hown hK hP (kk_Log) (ce_Log) rfl 3 (by decide) mwX3_wasFull_0 rfl dX3_wasFull_1 ?_
  refine lv_bipush (v := (30 : Int32)) hx hb dX3_wasFull_4 (by decide) ?_
  refine lv_icmp_lt (tgt := 13) hx hb dX3_wasFull_6 (by decide) (fun hcd2 => ?_) (fun hcd2 => ?_)
  · have hp := o_t hp hcd2
    refine lv_iconst (v := (0 : Int32)) hx hb dX3_wasFull_13 (by decide) ?_
    exact kX3_wasFull_14 C0 hK hJ  hP hS (lv_sub hl [] rfl) hp
  · have hp := o_f hp hcd2
    refine lv_iconst (v := (1 : Int32)) hx hb dX3_wasFull_9 (by decide) ?_
    refine lv_goto (tgt := 14) hx hb dX3_wasFull_10 (by decide) ?_
    exact kX3_wasFull_14 C0 hK hJ  hP hS (lv_sub hl [] rfl) hp
def sX3_wasFull (σ : TS) : Option (Int32 × TS) := sX3_wasFull_0 σ
theorem nVX3_wasFull : yX3_wasFull.cls = RX3 ∧ yX3_wasFull.cls ≠ "java/lang/invoke/MethodHandle" ∧ yX3_wasFull.cls ≠ "java/lang/invoke/VarHandle" ∧ (parseMethodDescriptor yX3_wasFull.desc).map (fun d => d.parameters.length) = some 0 := by decide +kernel
set_option maxHeartbeats 4000000 in
set_option maxRecDepth 100000 in
theorem mX3_wasFull (l : Launch) (hJ : gJ 78 q) {σ : TS} {r : Int32} {u : TS} (hp : sX3_wasFull σ = some (r, u)) : Met l yX3_wasFull wsX3_wasFull rmX3_wasFull (va_Pc [.ref (q (11))] (gPre D vwCl (tyL cy) (gS 78 q (TX cy q) σ))) (gQi D vwCl r (gS 78 q (TX cy q) u) (gA 78 q)) 0 0 (gA 78 q) := by
  refine Met.ofW (cc := cX3_wasFull) (maxL := 1) (ret := (some .boolean)) (by decide +kernel) rfl ?_
  intro p e s m args below meth c s₁ B hml hv
  obtain ⟨rfl, hP, hK⟩ := hv
  have hl := lv_entry ([.ref (q (11))]) (n := 1) (Nat.le_of_ble_eq_true rfl)
  rw [lg_entry_eq]
  generalize (lg_sl ([.ref (q (11))]) ++ List.replicate (1 - (lg_sl ([.ref (q (11))])).length) Slot.unset).toArray = ls at hl ⊢
  have hl : lv_has ls 1 [(0, .ref (q (11)))] := hl
  exact kX3_wasFull_0 ⟨B.exec, B.bytes, B.returns, hml, findClass_of_methodNamed B.named, atoms_spec (ws := wsX3_wasFull) B.pre, B.notSynchronized⟩ hK hJ  hP va_S.rf hl hp
theorem miX3_rowOf_X3 : ∀ w ∈ u_ws RX3 TX3 4, w ∈ wsX3_rowOf := by decide +kernel
theorem mwX3_rowOf_0 : Cond.fieldLink RX3 22 "Triplane$Log" "total" "I" ∈ wsX3_rowOf := by decide +kernel
abbrev rmX3_rowOf : Room := { frames := 1, cells := 0, slots := 0, locals := 22 }
def sX3_rowOf_13 (sx0 : Int32) (σ : TS) : Option (Int32 × TS) := some (sx0, σ)
set_option maxHeartbeats 4000000 in
set_option maxRecDepth 100000 in
theorem kX3_rowOf_13 {r : Int32} {u : TS} (C0 : gC RX3 cX3_rowOf 2 ((some .int)) wsX3_rowOf p s m args meth c) (hK : va_K D vwCl (tyL cy) s) (hJ : gJ 78 q) {H : Heap} {locs : List Loc} {σ : TS} {sx0 : Int32} (hP : va_P D vwCl (gS 78 q (TX cy q) σ) H) (hS : va_S (gA 78 q) s.heap H locs) {ls : Array Slot} (hl : lv_has ls 2 []) (hp : sX3_rowOf_13 sx0 σ = some (r, u)) : W p l e rmX3_rowOf s m args below meth c H locs 0 0 (MQ below (gQi D vwCl r (gS 78 q (TX cy q) u) (gA 78 q)) args s 0 0 (gA 78 q)) (F0 m 13 ls [.int sx0]) := by
  obtain ⟨hx, hb, hr, hml, hown, hts, hlocks⟩ := id C0
  unfold sX3_rowOf_13 at hp
  obtain ⟨rfl, rfl⟩ := o_r hp
  exact W.iret (v := sx0) hx hb hr (fun t ht hW => ⟨⟨sx0, (), rfl, rfl, by subst ht; exact hP⟩, hS.F ht⟩) hS.2.2 dX3_rowOf_13
def sX3_rowOf_0 (x1 : Int32) (σ : TS) : Option (Int32 × TS) := ((sJ9_floorMod_7cf53 (((σ 11 3) - ((1 : Int32))) - x1) ((30 : Int32)) σ).bind (fun z => sX3_rowOf_13 z.1 z.2))
set_option maxHeartbeats 4000000 in
set_option maxRecDepth 100000 in
theorem kX3_rowOf_0 {r : Int32} {u : TS} (C0 : gC RX3 cX3_rowOf 2 ((some .int)) wsX3_rowOf p s m args meth c) (hK : va_K D vwCl (tyL cy) s) (hJ : gJ 78 q) {H : Heap} {locs : List Loc} {σ : TS} {x1 : Int32} (hP : va_P D vwCl (gS 78 q (TX cy q) σ) H) (hS : va_S (gA 78 q) s.heap H locs) {ls : Array Slot} (hl : lv_has ls 2 [(0, .ref (q (11))), (1, .int x1)]) (hp : sX3_rowOf_0 x1 σ = some (r, u)) : W p l e rmX3_rowOf s m args below meth c H locs 0 0 (MQ below (gQi D vwCl r (gS 78 q (TX cy q) u) (gA 78 q)) args s 0 0 (gA 78 q)) (F0 m 0 ls []) := by
  obtain ⟨hx, hb, hr, hml, hown, hts, hlocks⟩ := id C0
  unfold sX3_rowOf_0 at hp
  refine lv_aload_n hx hb dX3_rowOf_0 rfl (lv_at hl 0 rfl) ?_
  refine g_get (v := .int (σ 11 3)) hx hb hts miX3_rowOf_X3 hown hK hP (kk_Log) (ce_Log) rfl 3 (by decide) mwX3_rowOf_0 rfl dX3_rowOf_1 ?_
  refine lv_iconst (v := (1 : Int32)) hx hb dX3_rowOf_4 (by decide) ?_
  refine lv_isub hx hb dX3_rowOf_5 ?_
  refine lv_iload_n hx hb dX3_rowOf_6 rfl (lv_at hl 1 rfl) ?_
  refine lv_isub hx hb dX3_rowOf_7 ?_
  refine lv_bipush (v := (30 : Int32)) hx hb dX3_rowOf_8 (by decide) ?_
  obtain ⟨⟨r1, u2⟩, hq3, hp⟩ := o_b hp
  refine g_cSi (As := [.int (((σ 11 3) - ((1 : Int32))) - x1), .int ((30 : Int32))]) (rest := []) hx hb hml hown hts hK hP hS (mJ9_floorMod_7cf53 l hJ hq3) (va_cwS 2 hts gX3_rowOf_J9_floorMod_7cf53 rfl rfl rfl nVJ9_floorMod_7cf53 ⟨Nat.le_of_ble_eq_true rfl, Nat.le_of_ble_eq_true rfl⟩) rfl hl.1 rfl (Nat.le_of_ble_eq_true rfl) dX3_rowOf_10 ⟨Nat.le_of_ble_eq_true rfl, Nat.le_of_ble_eq_true rfl⟩ (fun H locs hP hS => ?_)
  exact kX3_rowOf_13 C0 hK hJ  hP hS (lv_sub hl [] rfl) hp
def sX3_rowOf (x1 : Int32) (σ : TS) : Option (Int32 × TS) := sX3_rowOf_0 x1 σ
theorem nVX3_rowOf : yX3_rowOf.cls = RX3 ∧ yX3_rowOf.cls ≠ "java/lang/invoke/MethodHandle" ∧ yX3_rowOf.cls ≠ "java/lang/invoke/VarHandle" ∧ (parseMethodDescriptor yX3_rowOf.desc).map (fun d => d.parameters.length) = some 1 := by decide +kernel
set_option maxHeartbeats 4000000 in
set_option maxRecDepth 100000 in
theorem mX3_rowOf (l : Launch) (hJ : gJ 78 q) {x1 : Int32} {σ : TS} {r : Int32} {u : TS} (hp : sX3_rowOf x1 σ = some (r, u)) : Met l yX3_rowOf wsX3_rowOf rmX3_rowOf (va_Pc [.ref (q (11)), .int x1] (gPre D vwCl (tyL cy) (gS 78 q (TX cy q) σ))) (gQi D vwCl r (gS 78 q (TX cy q) u) (gA 78 q)) 0 0 (gA 78 q) := by
  refine Met.ofW (cc := cX3_rowOf) (maxL := 2) (ret := (some .int)) (by decide +kernel) rfl ?_
  intro p e s m args below meth c s₁ B hml hv
  obtain ⟨rfl, hP, hK⟩ := hv
  have hl := lv_entry ([.ref (q (11)), .int x1]) (n := 2) (Nat.le_of_ble_eq_true rfl)
  rw [lg_entry_eq]
  generalize (lg_sl ([.ref (q (11)), .int x1]) ++ List.replicate (2 - (lg_sl ([.ref (q (11)), .int x1])).length) Slot.unset).toArray = ls at hl ⊢
  have hl : lv_has ls 2 [(0, .ref (q (11))), (1, .int x1)] := hl
  exact kX3_rowOf_0 ⟨B.exec, B.bytes, B.returns, hml, findClass_of_methodNamed B.named, atoms_spec (ws := wsX3_rowOf) B.pre, B.notSynchronized⟩ hK hJ  hP va_S.rf hl hp
theorem miX3_timeOf_X3 : ∀ w ∈ u_ws RX3 TX3 4, w ∈ wsX3_timeOf := by decide +kernel
theorem mwX3_timeOf_0 : Cond.fieldLink RX3 9 "Triplane$Log" "times" "[I" ∈ wsX3_timeOf := by decide +kernel
abbrev rmX3_timeOf : Room := { frames := 2, cells := 0, slots := 0, locals := 43 }
def sX3_timeOf_9 (sx1 : Int32) (σ : TS) : Option (Int32 × TS) := (if vin sx1 30 = true then some (σ 12 (sx1.toNatClampNeg), σ) else none)
set_option maxHeartbeats 4000000 in
set_option maxRecDepth 100000 in
theorem kX3_timeOf_9 {r : Int32} {u : TS} (C0 : gC RX3 cX3_timeOf 2 ((some .int)) wsX3_timeOf p s m args meth c) (hK : va_K D vwCl (tyL cy) s) (hJ : gJ 78 q) {H : Heap} {locs : List Loc} {σ : TS} {sx1 : Int32} (hP : va_P D vwCl (gS 78 q (TX cy q) σ) H) (hS : va_S (gA 78 q) s.heap H locs) {ls : Array Slot} (hl : lv_has ls 2 []) (hp : sX3_timeOf_9 sx1 σ = some (r, u)) : W p l e rmX3_timeOf s m args below meth c H locs 0 0 (MQ below (gQi D vwCl r (gS 78 q (TX cy q) u) (gA 78 q)) args s 0 0 (gA 78 q)) (F0 m 9 ls [.int sx1, .ref (q (12))]) := by
  obtain ⟨hx, hb, hr, hml, hown, hts, hlocks⟩ := id C0
  unfold sX3_timeOf_9 at hp
  obtain ⟨hi1, hp⟩ := o_chk hp
  refine g_iald (j := sx1.toNatClampNeg) hx hb hK hP (kk_LogT) (ce_LogT) 0 rfl (vin_of hi1) rfl dX3_timeOf_9 ?_
  obtain ⟨rfl, rfl⟩ := o_r hp
  exact W.iret (v := σ 12 (sx1.toNatClampNeg)) hx hb hr (fun t ht hW => ⟨⟨σ 12 (sx1.toNatClampNeg), (), rfl, rfl, by subst ht; exact hP⟩, hS.F ht⟩) hS.2.2 dX3_timeOf_10
def sX3_timeOf_0 (x1 : Int32) (σ : TS) : Option (Int32 × TS) := ((sX3_rowOf x1 σ).bind (fun z => sX3_timeOf_9 z.1 z.2))
set_option maxHeartbeats 4000000 in
set_option maxRecDepth 100000 in
theorem kX3_timeOf_0 {r : Int32} {u : TS} (C0 : gC RX3 cX3_timeOf 2 ((some .int)) wsX3_timeOf p s m args meth c) (hK : va_K D vwCl (tyL cy) s) (hJ : gJ 78 q) {H : Heap} {locs : List Loc} {σ : TS} {x1 : Int32} (hP : va_P D vwCl (gS 78 q (TX cy q) σ) H) (hS : va_S (gA 78 q) s.heap H locs) {ls : Array Slot} (hl : lv_has ls 2 [(0, .ref (q (11))), (1, .int x1)]) (hp : sX3_timeOf_0 x1 σ = some (r, u)) : W p l e rmX3_timeOf s m args below meth c H locs 0 0 (MQ below (gQi D vwCl r (gS 78 q (TX cy q) u) (gA 78 q)) args s 0 0 (gA 78 q)) (F0 m 0 ls []) := by
  obtain ⟨hx, hb, hr, hml, hown, hts, hlocks⟩ := id C0
  unfold sX3_timeOf_0 at hp
  refine lv_aload_n hx hb dX3_timeOf_0 rfl (lv_at hl 0 rfl) ?_
  refine g_get (v := .ref (q (12))) hx hb hts miX3_timeOf_X3 hown hK hP (kk_Log) (ce_Log) rfl 0 (by decide) mwX3_timeOf_0 rfl dX3_timeOf_1 ?_
  refine lv_aload_n hx hb dX3_timeOf_4 rfl (lv_at hl 0 rfl) ?_
  refine lv_iload_n hx hb dX3_timeOf_5 rfl (lv_at hl 1 rfl) ?_
  obtain ⟨⟨r2, u3⟩, hq4, hp⟩ := o_b hp
  refine g_cVi (As := [.int x1]) (rest := [.ref (q (12))]) hx hb hml hown hts hK hP hS (mX3_rowOf l hJ hq4) (cwV 1 hts gX3_timeOf_X3_rowOf rfl rfl rfl nVX3_rowOf ⟨Nat.le_of_ble_eq_true rfl, Nat.le_of_ble_eq_true rfl⟩) (g_recv hK hP (kk_Log) (ce_Log) rfl) rfl hl.1 rfl (Nat.le_of_ble_eq_true rfl) dX3_timeOf_6 ⟨Nat.le_of_ble_eq_true rfl, Nat.le_of_ble_eq_true rfl⟩ (fun H locs hP hS => ?_)
  exact kX3_timeOf_9 C0 hK hJ  hP hS (lv_sub hl [] rfl) hp
def sX3_timeOf (x1 : Int32) (σ : TS) : Option (Int32 × TS) := sX3_timeOf_0 x1 σ
theorem nVX3_timeOf : yX3_timeOf.cls = RX3 ∧ yX3_timeOf.cls ≠ "java/lang/invoke/MethodHandle" ∧ yX3_timeOf.cls ≠ "java/lang/invoke/VarHandle" ∧ (parseMethodDescriptor yX3_timeOf.desc).map (fun d => d.parameters.length) = some 1 := by decide +kernel
set_option maxHeartbeats 4000000 in
set_option maxRecDepth 100000 in
theorem mX3_timeOf (l : Launch) (hJ : gJ 78 q) {x1 : Int32} {σ : TS} {r : Int32} {u : TS} (hp : sX3_timeOf x1 σ = some (r, u)) : Met l yX3_timeOf wsX3_timeOf rmX3_timeOf (va_Pc [.ref (q (11)), .int x1] (gPre D vwCl (tyL cy) (gS 78 q (TX cy q) σ))) (gQi D vwCl r (gS 78 q (TX cy q) u) (gA 78 q)) 0 0 (gA 78 q) := by
  refine Met.ofW (cc := cX3_timeOf) (maxL := 2) (ret := (some .int)) (by decide +kernel) rfl ?_
  intro p e s m args below meth c s₁ B hml hv
  obtain ⟨rfl, hP, hK⟩ := hv
  have hl := lv_entry ([.ref (q (11)), .int x1]) (n := 2) (Nat.le_of_ble_eq_true rfl)
  rw [lg_entry_eq]
  generalize (lg_sl ([.ref (q (11)), .int x1]) ++ List.replicate (2 - (lg_sl ([.ref (q (11)), .int x1])).length) Slot.unset).toArray = ls at hl ⊢
  have hl : lv_has ls 2 [(0, .ref (q (11))), (1, .int x1)] := hl
  exact kX3_timeOf_0 ⟨B.exec, B.bytes, B.returns, hml, findClass_of_methodNamed B.named, atoms_spec (ws := wsX3_timeOf) B.pre, B.notSynchronized⟩ hK hJ  hP va_S.rf hl hp
theorem miX3_computerOf_X3 : ∀ w ∈ u_ws RX3 TX3 4, w ∈ wsX3_computerOf := by decide +kernel
theorem mwX3_computerOf_0 : Cond.fieldLink RX3 15 "Triplane$Log" "computers" "[I" ∈ wsX3_computerOf := by decide +kernel
abbrev rmX3_computerOf : Room := { frames := 2, cells := 0, slots := 0, locals := 43 }
def sX3_computerOf_9 (sx1 : Int32) (σ : TS) : Option (Int32 × TS) := (if vin sx1 30 = true then some (σ 13 (sx1.toNatClampNeg), σ) else none)
set_option maxHeartbeats 4000000 in
set_option maxRecDepth 100000 in
theorem kX3_computerOf_9 {r : Int32} {u : TS} (C0 : gC RX3 cX3_computerOf 2 ((some .int)) wsX3_computerOf p s m args meth c) (hK : va_K D vwCl (tyL cy) s) (hJ : gJ 78 q) {H : Heap} {locs : List Loc} {σ : TS} {sx1 : Int32} (hP : va_P D vwCl (gS 78 q (TX cy q) σ) H) (hS : va_S (gA 78 q) s.heap H locs) {ls : Array Slot} (hl : lv_has ls 2 []) (hp : sX3_computerOf_9 sx1 σ = some (r, u)) : W p l e rmX3_computerOf s m args below meth c H locs 0 0 (MQ below (gQi D vwCl r (gS 78 q (TX cy q) u) (gA 78 q)) args s 0 0 (gA 78 q)) (F0 m 9 ls [.int sx1, .ref (q (13))]) := by
  obtain ⟨hx, hb, hr, hml, hown, hts, hlocks⟩ := id C0
  unfold sX3_computerOf_9 at hp
  obtain ⟨hi1, hp⟩ := o_chk hp
  refine g_iald (j := sx1.toNatClampNeg) hx hb hK hP (kk_LogC) (ce_LogC) 0 rfl (vin_of hi1) rfl dX3_computerOf_9 ?_
  obtain ⟨rfl, rfl⟩ := o_r hp
  exact W.iret (v := σ 13 (sx1.toNatClampNeg)) hx hb hr (fun t ht hW => ⟨⟨σ 13 (sx1.toNatClampNeg), (), rfl, rfl, by subst ht; exact hP⟩, hS.F ht⟩) hS.2.2 dX3_computerOf_10
def sX3_computerOf_0 (x1 : Int32) (σ : TS) : Option (Int32 × TS) := ((sX3_rowOf x1 σ).bind (fun z => sX3_computerOf_9 z.1 z.2))
set_option maxHeartbeats 4000000 in
set_option maxRecDepth 100000 in
theorem kX3_computerOf_0 {r : Int32} {u : TS} (C0 : gC RX3 cX3_computerOf 2 ((some .int)) wsX3_computerOf p s m args meth c) (hK : va_K D vwCl (tyL cy) s) (hJ : gJ 78 q) {H : Heap} {locs : List Loc} {σ : TS} {x1 : Int32} (hP : va_P D vwCl (gS 78 q (TX cy q) σ) H) (hS : va_S (gA 78 q) s.heap H locs) {ls : Array Slot} (hl : lv_has ls 2 [(0, .ref (q (11))), (1, .int x1)]) (hp : sX3_computerOf_0 x1 σ = some (r, u)) : W p l e rmX3_computerOf s m args below meth c H locs 0 0 (MQ below (gQi D vwCl r (gS 78 q (TX cy q) u) (gA 78 q)) args s 0 0 (gA 78 q)) (F0 m 0 ls []) := by
  obtain ⟨hx, hb, hr, hml, hown, hts, hlocks⟩ := id C0
  unfold sX3_computerOf_0 at hp
  refine lv_aload_n hx hb dX3_computerOf_0 rfl (lv_at hl 0 rfl) ?_
  refine g_get (v := .ref (q (13))) hx hb hts miX3_computerOf_X3 hown hK hP (kk_Log) (ce_Log) rfl 1 (by decide) mwX3_computerOf_0 rfl dX3_computerOf_1 ?_
  refine lv_aload_n hx hb dX3_computerOf_4 rfl (lv_at hl 0 rfl) ?_
  refine lv_iload_n hx hb dX3_computerOf_5 rfl (lv_at hl 1 rfl) ?_
  obtain ⟨⟨r2, u3⟩, hq4, hp⟩ := o_b hp
  refine g_cVi (As := [.int x1]) (rest := [.ref (q (13))]) hx hb hml hown hts hK hP hS (mX3_rowOf l hJ hq4) (cwV 1 hts gX3_computerOf_X3_rowOf rfl rfl rfl nVX3_rowOf ⟨Nat.le_of_ble_eq_true rfl, Nat.le_of_ble_eq_true rfl⟩) (g_recv hK hP (kk_Log) (ce_Log) rfl) rfl hl.1 rfl (Nat.le_of_ble_eq_true rfl) dX3_computerOf_6 ⟨Nat.le_of_ble_eq_true rfl, Nat.le_of_ble_eq_true rfl⟩ (fun H locs hP hS => ?_)
  exact kX3_computerOf_9 C0 hK hJ  hP hS (lv_sub hl [] rfl) hp
def sX3_computerOf (x1 : Int32) (σ : TS) : Option (Int32 × TS) := sX3_computerOf_0 x1 σ
theorem nVX3_computerOf : yX3_computerOf.cls = RX3 ∧ yX3_computerOf.cls ≠ "java/lang/invoke/MethodHandle" ∧ yX3_computerOf.cls ≠ "java/lang/invoke/VarHandle" ∧ (parseMethodDescriptor yX3_computerOf.desc).map (fun d => d.parameters.length) = some 1 := by decide +kernel
set_option maxHeartbeats 4000000 in
set_option maxRecDepth 100000 in
theorem mX3_computerOf (l : Launch) (hJ : gJ 78 q) {x1 : Int32} {σ : TS} {r : Int32} {u : TS} (hp : sX3_computerOf x1 σ = some (r, u)) : Met l yX3_computerOf wsX3_computerOf rmX3_computerOf (va_Pc [.ref (q (11)), .int x1] (gPre D vwCl (tyL cy) (gS 78 q (TX cy q) σ))) (gQi D vwCl r (gS 78 q (TX cy q) u) (gA 78 q)) 0 0 (gA 78 q) := by
  refine Met.ofW (cc := cX3_computerOf) (maxL := 2) (ret := (some .int)) (by decide +kernel) rfl ?_
  intro p e s m args below meth c s₁ B hml hv
  obtain ⟨rfl, hP, hK⟩ := hv
  have hl := lv_entry ([.ref (q (11)), .int x1]) (n := 2) (Nat.le_of_ble_eq_true rfl)
  rw [lg_entry_eq]
  generalize (lg_sl ([.ref (q (11)), .int x1]) ++ List.replicate (2 - (lg_sl ([.ref (q (11)), .int x1])).length) Slot.unset).toArray = ls at hl ⊢
  have hl : lv_has ls 2 [(0, .ref (q (11))), (1, .int x1)] := hl
  exact kX3_computerOf_0 ⟨B.exec, B.bytes, B.returns, hml, findClass_of_methodNamed B.named, atoms_spec (ws := wsX3_computerOf) B.pre, B.notSynchronized⟩ hK hJ  hP va_S.rf hl hp
theorem miX3_letterOf_X3 : ∀ w ∈ u_ws RX3 TX3 4, w ∈ wsX3_letterOf := by decide +kernel
theorem mwX3_letterOf_0 : Cond.fieldLink RX3 18 "Triplane$Log" "letters" "[C" ∈ wsX3_letterOf := by decide +kernel
abbrev rmX3_letterOf : Room := { frames := 2, cells := 0, slots := 0, locals := 43 }
def sX3_letterOf_9 (sx1 : Int32) (σ : TS) : Option (Int32 × TS) := (if vin sx1 30 = true then some (σ 14 (sx1.toNatClampNeg), σ) else none)
set_option maxHeartbeats 4000000 in
set_option maxRecDepth 100000 in
theorem kX3_letterOf_9 {r : Int32} {u : TS} (C0 : gC RX3 cX3_letterOf 2 ((some .int)) wsX3_letterOf p s m args meth c) (hK : va_K D vwCl (tyL cy) s) (hJ : gJ 78 q) {H : Heap} {locs : List Loc} {σ : TS} {sx1 : Int32} (hP : va_P D vwCl (gS 78 q (TX cy q) σ) H) (hS : va_S (gA 78 q) s.heap H locs) {ls : Array Slot} (hl : lv_has ls 2 []) (hp : sX3_letterOf_9 sx1 σ = some (r, u)) : W p l e rmX3_letterOf s m args below meth c H locs 0 0 (MQ below (gQi D vwCl r (gS 78 q (TX cy q) u) (gA 78 q)) args s 0 0 (gA 78 q)) (F0 m 9 ls [.int sx1, .ref (q (14))]) := by
  obtain ⟨hx, hb, hr, hml, hown, hts, hlocks⟩ := id C0
  unfold sX3_letterOf_9 at hp
  obtain ⟨hi1, hp⟩ := o_chk hp
  refine g_cald (j := sx1.toNatClampNeg) hx hb hK hP (kk_LogL) (ce_LogL) 2 rfl (vin_of hi1) rfl dX3_letterOf_9 ?_
  obtain ⟨rfl, rfl⟩ := o_r hp
  exact W.iret (v := σ 14 (sx1.toNatClampNeg)) hx hb hr (fun t ht hW => ⟨⟨σ 14 (sx1.toNatClampNeg), (), rfl, rfl, by subst ht; exact hP⟩, hS.F ht⟩) hS.2.2 dX3_letterOf_10
def sX3_letterOf_0 (x1 : Int32) (σ : TS) : Option (Int32 × TS) := ((sX3_rowOf x1 σ).bind (fun z => sX3_letterOf_9 z.1 z.2))
set_option maxHeartbeats 4000000 in
set_option maxRecDepth 100000 in
theorem kX3_letterOf_0 {r : Int32} {u : TS} (C0 : gC RX3 cX3_letterOf 2 ((some .int)) wsX3_letterOf p s m args meth c) (hK : va_K D vwCl (tyL cy) s) (hJ : gJ 78 q) {H : Heap} {locs : List Loc} {σ : TS} {x1 : Int32} (hP : va_P D vwCl (gS 78 q (TX cy q) σ) H) (hS : va_S (gA 78 q) s.heap H locs) {ls : Array Slot} (hl : lv_has ls 2 [(0, .ref (q (11))), (1, .int x1)]) (hp : sX3_letterOf_0 x1 σ = some (r, u)) : W p l e rmX3_letterOf s m args below meth c H locs 0 0 (MQ below (gQi D vwCl r (gS 78 q (TX cy q) u) (gA 78 q)) args s 0 0 (gA 78 q)) (F0 m 0 ls []) := by
  obtain ⟨hx, hb, hr, hml, hown, hts, hlocks⟩ := id C0
  unfold sX3_letterOf_0 at hp
  refine lv_aload_n hx hb dX3_letterOf_0 rfl (lv_at hl 0 rfl) ?_
  refine g_get (v := .ref (q (14))) hx hb hts miX3_letterOf_X3 hown hK hP (kk_Log) (ce_Log) rfl 2 (by decide) mwX3_letterOf_0 rfl dX3_letterOf_1 ?_
  refine lv_aload_n hx hb dX3_letterOf_4 rfl (lv_at hl 0 rfl) ?_
  refine lv_iload_n hx hb dX3_letterOf_5 rfl (lv_at hl 1 rfl) ?_
  obtain ⟨⟨r2, u3⟩, hq4, hp⟩ := o_b hp
  refine g_cVi (As := [.int x1]) (rest := [.ref (q (14))]) hx hb hml hown hts hK hP hS (mX3_rowOf l hJ hq4) (cwV 1 hts gX3_letterOf_X3_rowOf rfl rfl rfl nVX3_rowOf ⟨Nat.le_of_ble_eq_true rfl, Nat.le_of_ble_eq_true rfl⟩) (g_recv hK hP (kk_Log) (ce_Log) rfl) rfl hl.1 rfl (Nat.le_of_ble_eq_true rfl) dX3_letterOf_6 ⟨Nat.le_of_ble_eq_true rfl, Nat.le_of_ble_eq_true rfl⟩ (fun H locs hP hS => ?_)
  exact kX3_letterOf_9 C0 hK hJ  hP hS (lv_sub hl [] rfl) hp
def sX3_letterOf (x1 : Int32) (σ : TS) : Option (Int32 × TS) := sX3_letterOf_0 x1 σ
theorem nVX3_letterOf : yX3_letterOf.cls = RX3 ∧ yX3_letterOf.cls ≠ "java/lang/invoke/MethodHandle" ∧ yX3_letterOf.cls ≠ "java/lang/invoke/VarHandle" ∧ (parseMethodDescriptor yX3_letterOf.desc).map (fun d => d.parameters.length) = some 1 := by decide +kernel
set_option maxHeartbeats 4000000 in
set_option maxRecDepth 100000 in
theorem mX3_letterOf (l : Launch) (hJ : gJ 78 q) {x1 : Int32} {σ : TS} {r : Int32} {u : TS} (hp : sX3_letterOf x1 σ = some (r, u)) : Met l yX3_letterOf wsX3_letterOf rmX3_letterOf (va_Pc [.ref (q (11)), .int x1] (gPre D vwCl (tyL cy) (gS 78 q (TX cy q) σ))) (gQi D vwCl r (gS 78 q (TX cy q) u) (gA 78 q)) 0 0 (gA 78 q) := by
  refine Met.ofW (cc := cX3_letterOf) (maxL := 2) (ret := (some .int)) (by decide +kernel) rfl ?_
  intro p e s m args below meth c s₁ B hml hv
  obtain ⟨rfl, hP, hK⟩ := hv
  have hl := lv_entry ([.ref (q (11)), .int x1]) (n := 2) (Nat.le_of_ble_eq_true rfl)
  rw [lg_entry_eq]
  generalize (lg_sl ([.ref (q (11)), .int x1]) ++ List.replicate (2 - (lg_sl ([.ref (q (11)), .int x1])).length) Slot.unset).toArray = ls at hl ⊢
  have hl : lv_has ls 2 [(0, .ref (q (11))), (1, .int x1)] := hl
  exact kX3_letterOf_0 ⟨B.exec, B.bytes, B.returns, hml, findClass_of_methodNamed B.named, atoms_spec (ws := wsX3_letterOf) B.pre, B.notSynchronized⟩ hK hJ  hP va_S.rf hl hp
abbrev rmX3_tellsOff : Room := { frames := 3, cells := 0, slots := 0, locals := 64 }
def sX3_tellsOff_36 (sx0 : Int32) (σ : TS) : Option (Int32 × TS) := (if zok sx0 = true then some (sx0, σ) else none)
set_option maxHeartbeats 4000000 in
set_option maxRecDepth 100000 in
theorem kX3_tellsOff_36 {r : Int32} {u : TS} (C0 : gC RX3 cX3_tellsOff 4 ((some .boolean)) wsX3_tellsOff p s m args meth c) (hK : va_K D vwCl (tyL cy) s) (hJ : gJ 78 q) {H : Heap} {locs : List Loc} {σ : TS} {sx0 : Int32} (hP : va_P D vwCl (gS 78 q (TX cy q) σ) H) (hS : va_S (gA 78 q) s.heap H locs) {ls : Array Slot} (hl : lv_has ls 4 []) (hp : sX3_tellsOff_36 sx0 σ = some (r, u)) : W p l e rmX3_tellsOff s m args below meth c H locs 0 0 (MQ below (gQi D vwCl r (gS 78 q (TX cy q) u) (gA 78 q)) args s 0 0 (gA 78 q)) (F0 m 36 ls [.int sx0]) := by
  obtain ⟨hx, hb, hr, hml, hown, hts, hlocks⟩ := id C0
  unfold sX3_tellsOff_36 at hp
  obtain ⟨hz1, hp⟩ := o_chk hp
  obtain ⟨rfl, rfl⟩ := o_r hp
  exact W.zret (v := sx0) hx hb hr (zok_n hz1).1 (fun t ht hW => ⟨⟨sx0, (), rfl, rfl, by subst ht; exact hP⟩, hS.F ht⟩) hS.2.2 dX3_tellsOff_36
def sX3_tellsOff_26 (sx0 : Int32) (σ : TS) : Option (Int32 × TS) := (if sx0 = ((98 : Int32)) then sX3_tellsOff_36 ((0 : Int32)) σ else sX3_tellsOff_36 ((1 : Int32)) σ)
set_option maxHeartbeats 4000000 in
set_option maxRecDepth 100000 in
theorem kX3_tellsOff_26 {r : Int32} {u : TS} (C0 : gC RX3 cX3_tellsOff 4 ((some .boolean)) wsX3_tellsOff p s m args meth c) (hK : va_K D vwCl (tyL cy) s) (hJ : gJ 78 q) {H : Heap} {locs : List Loc} {σ : TS} {sx0 : Int32} (hP : va_P D vwCl (gS 78 q (TX cy q) σ) H) (hS : va_S (gA 78 q) s.heap H locs) {ls : Array Slot} (hl : lv_has ls 4 []) (hp : sX3_tellsOff_26 sx0 σ = some (r, u)) : W p l e rmX3_tellsOff s m args below meth c H locs 0 0 (MQ below (gQi D vwCl r (gS 78 q (TX cy q) u) (gA 78 q)) args s 0 0 (gA 78 q)) (F0 m 26 ls [.int sx0]) := by
  obtain ⟨hx, hb, hr, hml, hown, hts, hlocks⟩ := id C0
  unfold sX3_tellsOff_26 at hp
  refine lv_bipush (v := (98 : Int32)) hx hb dX3_tellsOff_26 (by decide) ?_
  refine lv_icmp_eq (tgt := 35) hx hb dX3_tellsOff_28 (by decide) (fun hcd2 => ?_) (fun hcd2 => ?_)
  · have hp := o_t hp hcd2
    refine lv_iconst (v := (0 : Int32)) hx hb dX3_tellsOff_35 (by decide) ?_
    exact kX3_tellsOff_36 C0 hK hJ  hP hS hl hp
  · have hp := o_f hp hcd2
    refine lv_iconst (v := (1 : Int32)) hx hb dX3_tellsOff_31 (by decide) ?_
    refine lv_goto (tgt := 36) hx hb dX3_tellsOff_32 (by decide) ?_
    exact kX3_tellsOff_36 C0 hK hJ  hP hS hl hp
def sX3_tellsOff_17 (K7 : Int32 → Int32 → Int32 → TS → Option (Int32 × TS)) (x1 : Int32) (x2 : Int32) (x3 : Int32) (sx0 : Int32) (σ : TS) : Option (Int32 × TS) := (if sx0 = x1 then ((sX3_letterOf x3 σ).bind (fun z => sX3_tellsOff_26 z.1 z.2)) else K7 x1 x2 (x3 + (1 : Int32)) σ)
set_option maxHeartbeats 4000000 in
set_option maxRecDepth 100000 in
theorem kX3_tellsOff_17 {r : Int32} {u : TS} {K7 : Int32 → Int32 → Int32 → TS → Option (Int32 × TS)} (C0 : gC RX3 cX3_tellsOff 4 ((some .boolean)) wsX3_tellsOff p s m args meth c) (hK : va_K D vwCl (tyL cy) s) (hJ : gJ 78 q) (kh7 : ∀ (H : Heap) (locs : List Loc) (σ : TS) (x1 : Int32) (x2 : Int32) (x3 : Int32) (hP : va_P D vwCl (gS 78 q (TX cy q) σ) H) (hS : va_S (gA 78 q) s.heap H locs) (ls : Array Slot) (hl : lv_has ls 4 [(0, .ref (q (11))), (1, .int x1), (2, .int x2), (3, .int x3)]) (hp : K7 x1 x2 x3 σ = some (r, u)), W p l e rmX3_tellsOff s m args below meth c H locs 0 0 (MQ below (gQi D vwCl r (gS 78 q (TX cy q) u) (gA 78 q)) args s 0 0 (gA 78 q)) (F0 m 7 ls [])) {H : Heap} {locs : List Loc} {σ : TS} {x1 : Int32} {x2 : Int32} {x3 : Int32} {sx0 : Int32} (hP : va_P D vwCl (gS 78 q (TX cy q) σ) H) (hS : va_S (gA 78 q) s.heap H locs) {ls : Array Slot} (hl : lv_has ls 4 [(0, .ref (q (11))), (1, .int x1), (2, .int x2), (3, .int x3)]) (hp : sX3_tellsOff_17 K7 x1 x2 x3 sx0 σ = some (r, u)) : W p l e rmX3_tellsOff s m args below meth c H locs 0 0 (MQ below (gQi D vwCl r (gS 78 q (TX cy q) u) (gA 78 q)) args s 0 0 (gA 78 q)) (F0 m 17 ls [.int sx0]) := by
  obtain ⟨hx, hb, hr, hml, hown, hts, hlocks⟩ := id C0
  unfold sX3_tellsOff_17 at hp
  refine lv_iload_n hx hb dX3_tellsOff_17 rfl (lv_at hl 1 rfl) ?_
  refine lv_icmp_ne (tgt := 37) hx hb dX3_tellsOff_18 (by decide) (fun hcd3 => ?_) (fun hcd3 => ?_)
  · have hp := o_f hp hcd3
    refine lv_iinc (v := x3 + (1 : Int32)) (lv' := [(3, .int (x3 + (1 : Int32))), (0, .ref (q (11))), (1, .int x1), (2, .int x2)]) hx hb dX3_tellsOff_37 hl (k := 3) rfl rfl (by decide) rfl (fun ls hl => ?_)
    refine lv_goto (tgt := 7) hx hb dX3_tellsOff_40 (by decide) ?_
    exact kh7 _ _ _ _ _ _  hP hS _ (lv_sub hl [1, 2, 3, 0] rfl) hp
  · have hp := o_t hp hcd3
    refine lv_aload_n hx hb dX3_tellsOff_21 rfl (lv_at hl 0 rfl) ?_
    refine lv_iload_n hx hb dX3_tellsOff_22 rfl (lv_at hl 3 rfl) ?_
    obtain ⟨⟨r4, u5⟩, hq6, hp⟩ := o_b hp
    refine g_cVi (As := [.int x3]) (rest := []) hx hb hml hown hts hK hP hS (mX3_letterOf l hJ hq6) (cwV 1 hts gX3_tellsOff_X3_letterOf rfl rfl rfl nVX3_letterOf ⟨Nat.le_of_ble_eq_true rfl, Nat.le_of_ble_eq_true rfl⟩) (g_recv hK hP (kk_Log) (ce_Log) rfl) rfl hl.1 rfl (Nat.le_of_ble_eq_true rfl) dX3_tellsOff_23 ⟨Nat.le_of_ble_eq_true rfl, Nat.le_of_ble_eq_true rfl⟩ (fun H locs hP hS => ?_)
    exact kX3_tellsOff_26 C0 hK hJ  hP hS (lv_sub hl [] rfl) hp
def sX3_tellsOff_7 : Nat → Int32 → Int32 → Int32 → TS → Option (Int32 × TS)
  | 0, _, _, _, _ => none
  | n + 1, x1, x2, x3, σ => (if x2 ≤ x3 then some ((0 : Int32), σ) else ((sX3_computerOf x3 σ).bind (fun z => sX3_tellsOff_17 (sX3_tellsOff_7 n) x1 x2 x3 z.1 z.2)))
set_option maxHeartbeats 4000000 in
set_option maxRecDepth 100000 in
theorem kX3_tellsOff_7 {r : Int32} {u : TS} (C0 : gC RX3 cX3_tellsOff 4 ((some .boolean)) wsX3_tellsOff p s m args meth c) (hK : va_K D vwCl (tyL cy) s) (hJ : gJ 78 q) : ∀ (n : Nat) (H : Heap) (locs : List Loc) (σ : TS) (x1 : Int32) (x2 : Int32) (x3 : Int32) (hP : va_P D vwCl (gS 78 q (TX cy q) σ) H) (hS : va_S (gA 78 q) s.heap H locs) (ls : Array Slot) (hl : lv_has ls 4 [(0, .ref (q (11))), (1, .int x1), (2, .int x2), (3, .int x3)]) (hp : sX3_tellsOff_7 n x1 x2 x3 σ = some (r, u)), W p l e rmX3_tellsOff s m args below meth c H locs 0 0 (MQ below (gQi D vwCl r (gS 78 q (TX cy q) u) (gA 78 q)) args s 0 0 (gA 78 q)) (F0 m 7 ls []) := by
  obtain ⟨hx, hb, hr, hml, hown, hts, hlocks⟩ := id C0
  intro n
  induction n with
  | zero =>
    intro H locs σ x1 x2 x3 hP hS ls hl hp
    cases hp
  | succ n ih =>
    intro H locs σ x1 x2 x3 hP hS ls hl hp
    unfold sX3_tellsOff_7 at hp
    refine lv_iload_n hx hb dX3_tellsOff_7 rfl (lv_at hl 3 rfl) ?_
    refine lv_iload_n hx hb dX3_tellsOff_8 rfl (lv_at hl 2 rfl) ?_
    refine lv_icmp_ge (tgt := 43) hx hb dX3_tellsOff_9 (by decide) (fun hcd7 => ?_) (fun hcd7 => ?_)
    · have hp := o_t hp hcd7
      refine lv_iconst (v := (0 : Int32)) hx hb dX3_tellsOff_43 (by decide) ?_
      obtain ⟨rfl, rfl⟩ := o_r hp
      exact W.zret (v := (0 : Int32)) hx hb hr (zok_n (by decide)).1 (fun t ht hW => ⟨⟨(0 : Int32), (), rfl, rfl, by subst ht; exact hP⟩, hS.F ht⟩) hS.2.2 dX3_tellsOff_44
    · have hp := o_f hp hcd7
      refine lv_aload_n hx hb dX3_tellsOff_12 rfl (lv_at hl 0 rfl) ?_
      refine lv_iload_n hx hb dX3_tellsOff_13 rfl (lv_at hl 3 rfl) ?_
      obtain ⟨⟨r8, u9⟩, hq10, hp⟩ := o_b hp
      refine g_cVi (As := [.int x3]) (rest := []) hx hb hml hown hts hK hP hS (mX3_computerOf l hJ hq10) (cwV 1 hts gX3_tellsOff_X3_computerOf rfl rfl rfl nVX3_computerOf ⟨Nat.le_of_ble_eq_true rfl, Nat.le_of_ble_eq_true rfl⟩) (g_recv hK hP (kk_Log) (ce_Log) rfl) rfl hl.1 rfl (Nat.le_of_ble_eq_true rfl) dX3_tellsOff_14 ⟨Nat.le_of_ble_eq_true rfl, Nat.le_of_ble_eq_true rfl⟩ (fun H locs hP hS => ?_)
      exact kX3_tellsOff_17 C0 hK hJ ih  hP hS hl hp
def sX3_tellsOff_4 (x1 : Int32) (sx0 : Int32) (σ : TS) : Option (Int32 × TS) := sX3_tellsOff_7 31 x1 sx0 ((0 : Int32)) σ
set_option maxHeartbeats 4000000 in
set_option maxRecDepth 100000 in
theorem kX3_tellsOff_4 {r : Int32} {u : TS} (C0 : gC RX3 cX3_tellsOff 4 ((some .boolean)) wsX3_tellsOff p s m args meth c) (hK : va_K D vwCl (tyL cy) s) (hJ : gJ 78 q) {H : Heap} {locs : List Loc} {σ : TS} {x1 : Int32} {sx0 : Int32} (hP : va_P D vwCl (gS 78 q (TX cy q) σ) H) (hS : va_S (gA 78 q) s.heap H locs) {ls : Array Slot} (hl : lv_has ls 4 [(0, .ref (q (11))), (1, .int x1)]) (hp : sX3_tellsOff_4 x1 sx0 σ = some (r, u)) : W p l e rmX3_tellsOff s m args below meth c H locs 0 0 (MQ below (gQi D vwCl r (gS 78 q (TX cy q) u) (gA 78 q)) args s 0 0 (gA 78 q)) (F0 m 4 ls [.int sx0]) := by
  obtain ⟨hx, hb, hr, hml, hown, hts, hlocks⟩ := id C0
  unfold sX3_tellsOff_4 at hp
  refine lv_istore_n (lv' := [(2, .int sx0), (0, .ref (q (11))), (1, .int x1)]) hx hb dX3_tellsOff_4 rfl hl (by decide) rfl (fun ls hl => ?_)
  refine lv_iconst (v := (0 : Int32)) hx hb dX3_tellsOff_5 (by decide) ?_
  refine lv_istore_n (lv' := [(3, .int ((0 : Int32))), (2, .int sx0), (0, .ref (q (11))), (1, .int x1)]) hx hb dX3_tellsOff_6 rfl hl (by decide) rfl (fun ls hl => ?_)
  exact kX3_tellsOff_7 C0 hK hJ _ _ _ _ _ _ _  hP hS _ (lv_sub hl [2, 3, 1, 0] rfl) hp
def sX3_tellsOff_0 (x1 : Int32) (σ : TS) : Option (Int32 × TS) := ((sX3_countKept σ).bind (fun z => sX3_tellsOff_4 x1 z.1 z.2))
set_option maxHeartbeats 4000000 in
set_option maxRecDepth 100000 in
theorem kX3_tellsOff_0 {r : Int32} {u : TS} (C0 : gC RX3 cX3_tellsOff 4 ((some .boolean)) wsX3_tellsOff p s m args meth c) (hK : va_K D vwCl (tyL cy) s) (hJ : gJ 78 q) {H : Heap} {locs : List Loc} {σ : TS} {x1 : Int32} (hP : va_P D vwCl (gS 78 q (TX cy q) σ) H) (hS : va_S (gA 78 q) s.heap H locs) {ls : Array Slot} (hl : lv_has ls 4 [(0, .ref (q (11))), (1, .int x1)]) (hp : sX3_tellsOff_0 x1 σ = some (r, u)) : W p l e rmX3_tellsOff s m args below meth c H locs 0 0 (MQ below (gQi D vwCl r (gS 78 q (TX cy q) u) (gA 78 q)) args s 0 0 (gA 78 q)) (F0 m 0 ls []) := by
  obtain ⟨hx, hb, hr, hml, hown, hts, hlocks⟩ := id C0
  unfold sX3_tellsOff_0 at hp
  refine lv_aload_n hx hb dX3_tellsOff_0 rfl (lv_at hl 0 rfl) ?_
  obtain ⟨⟨r11, u12⟩, hq13, hp⟩ := o_b hp
  refine g_cVi (As := []) (rest := []) hx hb hml hown hts hK hP hS (mX3_countKept l hJ hq13) (cwV 0 hts gX3_tellsOff_X3_countKept rfl rfl rfl nVX3_countKept ⟨Nat.le_of_ble_eq_true rfl, Nat.le_of_ble_eq_true rfl⟩) (g_recv hK hP (kk_Log) (ce_Log) rfl) rfl hl.1 rfl (Nat.le_of_ble_eq_true rfl) dX3_tellsOff_1 ⟨Nat.le_of_ble_eq_true rfl, Nat.le_of_ble_eq_true rfl⟩ (fun H locs hP hS => ?_)
  exact kX3_tellsOff_4 C0 hK hJ  hP hS hl hp
def sX3_tellsOff (x1 : Int32) (σ : TS) : Option (Int32 × TS) := sX3_tellsOff_0 x1 σ
theorem nVX3_tellsOff : yX3_tellsOff.cls = RX3 ∧ yX3_tellsOff.cls ≠ "java/lang/invoke/MethodHandle" ∧ yX3_tellsOff.cls ≠ "java/lang/invoke/VarHandle" ∧ (parseMethodDescriptor yX3_tellsOff.desc).map (fun d => d.parameters.length) = some 1 := by decide +kernel
set_option maxHeartbeats 4000000 in
set_option maxRecDepth 100000 in
theorem mX3_tellsOff (l : Launch) (hJ : gJ 78 q) {x1 : Int32} {σ : TS} {r : Int32} {u : TS} (hp : sX3_tellsOff x1 σ = some (r, u)) : Met l yX3_tellsOff wsX3_tellsOff rmX3_tellsOff (va_Pc [.ref (q (11)), .int x1] (gPre D vwCl (tyL cy) (gS 78 q (TX cy q) σ))) (gQi D vwCl r (gS 78 q (TX cy q) u) (gA 78 q)) 0 0 (gA 78 q) := by
  refine Met.ofW (cc := cX3_tellsOff) (maxL := 4) (ret := (some .boolean)) (by decide +kernel) rfl ?_
  intro p e s m args below meth c s₁ B hml hv
  obtain ⟨rfl, hP, hK⟩ := hv
  have hl := lv_entry ([.ref (q (11)), .int x1]) (n := 4) (Nat.le_of_ble_eq_true rfl)
  rw [lg_entry_eq]
  generalize (lg_sl ([.ref (q (11)), .int x1]) ++ List.replicate (4 - (lg_sl ([.ref (q (11)), .int x1])).length) Slot.unset).toArray = ls at hl ⊢
  have hl : lv_has ls 4 [(0, .ref (q (11))), (1, .int x1)] := hl
  exact kX3_tellsOff_0 ⟨B.exec, B.bytes, B.returns, hml, findClass_of_methodNamed B.named, atoms_spec (ws := wsX3_tellsOff) B.pre, B.notSynchronized⟩ hK hJ  hP va_S.rf hl hp
theorem miX4_seen_X4 : ∀ w ∈ u_ws RX4 TX4 3, w ∈ wsX4_seen := by decide +kernel
theorem mwX4_seen_0 : Cond.fieldLink RX4 9 "Triplane$Memory" "written" "[I" ∈ wsX4_seen := by decide +kernel
theorem mwX4_seen_1 : Cond.fieldLink RX4 15 "Triplane$Memory" "flips" "[I" ∈ wsX4_seen := by decide +kernel
abbrev rmX4_seen : Room := { frames := 1, cells := 0, slots := 0, locals := 20 }
def sX4_seen_16 (sx0 : Int32) (σ : TS) : Option (Int32 × TS) := some (sx0, σ)
set_option maxHeartbeats 4000000 in
set_option maxRecDepth 100000 in
theorem kX4_seen_16 {r : Int32} {u : TS} (C0 : gC RX4 cX4_seen 2 ((some .int)) wsX4_seen p s m args meth c) (hK : va_K D vwCl (tyL cy) s) (hJ : gJ 78 q) {H : Heap} {locs : List Loc} {σ : TS} {sx0 : Int32} (hP : va_P D vwCl (gS 78 q (TX cy q) σ) H) (hS : va_S (gA 78 q) s.heap H locs) {ls : Array Slot} (hl : lv_has ls 2 []) (hp : sX4_seen_16 sx0 σ = some (r, u)) : W p l e rmX4_seen s m args below meth c H locs 0 0 (MQ below (gQi D vwCl r (gS 78 q (TX cy q) u) (gA 78 q)) args s 0 0 (gA 78 q)) (F0 m 16 ls [.int sx0]) := by
  obtain ⟨hx, hb, hr, hml, hown, hts, hlocks⟩ := id C0
  unfold sX4_seen_16 at hp
  obtain ⟨rfl, rfl⟩ := o_r hp
  exact W.iret (v := sx0) hx hb hr (fun t ht hW => ⟨⟨sx0, (), rfl, rfl, by subst ht; exact hP⟩, hS.F ht⟩) hS.2.2 dX4_seen_16
def sX4_seen_0 (c0 : Nat) (x1 : Int32) (σ : TS) : Option (Int32 × TS) := (if vin x1 18 = true then ((sX5_round ((σ (17+6*c0) (x1.toNatClampNeg)) ^^^ (σ (18+6*c0) (x1.toNatClampNeg))) σ).bind (fun z => sX4_seen_16 z.1 z.2)) else none)
set_option maxHeartbeats 4000000 in
set_option maxRecDepth 100000 in
theorem kX4_seen_0 {r : Int32} {u : TS} (C0 : gC RX4 cX4_seen 2 ((some .int)) wsX4_seen p s m args meth c) (hK : va_K D vwCl (tyL cy) s) (hJ : gJ 78 q) {H : Heap} {locs : List Loc} {σ : TS} {c0 : Nat} {x1 : Int32} (hc0 : c0 < 4) (hP : va_P D vwCl (gS 78 q (TX cy q) σ) H) (hS : va_S (gA 78 q) s.heap H locs) {ls : Array Slot} (hl : lv_has ls 2 [(0, .ref (q (16+6*c0))), (1, .int x1)]) (hp : sX4_seen_0 c0 x1 σ = some (r, u)) : W p l e rmX4_seen s m args below meth c H locs 0 0 (MQ below (gQi D vwCl r (gS 78 q (TX cy q) u) (gA 78 q)) args s 0 0 (gA 78 q)) (F0 m 0 ls []) := by
  obtain ⟨hx, hb, hr, hml, hown, hts, hlocks⟩ := id C0
  unfold sX4_seen_0 at hp
  refine lv_aload_n hx hb dX4_seen_0 rfl (lv_at hl 0 rfl) ?_
  refine g_get (v := .ref (q (17+6*c0))) hx hb hts miX4_seen_X4 hown hK hP (kk_Mem hc0) (ce_Mem hc0) rfl 0 (by decide) mwX4_seen_0 rfl dX4_seen_1 ?_
  refine lv_iload_n hx hb dX4_seen_4 rfl (lv_at hl 1 rfl) ?_
  obtain ⟨hi1, hp⟩ := o_chk hp
  refine g_iald (j := x1.toNatClampNeg) hx hb hK hP (kk_Wr hc0) (ce_Wr hc0) 0 rfl (vin_of hi1) rfl dX4_seen_5 ?_
  refine lv_aload_n hx hb dX4_seen_6 rfl (lv_at hl 0 rfl) ?_
  refine g_get (v := .ref (q (18+6*c0))) hx hb hts miX4_seen_X4 hown hK hP (kk_Mem hc0) (ce_Mem hc0) rfl 1 (by decide) mwX4_seen_1 rfl dX4_seen_7 ?_
  refine lv_iload_n hx hb dX4_seen_10 rfl (lv_at hl 1 rfl) ?_
  refine g_iald (j := x1.toNatClampNeg) hx hb hK hP (kk_Fl hc0) (ce_Fl hc0) 0 rfl (vin_of hi1) rfl dX4_seen_11 ?_
  refine lv_ixor hx hb dX4_seen_12 ?_
  obtain ⟨⟨r2, u3⟩, hq4, hp⟩ := o_b hp
  refine g_cSi (As := [.int ((σ (17+6*c0) (x1.toNatClampNeg)) ^^^ (σ (18+6*c0) (x1.toNatClampNeg)))]) (rest := []) hx hb hml hown hts hK hP hS (mX5_round l hJ hq4) (va_cwS 1 hts gX4_seen_X5_round rfl rfl rfl nVX5_round ⟨Nat.le_of_ble_eq_true rfl, Nat.le_of_ble_eq_true rfl⟩) rfl hl.1 rfl (Nat.le_of_ble_eq_true rfl) dX4_seen_13 ⟨Nat.le_of_ble_eq_true rfl, Nat.le_of_ble_eq_true rfl⟩ (fun H locs hP hS => ?_)
  exact kX4_seen_16 C0 hK hJ  hP hS (lv_sub hl [] rfl) hp
def sX4_seen (c0 : Nat) (x1 : Int32) (σ : TS) : Option (Int32 × TS) := sX4_seen_0 c0 x1 σ
theorem nVX4_seen : yX4_seen.cls = RX4 ∧ yX4_seen.cls ≠ "java/lang/invoke/MethodHandle" ∧ yX4_seen.cls ≠ "java/lang/invoke/VarHandle" ∧ (parseMethodDescriptor yX4_seen.desc).map (fun d => d.parameters.length) = some 1 := by decide +kernel
set_option maxHeartbeats 4000000 in
set_option maxRecDepth 100000 in
theorem mX4_seen (l : Launch) (hJ : gJ 78 q) {c0 : Nat} {x1 : Int32} (hc0 : c0 < 4) {σ : TS} {r : Int32} {u : TS} (hp : sX4_seen c0 x1 σ = some (r, u)) : Met l yX4_seen wsX4_seen rmX4_seen (va_Pc [.ref (q (16+6*c0)), .int x1] (gPre D vwCl (tyL cy) (gS 78 q (TX cy q) σ))) (gQi D vwCl r (gS 78 q (TX cy q) u) (gA 78 q)) 0 0 (gA 78 q) := by
  refine Met.ofW (cc := cX4_seen) (maxL := 2) (ret := (some .int)) (by decide +kernel) rfl ?_
  intro p e s m args below meth c s₁ B hml hv
  obtain ⟨rfl, hP, hK⟩ := hv
  have hl := lv_entry ([.ref (q (16+6*c0)), .int x1]) (n := 2) (Nat.le_of_ble_eq_true rfl)
  rw [lg_entry_eq]
  generalize (lg_sl ([.ref (q (16+6*c0)), .int x1]) ++ List.replicate (2 - (lg_sl ([.ref (q (16+6*c0)), .int x1])).length) Slot.unset).toArray = ls at hl ⊢
  have hl : lv_has ls 2 [(0, .ref (q (16+6*c0))), (1, .int x1)] := hl
  exact kX4_seen_0 ⟨B.exec, B.bytes, B.returns, hml, findClass_of_methodNamed B.named, atoms_spec (ws := wsX4_seen) B.pre, B.notSynchronized⟩ hK hJ hc0 hP va_S.rf hl hp
theorem miX4_turn_X4 : ∀ w ∈ u_ws RX4 TX4 3, w ∈ wsX4_turn := by decide +kernel
theorem mwX4_turn_0 : Cond.fieldLink RX4 15 "Triplane$Memory" "flips" "[I" ∈ wsX4_turn := by decide +kernel
abbrev rmX4_turn : Room := { frames := 1, cells := 0, slots := 0, locals := 20 }
def sX4_turn_21 (sx0 : Int32) (σ : TS) : Option (Int32 × TS) := some (sx0, σ)
set_option maxHeartbeats 4000000 in
set_option maxRecDepth 100000 in
theorem kX4_turn_21 {r : Int32} {u : TS} (C0 : gC RX4 cX4_turn 3 ((some .int)) wsX4_turn p s m args meth c) (hK : va_K D vwCl (tyL cy) s) (hJ : gJ 78 q) {H : Heap} {locs : List Loc} {σ : TS} {sx0 : Int32} (hP : va_P D vwCl (gS 78 q (TX cy q) σ) H) (hS : va_S (gA 78 q) s.heap H locs) {ls : Array Slot} (hl : lv_has ls 3 []) (hp : sX4_turn_21 sx0 σ = some (r, u)) : W p l e rmX4_turn s m args below meth c H locs 0 0 (MQ below (gQi D vwCl r (gS 78 q (TX cy q) u) (gA 78 q)) args s 0 0 (gA 78 q)) (F0 m 21 ls [.int sx0]) := by
  obtain ⟨hx, hb, hr, hml, hown, hts, hlocks⟩ := id C0
  unfold sX4_turn_21 at hp
  obtain ⟨rfl, rfl⟩ := o_r hp
  exact W.iret (v := sx0) hx hb hr (fun t ht hW => ⟨⟨sx0, (), rfl, rfl, by subst ht; exact hP⟩, hS.F ht⟩) hS.2.2 dX4_turn_21
def sX4_turn_0 (c0 : Nat) (x1 : Int32) (x2 : Int32) (σ : TS) : Option (Int32 × TS) := (if vin x1 18 = true then ((sJ6_bitCount_0f7a4 ((st2 σ (18+6*c0) (x1.toNatClampNeg) ((σ (18+6*c0) (x1.toNatClampNeg)) ^^^ (((1 : Int32)) <<< (x2 &&& 31)))) (18+6*c0) (x1.toNatClampNeg)) (st2 σ (18+6*c0) (x1.toNatClampNeg) ((σ (18+6*c0) (x1.toNatClampNeg)) ^^^ (((1 : Int32)) <<< (x2 &&& 31))))).bind (fun z => sX4_turn_21 z.1 z.2)) else none)
set_option maxHeartbeats 4000000 in
set_option maxRecDepth 100000 in
theorem kX4_turn_0 {r : Int32} {u : TS} (C0 : gC RX4 cX4_turn 3 ((some .int)) wsX4_turn p s m args meth c) (hK : va_K D vwCl (tyL cy) s) (hJ : gJ 78 q) {H : Heap} {locs : List Loc} {σ : TS} {c0 : Nat} {x1 : Int32} {x2 : Int32} (hc0 : c0 < 4) (hP : va_P D vwCl (gS 78 q (TX cy q) σ) H) (hS : va_S (gA 78 q) s.heap H locs) {ls : Array Slot} (hl : lv_has ls 3 [(0, .ref (q (16+6*c0))), (1, .int x1), (2, .int x2)]) (hp : sX4_turn_0 c0 x1 x2 σ = some (r, u)) : W p l e rmX4_turn s m args below meth c H locs 0 0 (MQ below (gQi D vwCl r (gS 78 q (TX cy q) u) (gA 78 q)) args s 0 0 (gA 78 q)) (F0 m 0 ls []) := by
  obtain ⟨hx, hb, hr, hml, hown, hts, hlocks⟩ := id C0
  unfold sX4_turn_0 at hp
  refine lv_aload_n hx hb dX4_turn_0 rfl (lv_at hl 0 rfl) ?_
  refine g_get (v := .ref (q (18+6*c0))) hx hb hts miX4_turn_X4 hown hK hP (kk_Mem hc0) (ce_Mem hc0) rfl 1 (by decide) mwX4_turn_0 rfl dX4_turn_1 ?_
  refine lv_iload_n hx hb dX4_turn_4 rfl (lv_at hl 1 rfl) ?_
  refine lv_dup2_11 hx hb dX4_turn_5 rfl rfl ?_
  obtain ⟨hi1, hp⟩ := o_chk hp
  refine g_iald (j := x1.toNatClampNeg) hx hb hK hP (kk_Fl hc0) (ce_Fl hc0) 0 rfl (vin_of hi1) rfl dX4_turn_6 ?_
  refine lv_iconst (v := (1 : Int32)) hx hb dX4_turn_7 (by decide) ?_
  refine lv_iload_n hx hb dX4_turn_8 rfl (lv_at hl 2 rfl) ?_
  refine lv_ishl hx hb dX4_turn_9 ?_
  refine lv_ixor hx hb dX4_turn_10 ?_
  refine g_iast (j := x1.toNatClampNeg) hx hb hK hJ hP hS (kk_Fl hc0) (ce_Fl hc0) 0 rfl (vin_of hi1) rfl dX4_turn_11 (fun H locs hP hS => ?_)
  refine lv_aload_n hx hb dX4_turn_12 rfl (lv_at hl 0 rfl) ?_
  refine g_get (v := .ref (q (18+6*c0))) hx hb hts miX4_turn_X4 hown hK hP (kk_Mem hc0) (ce_Mem hc0) rfl 1 (by decide) mwX4_turn_0 rfl dX4_turn_13 ?_
  refine lv_iload_n hx hb dX4_turn_16 rfl (lv_at hl 1 rfl) ?_
  refine g_iald (j := x1.toNatClampNeg) hx hb hK hP (kk_Fl hc0) (ce_Fl hc0) 0 rfl (vin_of hi1) rfl dX4_turn_17 ?_
  obtain ⟨⟨r2, u3⟩, hq4, hp⟩ := o_b hp
  refine g_cSi (As := [.int ((st2 σ (18+6*c0) (x1.toNatClampNeg) ((σ (18+6*c0) (x1.toNatClampNeg)) ^^^ (((1 : Int32)) <<< (x2 &&& 31)))) (18+6*c0) (x1.toNatClampNeg))]) (rest := []) hx hb hml hown hts hK hP hS (mJ6_bitCount_0f7a4 l hJ hq4) (va_cwS 1 hts gX4_turn_J6_bitCount_0f7a4 rfl rfl rfl nVJ6_bitCount_0f7a4 ⟨Nat.le_of_ble_eq_true rfl, Nat.le_of_ble_eq_true rfl⟩) rfl hl.1 rfl (Nat.le_of_ble_eq_true rfl) dX4_turn_18 ⟨Nat.le_of_ble_eq_true rfl, Nat.le_of_ble_eq_true rfl⟩ (fun H locs hP hS => ?_)
  exact kX4_turn_21 C0 hK hJ  hP hS (lv_sub hl [] rfl) hp
def sX4_turn (c0 : Nat) (x1 : Int32) (x2 : Int32) (σ : TS) : Option (Int32 × TS) := sX4_turn_0 c0 x1 x2 σ
theorem nVX4_turn : yX4_turn.cls = RX4 ∧ yX4_turn.cls ≠ "java/lang/invoke/MethodHandle" ∧ yX4_turn.cls ≠ "java/lang/invoke/VarHandle" ∧ (parseMethodDescriptor yX4_turn.desc).map (fun d => d.parameters.length) = some 2 := by decide +kernel
set_option maxHeartbeats 4000000 in
set_option maxRecDepth 100000 in
theorem mX4_turn (l : Launch) (hJ : gJ 78 q) {c0 : Nat} {x1 : Int32} {x2 : Int32} (hc0 : c0 < 4) {σ : TS} {r : Int32} {u : TS} (hp : sX4_turn c0 x1 x2 σ = some (r, u)) : Met l yX4_turn wsX4_turn rmX4_turn (va_Pc [.ref (q (16+6*c0)), .int x1, .int x2] (gPre D vwCl (tyL cy) (gS 78 q (TX cy q) σ))) (gQi D vwCl r (gS 78 q (TX cy q) u) (gA 78 q)) 0 0 (gA 78 q) := by
  refine Met.ofW (cc := cX4_turn) (maxL := 3) (ret := (some .int)) (by decide +kernel) rfl ?_
  intro p e s m args below meth c s₁ B hml hv
  obtain ⟨rfl, hP, hK⟩ := hv
  have hl := lv_entry ([.ref (q (16+6*c0)), .int x1, .int x2]) (n := 3) (Nat.le_of_ble_eq_true rfl)
  rw [lg_entry_eq]
  generalize (lg_sl ([.ref (q (16+6*c0)), .int x1, .int x2]) ++ List.replicate (3 - (lg_sl ([.ref (q (16+6*c0)), .int x1, .int x2])).length) Slot.unset).toArray = ls at hl ⊢
  have hl : lv_has ls 3 [(0, .ref (q (16+6*c0))), (1, .int x1), (2, .int x2)] := hl
  exact kX4_turn_0 ⟨B.exec, B.bytes, B.returns, hml, findClass_of_methodNamed B.named, atoms_spec (ws := wsX4_turn) B.pre, B.notSynchronized⟩ hK hJ hc0 hP va_S.rf hl hp
abbrev rmX5_isWithin : Room := { frames := 0, cells := 0, slots := 0, locals := 0 }
def sX5_isWithin_15 (sx0 : Int32) (σ : TS) : Option (Int32 × TS) := (if zok sx0 = true then some (sx0, σ) else none)
set_option maxHeartbeats 4000000 in
set_option maxRecDepth 100000 in
theorem kX5_isWithin_15 {r : Int32} {u : TS} (C0 : gC RX5 cX5_isWithin 3 ((some .boolean)) wsX5_isWithin p s m args meth c) (hK : va_K D vwCl (tyL cy) s) (hJ : gJ 78 q) {H : Heap} {locs : List Loc} {σ : TS} {sx0 : Int32} (hP : va_P D vwCl (gS 78 q (TX cy q) σ) H) (hS : va_S (gA 78 q) s.heap H locs) {ls : Array Slot} (hl : lv_has ls 3 []) (hp : sX5_isWithin_15 sx0 σ = some (r, u)) : W p l e rmX5_isWithin s m args below meth c H locs 0 0 (MQ below (gQi D vwCl r (gS 78 q (TX cy q) u) (gA 78 q)) args s 0 0 (gA 78 q)) (F0 m 15 ls [.int sx0]) := by
  obtain ⟨hx, hb, hr, hml, hown, hts, hlocks⟩ := id C0
  unfold sX5_isWithin_15 at hp
  obtain ⟨hz1, hp⟩ := o_chk hp
  obtain ⟨rfl, rfl⟩ := o_r hp
  exact W.zret (v := sx0) hx hb hr (zok_n hz1).1 (fun t ht hW => ⟨⟨sx0, (), rfl, rfl, by subst ht; exact hP⟩, hS.F ht⟩) hS.2.2 dX5_isWithin_15
def sX5_isWithin_14 (σ : TS) : Option (Int32 × TS) := sX5_isWithin_15 ((0 : Int32)) σ
set_option maxHeartbeats 4000000 in
set_option maxRecDepth 100000 in
theorem kX5_isWithin_14 {r : Int32} {u : TS} (C0 : gC RX5 cX5_isWithin 3 ((some .boolean)) wsX5_isWithin p s m args meth c) (hK : va_K D vwCl (tyL cy) s) (hJ : gJ 78 q) {H : Heap} {locs : List Loc} {σ : TS} (hP : va_P D vwCl (gS 78 q (TX cy q) σ) H) (hS : va_S (gA 78 q) s.heap H locs) {ls : Array Slot} (hl : lv_has ls 3 []) (hp : sX5_isWithin_14 σ = some (r, u)) : W p l e rmX5_isWithin s m args below meth c H locs 0 0 (MQ below (gQi D vwCl r (gS 78 q (TX cy q) u) (gA 78 q)) args s 0 0 (gA 78 q)) (F0 m 14 ls []) := by
  obtain ⟨hx, hb, hr, hml, hown, hts, hlocks⟩ := id C0
  unfold sX5_isWithin_14 at hp
  refine lv_iconst (v := (0 : Int32)) hx hb dX5_isWithin_14 (by decide) ?_
  exact kX5_isWithin_15 C0 hK hJ  hP hS hl hp
def sX5_isWithin_0 (x0 : Int32) (x1 : Int32) (x2 : Int32) (σ : TS) : Option (Int32 × TS) := (if x0 < x1 then sX5_isWithin_14 σ else (if x2 < x0 then sX5_isWithin_14 σ else sX5_isWithin_15 ((1 : Int32)) σ))
set_option maxHeartbeats 4000000 in
set_option maxRecDepth 100000 in
theorem kX5_isWithin_0 {r : Int32} {u : TS} (C0 : gC RX5 cX5_isWithin 3 ((some .boolean)) wsX5_isWithin p s m args meth c) (hK : va_K D vwCl (tyL cy) s) (hJ : gJ 78 q) {H : Heap} {locs : List Loc} {σ : TS} {x0 : Int32} {x1 : Int32} {x2 : Int32} (hP : va_P D vwCl (gS 78 q (TX cy q) σ) H) (hS : va_S (gA 78 q) s.heap H locs) {ls : Array Slot} (hl : lv_has ls 3 [(0, .int x0), (1, .int x1), (2, .int x2)]) (hp : sX5_isWithin_0 x0 x1 x2 σ = some (r, u)) : W p l e rmX5_isWithin s m args below meth c H locs 0 0 (MQ below (gQi D vwCl r (gS 78 q (TX cy q) u) (gA 78 q)) args s 0 0 (gA 78 q)) (F0 m 0 ls []) := by
  obtain ⟨hx, hb, hr, hml, hown, hts, hlocks⟩ := id C0
  unfold sX5_isWithin_0 at hp
  refine lv_iload_n hx hb dX5_isWithin_0 rfl (lv_at hl 0 rfl) ?_
  refine lv_iload_n hx hb dX5_isWithin_1 rfl (lv_at hl 1 rfl) ?_
  refine lv_icmp_lt (tgt := 14) hx hb dX5_isWithin_2 (by decide) (fun hcd2 => ?_) (fun hcd2 => ?_)
  · have hp := o_t hp hcd2
    exact kX5_isWithin_14 C0 hK hJ  hP hS (lv_sub hl [] rfl) hp
  · have hp := o_f hp hcd2
    refine lv_iload_n hx hb dX5_isWithin_5 rfl (lv_at hl 0 rfl) ?_
    refine lv_iload_n hx hb dX5_isWithin_6 rfl (lv_at hl 2 rfl) ?_
    refine lv_icmp_gt (tgt := 14) hx hb dX5_isWithin_7 (by decide) (fun hcd3 => ?_) (fun hcd3 => ?_)
    · have hp := o_t hp hcd3
      exact kX5_isWithin_14 C0 hK hJ  hP hS (lv_sub hl [] rfl) hp
    · have hp := o_f hp hcd3
      refine lv_iconst (v := (1 : Int32)) hx hb dX5_isWithin_10 (by decide) ?_
      refine lv_goto (tgt := 15) hx hb dX5_isWithin_11 (by decide) ?_
      exact kX5_isWithin_15 C0 hK hJ  hP hS (lv_sub hl [] rfl) hp
def sX5_isWithin (x0 : Int32) (x1 : Int32) (x2 : Int32) (σ : TS) : Option (Int32 × TS) := sX5_isWithin_0 x0 x1 x2 σ
theorem nVX5_isWithin : yX5_isWithin.cls ≠ "java/lang/invoke/MethodHandle" ∧ yX5_isWithin.cls ≠ "java/lang/invoke/VarHandle" ∧ (parseMethodDescriptor yX5_isWithin.desc).map (fun d => d.parameters.length) = some 3 := by decide +kernel
set_option maxHeartbeats 4000000 in
set_option maxRecDepth 100000 in
theorem mX5_isWithin (l : Launch) (hJ : gJ 78 q) {x0 : Int32} {x1 : Int32} {x2 : Int32} {σ : TS} {r : Int32} {u : TS} (hp : sX5_isWithin x0 x1 x2 σ = some (r, u)) : Met l yX5_isWithin wsX5_isWithin rmX5_isWithin (va_Pc [.int x0, .int x1, .int x2] (gPre D vwCl (tyL cy) (gS 78 q (TX cy q) σ))) (gQi D vwCl r (gS 78 q (TX cy q) u) (gA 78 q)) 0 0 (gA 78 q) := by
  refine Met.ofW (cc := cX5_isWithin) (maxL := 3) (ret := (some .boolean)) (by decide +kernel) rfl ?_
  intro p e s m args below meth c s₁ B hml hv
  obtain ⟨rfl, hP, hK⟩ := hv
  have hl := lv_entry ([.int x0, .int x1, .int x2]) (n := 3) (Nat.le_of_ble_eq_true rfl)
  rw [lg_entry_eq]
  generalize (lg_sl ([.int x0, .int x1, .int x2]) ++ List.replicate (3 - (lg_sl ([.int x0, .int x1, .int x2])).length) Slot.unset).toArray = ls at hl ⊢
  have hl : lv_has ls 3 [(0, .int x0), (1, .int x1), (2, .int x2)] := hl
  exact kX5_isWithin_0 ⟨B.exec, B.bytes, B.returns, hml, findClass_of_methodNamed B.named, atoms_spec (ws := wsX5_isWithin) B.pre, B.notSynchronized⟩ hK hJ  hP va_S.rf hl hp
abbrev rmX5_isNumber : Room := { frames := 1, cells := 0, slots := 0, locals := 22 }
def sX5_isNumber_10 (sx0 : Int32) (σ : TS) : Option (Int32 × TS) := (if zok sx0 = true then some (sx0, σ) else none)
set_option maxHeartbeats 4000000 in
set_option maxRecDepth 100000 in
theorem kX5_isNumber_10 {r : Int32} {u : TS} (C0 : gC RX5 cX5_isNumber 1 ((some .boolean)) wsX5_isNumber p s m args meth c) (hK : va_K D vwCl (tyL cy) s) (hJ : gJ 78 q) {H : Heap} {locs : List Loc} {σ : TS} {sx0 : Int32} (hP : va_P D vwCl (gS 78 q (TX cy q) σ) H) (hS : va_S (gA 78 q) s.heap H locs) {ls : Array Slot} (hl : lv_has ls 1 []) (hp : sX5_isNumber_10 sx0 σ = some (r, u)) : W p l e rmX5_isNumber s m args below meth c H locs 0 0 (MQ below (gQi D vwCl r (gS 78 q (TX cy q) u) (gA 78 q)) args s 0 0 (gA 78 q)) (F0 m 10 ls [.int sx0]) := by
  obtain ⟨hx, hb, hr, hml, hown, hts, hlocks⟩ := id C0
  unfold sX5_isNumber_10 at hp
  obtain ⟨hz1, hp⟩ := o_chk hp
  obtain ⟨rfl, rfl⟩ := o_r hp
  exact W.zret (v := sx0) hx hb hr (zok_n hz1).1 (fun t ht hW => ⟨⟨sx0, (), rfl, rfl, by subst ht; exact hP⟩, hS.F ht⟩) hS.2.2 dX5_isNumber_10
def sX5_isNumber_0 (x0 : Int32) (σ : TS) : Option (Int32 × TS) := ((sX5_isWithin x0 ((-32768 : Int32)) ((32767 : Int32)) σ).bind (fun z => sX5_isNumber_10 z.1 z.2))
set_option maxHeartbeats 4000000 in
set_option maxRecDepth 100000 in
theorem kX5_isNumber_0 {r : Int32} {u : TS} (C0 : gC RX5 cX5_isNumber 1 ((some .boolean)) wsX5_isNumber p s m args meth c) (hK : va_K D vwCl (tyL cy) s) (hJ : gJ 78 q) {H : Heap} {locs : List Loc} {σ : TS} {x0 : Int32} (hP : va_P D vwCl (gS 78 q (TX cy q) σ) H) (hS : va_S (gA 78 q) s.heap H locs) {ls : Array Slot} (hl : lv_has ls 1 [(0, .int x0)]) (hp : sX5_isNumber_0 x0 σ = some (r, u)) : W p l e rmX5_isNumber s m args below meth c H locs 0 0 (MQ below (gQi D vwCl r (gS 78 q (TX cy q) u) (gA 78 q)) args s 0 0 (gA 78 q)) (F0 m 0 ls []) := by
  obtain ⟨hx, hb, hr, hml, hown, hts, hlocks⟩ := id C0
  unfold sX5_isNumber_0 at hp
  refine lv_iload_n hx hb dX5_isNumber_0 rfl (lv_at hl 0 rfl) ?_
  refine lv_sipush (v := (-32768 : Int32)) hx hb dX5_isNumber_1 (by decide) ?_
  refine lv_sipush (v := (32767 : Int32)) hx hb dX5_isNumber_4 (by decide) ?_
  obtain ⟨⟨r2, u3⟩, hq4, hp⟩ := o_b hp
  refine g_cSi (As := [.int x0, .int ((-32768 : Int32)), .int ((32767 : Int32))]) (rest := []) hx hb hml hown hts hK hP hS (mX5_isWithin l hJ hq4) (va_cwS 3 hts gX5_isNumber_X5_isWithin rfl rfl rfl nVX5_isWithin ⟨Nat.le_of_ble_eq_true rfl, Nat.le_of_ble_eq_true rfl⟩) rfl hl.1 rfl (Nat.le_of_ble_eq_true rfl) dX5_isNumber_7 ⟨Nat.le_of_ble_eq_true rfl, Nat.le_of_ble_eq_true rfl⟩ (fun H locs hP hS => ?_)
  exact kX5_isNumber_10 C0 hK hJ  hP hS (lv_sub hl [] rfl) hp
def sX5_isNumber (x0 : Int32) (σ : TS) : Option (Int32 × TS) := sX5_isNumber_0 x0 σ
theorem nVX5_isNumber : yX5_isNumber.cls ≠ "java/lang/invoke/MethodHandle" ∧ yX5_isNumber.cls ≠ "java/lang/invoke/VarHandle" ∧ (parseMethodDescriptor yX5_isNumber.desc).map (fun d => d.parameters.length) = some 1 := by decide +kernel
set_option maxHeartbeats 4000000 in
set_option maxRecDepth 100000 in
theorem mX5_isNumber (l : Launch) (hJ : gJ 78 q) {x0 : Int32} {σ : TS} {r : Int32} {u : TS} (hp : sX5_isNumber x0 σ = some (r, u)) : Met l yX5_isNumber wsX5_isNumber rmX5_isNumber (va_Pc [.int x0] (gPre D vwCl (tyL cy) (gS 78 q (TX cy q) σ))) (gQi D vwCl r (gS 78 q (TX cy q) u) (gA 78 q)) 0 0 (gA 78 q) := by
  refine Met.ofW (cc := cX5_isNumber) (maxL := 1) (ret := (some .boolean)) (by decide +kernel) rfl ?_
  intro p e s m args below meth c s₁ B hml hv
  obtain ⟨rfl, hP, hK⟩ := hv
  have hl := lv_entry ([.int x0]) (n := 1) (Nat.le_of_ble_eq_true rfl)
  rw [lg_entry_eq]
  generalize (lg_sl ([.int x0]) ++ List.replicate (1 - (lg_sl ([.int x0])).length) Slot.unset).toArray = ls at hl ⊢
  have hl : lv_has ls 1 [(0, .int x0)] := hl
  exact kX5_isNumber_0 ⟨B.exec, B.bytes, B.returns, hml, findClass_of_methodNamed B.named, atoms_spec (ws := wsX5_isNumber) B.pre, B.notSynchronized⟩ hK hJ  hP va_S.rf hl hp
abbrev rmX6_isInstruction : Room := { frames := 2, cells := 0, slots := 0, locals := 42 }
def sX6_isInstruction_108 (sx0 : Int32) (σ : TS) : Option (Int32 × TS) := (if zok sx0 = true then some (sx0, σ) else none)
set_option maxHeartbeats 4000000 in
set_option maxRecDepth 100000 in
theorem kX6_isInstruction_108 {r : Int32} {u : TS} (C0 : gC RX6 cX6_isInstruction 3 ((some .boolean)) wsX6_isInstruction p s m args meth c) (hK : va_K D vwCl (tyL cy) s) (hJ : gJ 78 q) {H : Heap} {locs : List Loc} {σ : TS} {sx0 : Int32} (hP : va_P D vwCl (gS 78 q (TX cy q) σ) H) (hS : va_S (gA 78 q) s.heap H locs) {ls : Array Slot} (hl : lv_has ls 3 []) (hp : sX6_isInstruction_108 sx0 σ = some (r, u)) : W p l e rmX6_isInstruction s m args below meth c H locs 0 0 (MQ below (gQi D vwCl r (gS 78 q (TX cy q) u) (gA 78 q)) args s 0 0 (gA 78 q)) (F0 m 108 ls [.int sx0]) := by
  obtain ⟨hx, hb, hr, hml, hown, hts, hlocks⟩ := id C0
  unfold sX6_isInstruction_108 at hp
  obtain ⟨hz1, hp⟩ := o_chk hp
  obtain ⟨rfl, rfl⟩ := o_r hp
  exact W.zret (v := sx0) hx hb hr (zok_n hz1).1 (fun t ht hW => ⟨⟨sx0, (), rfl, rfl, by subst ht; exact hP⟩, hS.F ht⟩) hS.2.2 dX6_isInstruction_108
def sX6_isInstruction_115 (sx0 : Int32) (σ : TS) : Option (Int32 × TS) := (if zok sx0 = true then some (sx0, σ) else none)
set_option maxHeartbeats 4000000 in
set_option maxRecDepth 100000 in
theorem kX6_isInstruction_115 {r : Int32} {u : TS} (C0 : gC RX6 cX6_isInstruction 3 ((some .boolean)) wsX6_isInstruction p s m args meth c) (hK : va_K D vwCl (tyL cy) s) (hJ : gJ 78 q) {H : Heap} {locs : List Loc} {σ : TS} {sx0 : Int32} (hP : va_P D vwCl (gS 78 q (TX cy q) σ) H) (hS : va_S (gA 78 q) s.heap H locs) {ls : Array Slot} (hl : lv_has ls 3 []) (hp : sX6_isInstruction_115 sx0 σ = some (r, u)) : W p l e rmX6_isInstruction s m args below meth c H locs 0 0 (MQ below (gQi D vwCl r (gS 78 q (TX cy q) u) (gA 78 q)) args s 0 0 (gA 78 q)) (F0 m 115 ls [.int sx0]) := by
  obtain ⟨hx, hb, hr, hml, hown, hts, hlocks⟩ := id C0
  unfold sX6_isInstruction_115 at hp
  obtain ⟨hz2, hp⟩ := o_chk hp
  obtain ⟨rfl, rfl⟩ := o_r hp
  exact W.zret (v := sx0) hx hb hr (zok_n hz2).1 (fun t ht hW => ⟨⟨sx0, (), rfl, rfl, by subst ht; exact hP⟩, hS.F ht⟩) hS.2.2 dX6_isInstruction_115
def sX6_isInstruction_122 (sx0 : Int32) (σ : TS) : Option (Int32 × TS) := (if zok sx0 = true then some (sx0, σ) else none)
set_option maxHeartbeats 4000000 in
set_option maxRecDepth 100000 in
theorem kX6_isInstruction_122 {r : Int32} {u : TS} (C0 : gC RX6 cX6_isInstruction 3 ((some .boolean)) wsX6_isInstruction p s m args meth c) (hK : va_K D vwCl (tyL cy) s) (hJ : gJ 78 q) {H : Heap} {locs : List Loc} {σ : TS} {sx0 : Int32} (hP : va_P D vwCl (gS 78 q (TX cy q) σ) H) (hS : va_S (gA 78 q) s.heap H locs) {ls : Array Slot} (hl : lv_has ls 3 []) (hp : sX6_isInstruction_122 sx0 σ = some (r, u)) : W p l e rmX6_isInstruction s m args below meth c H locs 0 0 (MQ below (gQi D vwCl r (gS 78 q (TX cy q) u) (gA 78 q)) args s 0 0 (gA 78 q)) (F0 m 122 ls [.int sx0]) := by
  obtain ⟨hx, hb, hr, hml, hown, hts, hlocks⟩ := id C0
  unfold sX6_isInstruction_122 at hp
  obtain ⟨hz3, hp⟩ := o_chk hp
  obtain ⟨rfl, rfl⟩ := o_r hp
  exact W.zret (v := sx0) hx hb hr (zok_n hz3).1 (fun t ht hW => ⟨⟨sx0, (), rfl, rfl, by subst ht; exact hP⟩, hS.F ht⟩) hS.2.2 dX6_isInstruction_122
def sX6_isInstruction_129 (sx0 : Int32) (σ : TS) : Option (Int32 × TS) := (if zok sx0 = true then some (sx0, σ) else none)
set_option maxHeartbeats 4000000 in
set_option maxRecDepth 100000 in
theorem kX6_isInstruction_129 {r : Int32} {u : TS} (C0 : gC RX6 cX6_isInstruction 3 ((some .boolean)) wsX6_isInstruction p s m args meth c) (hK : va_K D vwCl (tyL cy) s) (hJ : gJ 78 q) {H : Heap} {locs : List Loc} {σ : TS} {sx0 : Int32} (hP : va_P D vwCl (gS 78 q (TX cy q) σ) H) (hS : va_S (gA 78 q) s.heap H locs) {ls : Array Slot} (hl : lv_has ls 3 []) (hp : sX6_isInstruction_129 sx0 σ = some (r, u)) : W p l e rmX6_isInstruction s m args below meth c H locs 0 0 (MQ below (gQi D vwCl r (gS 78 q (TX cy q) u) (gA 78 q)) args s 0 0 (gA 78 q)) (F0 m 129 ls [.int sx0]) := by
  obtain ⟨hx, hb, hr, hml, hown, hts, hlocks⟩ := id C0
  unfold sX6_isInstruction_129 at hp
  obtain ⟨hz4, hp⟩ := o_chk hp
  obtain ⟨rfl, rfl⟩ := o_r hp
  exact W.zret (v := sx0) hx hb hr (zok_n hz4).1 (fun t ht hW => ⟨⟨sx0, (), rfl, rfl, by subst ht; exact hP⟩, hS.F ht⟩) hS.2.2 dX6_isInstruction_129
def sX6_isInstruction_136 (sx0 : Int32) (σ : TS) : Option (Int32 × TS) := (if zok sx0 = true then some (sx0, σ) else none)
set_option maxHeartbeats 4000000 in
set_option maxRecDepth 100000 in
theorem kX6_isInstruction_136 {r : Int32} {u : TS} (C0 : gC RX6 cX6_isInstruction 3 ((some .boolean)) wsX6_isInstruction p s m args meth c) (hK : va_K D vwCl (tyL cy) s) (hJ : gJ 78 q) {H : Heap} {locs : List Loc} {σ : TS} {sx0 : Int32} (hP : va_P D vwCl (gS 78 q (TX cy q) σ) H) (hS : va_S (gA 78 q) s.heap H locs) {ls : Array Slot} (hl : lv_has ls 3 []) (hp : sX6_isInstruction_136 sx0 σ = some (r, u)) : W p l e rmX6_isInstruction s m args below meth c H locs 0 0 (MQ below (gQi D vwCl r (gS 78 q (TX cy q) u) (gA 78 q)) args s 0 0 (gA 78 q)) (F0 m 136 ls [.int sx0]) := by
  obtain ⟨hx, hb, hr, hml, hown, hts, hlocks⟩ := id C0
  unfold sX6_isInstruction_136 at hp
  obtain ⟨hz5, hp⟩ := o_chk hp
  obtain ⟨rfl, rfl⟩ := o_r hp
  exact W.zret (v := sx0) hx hb hr (zok_n hz5).1 (fun t ht hW => ⟨⟨sx0, (), rfl, rfl, by subst ht; exact hP⟩, hS.F ht⟩) hS.2.2 dX6_isInstruction_136
def sX6_isInstruction_144 (sx0 : Int32) (σ : TS) : Option (Int32 × TS) := (if zok sx0 = true then some (sx0, σ) else none)
set_option maxHeartbeats 4000000 in
set_option maxRecDepth 100000 in
theorem kX6_isInstruction_144 {r : Int32} {u : TS} (C0 : gC RX6 cX6_isInstruction 3 ((some .boolean)) wsX6_isInstruction p s m args meth c) (hK : va_K D vwCl (tyL cy) s) (hJ : gJ 78 q) {H : Heap} {locs : List Loc} {σ : TS} {sx0 : Int32} (hP : va_P D vwCl (gS 78 q (TX cy q) σ) H) (hS : va_S (gA 78 q) s.heap H locs) {ls : Array Slot} (hl : lv_has ls 3 []) (hp : sX6_isInstruction_144 sx0 σ = some (r, u)) : W p l e rmX6_isInstruction s m args below meth c H locs 0 0 (MQ below (gQi D vwCl r (gS 78 q (TX cy q) u) (gA 78 q)) args s 0 0 (gA 78 q)) (F0 m 144 ls [.int sx0]) := by
  obtain ⟨hx, hb, hr, hml, hown, hts, hlocks⟩ := id C0
  unfold sX6_isInstruction_144 at hp
  obtain ⟨hz6, hp⟩ := o_chk hp
  obtain ⟨rfl, rfl⟩ := o_r hp
  exact W.zret (v := sx0) hx hb hr (zok_n hz6).1 (fun t ht hW => ⟨⟨sx0, (), rfl, rfl, by subst ht; exact hP⟩, hS.F ht⟩) hS.2.2 dX6_isInstruction_144
def sX6_isInstruction_6 (x0 : Int32) (x2 : Int32) (sx0 : Int32) (σ : TS) : Option (Int32 × TS) := (if sx0 = 0 then some ((0 : Int32), σ) else (if x0 = (97 : Int32) then ((sX5_isWithin x2 ((0 : Int32)) ((3 : Int32)) σ).bind (fun z => sX6_isInstruction_115 z.1 z.2)) else (if x0 = (105 : Int32) then ((sX5_isWithin x2 ((0 : Int32)) ((3 : Int32)) σ).bind (fun z => sX6_isInstruction_129 z.1 z.2)) else (if x0 = (106 : Int32) then ((sX5_isWithin x2 ((0 : Int32)) ((9 : Int32)) σ).bind (fun z => sX6_isInstruction_144 z.1 z.2)) else (if x0 = (108 : Int32) then ((sX5_isNumber x2 σ).bind (fun z => sX6_isInstruction_108 z.1 z.2)) else (if x0 = (109 : Int32) then ((sX5_isWithin x2 ((0 : Int32)) ((5 : Int32)) σ).bind (fun z => sX6_isInstruction_122 z.1 z.2)) else (if x0 = (111 : Int32) then ((sX5_isWithin x2 ((0 : Int32)) ((3 : Int32)) σ).bind (fun z => sX6_isInstruction_136 z.1 z.2)) else (if x0 = (114 : Int32) then ((sX5_isWithin x2 ((0 : Int32)) ((5 : Int32)) σ).bind (fun z => sX6_isInstruction_122 z.1 z.2)) else (if x0 = (115 : Int32) then ((sX5_isWithin x2 ((0 : Int32)) ((3 : Int32)) σ).bind (fun z => sX6_isInstruction_115 z.1 z.2)) else some ((0 : Int32), σ))))))))))
set_option maxHeartbeats 4000000 in
set_option maxRecDepth 100000 in
theorem kX6_isInstruction_6 {r : Int32} {u : TS} (C0 : gC RX6 cX6_isInstruction 3 ((some .boolean)) wsX6_isInstruction p s m args meth c) (hK : va_K D vwCl (tyL cy) s) (hJ : gJ 78 q) {H : Heap} {locs : List Loc} {σ : TS} {x0 : Int32} {x2 : Int32} {sx0 : Int32} (hP : va_P D vwCl (gS 78 q (TX cy q) σ) H) (hS : va_S (gA 78 q) s.heap H locs) {ls : Array Slot} (hl : lv_has ls 3 [(0, .int x0), (2, .int x2)]) (hp : sX6_isInstruction_6 x0 x2 sx0 σ = some (r, u)) : W p l e rmX6_isInstruction s m args below meth c H locs 0 0 (MQ below (gQi D vwCl r (gS 78 q (TX cy q) u) (gA 78 q)) args s 0 0 (gA 78 q)) (F0 m 6 ls [.int sx0]) := by
  obtain ⟨hx, hb, hr, hml, hown, hts, hlocks⟩ := id C0
  unfold sX6_isInstruction_6 at hp
  refine lv_if_ne (tgt := 11) hx hb dX6_isInstruction_6 (by decide) (fun hcd7 => ?_) (fun hcd7 => ?_)
  · have hp := o_f hp hcd7
    refine lv_iload_n hx hb dX6_isInstruction_11 rfl (lv_at hl 0 rfl) ?_
    by_cases hcd8 : x0 = (97 : Int32)
    · have hp := o_t hp hcd8
      refine g_sw hx hb (off := 97) (tgt := 109) dX6_isInstruction_12 (by decide) (by rw [hcd8]; decide) (by decide) ?_
      refine lv_iload_n hx hb dX6_isInstruction_109 rfl (lv_at hl 1 rfl) ?_
      refine lv_iconst (v := (0 : Int32)) hx hb dX6_isInstruction_110 (by decide) ?_
      refine lv_iconst (v := (3 : Int32)) hx hb dX6_isInstruction_111 (by decide) ?_
      obtain ⟨⟨r9, u10⟩, hq11, hp⟩ := o_b hp
      refine g_cSi (As := [.int x2, .int ((0 : Int32)), .int ((3 : Int32))]) (rest := []) hx hb hml hown hts hK hP hS (mX5_isWithin l hJ hq11) (va_cwS 3 hts gX6_isInstruction_X5_isWithin rfl rfl rfl nVX5_isWithin ⟨Nat.le_of_ble_eq_true rfl, Nat.le_of_ble_eq_true rfl⟩) rfl hl.1 rfl (Nat.le_of_ble_eq_true rfl) dX6_isInstruction_112 ⟨Nat.le_of_ble_eq_true rfl, Nat.le_of_ble_eq_true rfl⟩ (fun H locs hP hS => ?_)
      exact kX6_isInstruction_115 C0 hK hJ  hP hS (lv_sub hl [] rfl) hp
    have hp := o_f hp hcd8
    by_cases hcd12 : x0 = (105 : Int32)
    · have hp := o_t hp hcd12
      refine g_sw hx hb (off := 111) (tgt := 123) dX6_isInstruction_12 (by decide) (by rw [hcd12]; decide) (by decide) ?_
      refine lv_iload_n hx hb dX6_isInstruction_123 rfl (lv_at hl 1 rfl) ?_
      refine lv_iconst (v := (0 : Int32)) hx hb dX6_isInstruction_124 (by decide) ?_
      refine lv_iconst (v := (3 : Int32)) hx hb dX6_isInstruction_125 (by decide) ?_
      obtain ⟨⟨r13, u14⟩, hq15, hp⟩ := o_b hp
      refine g_cSi (As := [.int x2, .int ((0 : Int32)), .int ((3 : Int32))]) (rest := []) hx hb hml hown hts hK hP hS (mX5_isWithin l hJ hq15) (va_cwS 3 hts gX6_isInstruction_X5_isWithin rfl rfl rfl nVX5_isWithin ⟨Nat.le_of_ble_eq_true rfl, Nat.le_of_ble_eq_true rfl⟩) rfl hl.1 rfl (Nat.le_of_ble_eq_true rfl) dX6_isInstruction_126 ⟨Nat.le_of_ble_eq_true rfl, Nat.le_of_ble_eq_true rfl⟩ (fun H locs hP hS => ?_)
      exact kX6_isInstruction_129 C0 hK hJ  hP hS (lv_sub hl [] rfl) hp
    have hp := o_f hp hcd12
    by_cases hcd16 : x0 = (106 : Int32)
    · have hp := o_t hp hcd16
      refine g_sw hx hb (off := 125) (tgt := 137) dX6_isInstruction_12 (by decide) (by rw [hcd16]; decide) (by decide) ?_
      refine lv_iload_n hx hb dX6_isInstruction_137 rfl (lv_at hl 1 rfl) ?_
      refine lv_iconst (v := (0 : Int32)) hx hb dX6_isInstruction_138 (by decide) ?_
      refine lv_bipush (v := (9 : Int32)) hx hb dX6_isInstruction_139 (by decide) ?_
      obtain ⟨⟨r17, u18⟩, hq19, hp⟩ := o_b hp
      refine g_cSi (As := [.int x2, .int ((0 : Int32)), .int ((9 : Int32))]) (rest := []) hx hb hml hown hts hK hP hS (mX5_isWithin l hJ hq19) (va_cwS 3 hts gX6_isInstruction_X5_isWithin rfl rfl rfl nVX5_isWithin ⟨Nat.le_of_ble_eq_true rfl, Nat.le_of_ble_eq_true rfl⟩) rfl hl.1 rfl (Nat.le_of_ble_eq_true rfl) dX6_isInstruction_141 ⟨Nat.le_of_ble_eq_true rfl, Nat.le_of_ble_eq_true rfl⟩ (fun H locs hP hS => ?_)
      exact kX6_isInstruction_144 C0 hK hJ  hP hS (lv_sub hl [] rfl) hp
    have hp := o_f hp hcd16
    by_cases hcd20 : x0 = (108 : Int32)
    · have hp := o_t hp hcd20
      refine g_sw hx hb (off := 92) (tgt := 104) dX6_isInstruction_12 (by decide) (by rw [hcd20]; decide) (by decide) ?_
      refine lv_iload_n hx hb dX6_isInstruction_104 rfl (lv_at hl 1 rfl) ?_
      obtain ⟨⟨r21, u22⟩, hq23, hp⟩ := o_b hp
      refine g_cSi (As := [.int x2]) (rest := []) hx hb hml hown hts hK hP hS (mX5_isNumber l hJ hq23) (va_cwS 1 hts gX6_isInstruction_X5_isNumber rfl rfl rfl nVX5_isNumber ⟨Nat.le_of_ble_eq_true rfl, Nat.le_of_ble_eq_true rfl⟩) rfl hl.1 rfl (Nat.le_of_ble_eq_true rfl) dX6_isInstruction_105 ⟨Nat.le_of_ble_eq_true rfl, Nat.le_of_ble_eq_true rfl⟩ (fun H locs hP hS => ?_)
      exact kX6_isInstruction_108 C0 hK hJ  hP hS (lv_sub hl [] rfl) hp
    have hp := o_f hp hcd20
    by_cases hcd24 : x0 = (109 : Int32)
    · have hp := o_t hp hcd24
      refine g_sw hx hb (off := 104) (tgt := 116) dX6_isInstruction_12 (by decide) (by rw [hcd24]; decide) (by decide) ?_
      refine lv_iload_n hx hb dX6_isInstruction_116 rfl (lv_at hl 1 rfl) ?_
      refine lv_iconst (v := (0 : Int32)) hx hb dX6_isInstruction_117 (by decide) ?_
      refine lv_iconst (v := (5 : Int32)) hx hb dX6_isInstruction_118 (by decide) ?_
      obtain ⟨⟨r25, u26⟩, hq27, hp⟩ := o_b hp
      refine g_cSi (As := [.int x2, .int ((0 : Int32)), .int ((5 : Int32))]) (rest := []) hx hb hml hown hts hK hP hS (mX5_isWithin l hJ hq27) (va_cwS 3 hts gX6_isInstruction_X5_isWithin rfl rfl rfl nVX5_isWithin ⟨Nat.le_of_ble_eq_true rfl, Nat.le_of_ble_eq_true rfl⟩) rfl hl.1 rfl (Nat.le_of_ble_eq_true rfl) dX6_isInstruction_119 ⟨Nat.le_of_ble_eq_true rfl, Nat.le_of_ble_eq_true rfl⟩ (fun H locs hP hS => ?_)
      exact kX6_isInstruction_122 C0 hK hJ  hP hS (lv_sub hl [] rfl) hp
    have hp := o_f hp hcd24
    by_cases hcd28 : x0 = (111 : Int32)
    · have hp := o_t hp hcd28
      refine g_sw hx hb (off := 118) (tgt := 130) dX6_isInstruction_12 (by decide) (by rw [hcd28]; decide) (by decide) ?_
      refine lv_iload_n hx hb dX6_isInstruction_130 rfl (lv_at hl 1 rfl) ?_
      refine lv_iconst (v := (0 : Int32)) hx hb dX6_isInstruction_131 (by decide) ?_
      refine lv_iconst (v := (3 : Int32)) hx hb dX6_isInstruction_132 (by decide) ?_
      obtain ⟨⟨r29, u30⟩, hq31, hp⟩ := o_b hp
      refine g_cSi (As := [.int x2, .int ((0 : Int32)), .int ((3 : Int32))]) (rest := []) hx hb hml hown hts hK hP hS (mX5_isWithin l hJ hq31) (va_cwS 3 hts gX6_isInstruction_X5_isWithin rfl rfl rfl nVX5_isWithin ⟨Nat.le_of_ble_eq_true rfl, Nat.le_of_ble_eq_true rfl⟩) rfl hl.1 rfl (Nat.le_of_ble_eq_true rfl) dX6_isInstruction_133 ⟨Nat.le_of_ble_eq_true rfl, Nat.le_of_ble_eq_true rfl⟩ (fun H locs hP hS => ?_)
      exact kX6_isInstruction_136 C0 hK hJ  hP hS (lv_sub hl [] rfl) hp
    have hp := o_f hp hcd28
    by_cases hcd32 : x0 = (114 : Int32)
    · have hp := o_t hp hcd32
      refine g_sw hx hb (off := 104) (tgt := 116) dX6_isInstruction_12 (by decide) (by rw [hcd32]; decide) (by decide) ?_
      refine lv_iload_n hx hb dX6_isInstruction_116 rfl (lv_at hl 1 rfl) ?_
      refine lv_iconst (v := (0 : Int32)) hx hb dX6_isInstruction_117 (by decide) ?_
      refine lv_iconst (v := (5 : Int32)) hx hb dX6_isInstruction_118 (by decide) ?_
      obtain ⟨⟨r33, u34⟩, hq35, hp⟩ := o_b hp
      refine g_cSi (As := [.int x2, .int ((0 : Int32)), .int ((5 : Int32))]) (rest := []) hx hb hml hown hts hK hP hS (mX5_isWithin l hJ hq35) (va_cwS 3 hts gX6_isInstruction_X5_isWithin rfl rfl rfl nVX5_isWithin ⟨Nat.le_of_ble_eq_true rfl, Nat.le_of_ble_eq_true rfl⟩) rfl hl.1 rfl (Nat.le_of_ble_eq_true rfl) dX6_isInstruction_119 ⟨Nat.le_of_ble_eq_true rfl, Nat.le_of_ble_eq_true rfl⟩ (fun H locs hP hS => ?_)
      exact kX6_isInstruction_122 C0 hK hJ  hP hS (lv_sub hl [] rfl) hp
    have hp := o_f hp hcd32
    by_cases hcd36 : x0 = (115 : Int32)
    · have hp := o_t hp hcd36
      refine g_sw hx hb (off := 97) (tgt := 109) dX6_isInstruction_12 (by decide) (by rw [hcd36]; decide) (by decide) ?_
      refine lv_iload_n hx hb dX6_isInstruction_109 rfl (lv_at hl 1 rfl) ?_
      refine lv_iconst (v := (0 : Int32)) hx hb dX6_isInstruction_110 (by decide) ?_
      refine lv_iconst (v := (3 : Int32)) hx hb dX6_isInstruction_111 (by decide) ?_
      obtain ⟨⟨r37, u38⟩, hq39, hp⟩ := o_b hp
      refine g_cSi (As := [.int x2, .int ((0 : Int32)), .int ((3 : Int32))]) (rest := []) hx hb hml hown hts hK hP hS (mX5_isWithin l hJ hq39) (va_cwS 3 hts gX6_isInstruction_X5_isWithin rfl rfl rfl nVX5_isWithin ⟨Nat.le_of_ble_eq_true rfl, Nat.le_of_ble_eq_true rfl⟩) rfl hl.1 rfl (Nat.le_of_ble_eq_true rfl) dX6_isInstruction_112 ⟨Nat.le_of_ble_eq_true rfl, Nat.le_of_ble_eq_true rfl⟩ (fun H locs hP hS => ?_)
      exact kX6_isInstruction_115 C0 hK hJ  hP hS (lv_sub hl [] rfl) hp
    have hp := o_f hp hcd36
    refine g_sw hx hb (off := 133) (tgt := 145) dX6_isInstruction_12 (by decide) (g_swd (vs := [(97 : Int32), (105 : Int32), (106 : Int32), (108 : Int32), (109 : Int32), (111 : Int32), (114 : Int32), (115 : Int32)]) (by decide) (List.not_mem_cons_of_ne_of_not_mem hcd8 (List.not_mem_cons_of_ne_of_not_mem hcd12 (List.not_mem_cons_of_ne_of_not_mem hcd16 (List.not_mem_cons_of_ne_of_not_mem hcd20 (List.not_mem_cons_of_ne_of_not_mem hcd24 (List.not_mem_cons_of_ne_of_not_mem hcd28 (List.not_mem_cons_of_ne_of_not_mem hcd32 (List.not_mem_cons_of_ne_of_not_mem hcd36 List.not_mem_nil))))))))) (by decide) ?_
    refine lv_iconst (v := (0 : Int32)) hx hb dX6_isInstruction_145 (by decide) ?_
    obtain ⟨rfl, rfl⟩ := o_r hp
    exact W.zret (v := (0 : Int32)) hx hb hr (zok_n (by decide)).1 (fun t ht hW => ⟨⟨(0 : Int32), (), rfl, rfl, by subst ht; exact hP⟩, hS.F ht⟩) hS.2.2 dX6_isInstruction_146
  · have hp := o_t hp hcd7
    refine lv_iconst (v := (0 : Int32)) hx hb dX6_isInstruction_9 (by decide) ?_
    obtain ⟨rfl, rfl⟩ := o_r hp
    exact W.zret (v := (0 : Int32)) hx hb hr (zok_n (by decide)).1 (fun t ht hW => ⟨⟨(0 : Int32), (), rfl, rfl, by subst ht; exact hP⟩, hS.F ht⟩) hS.2.2 dX6_isInstruction_10
def sX6_isInstruction_0 (x0 : Int32) (x1 : Int32) (x2 : Int32) (σ : TS) : Option (Int32 × TS) := ((sX5_isWithin x1 ((0 : Int32)) ((3 : Int32)) σ).bind (fun z => sX6_isInstruction_6 x0 x2 z.1 z.2))
set_option maxHeartbeats 4000000 in
set_option maxRecDepth 100000 in
theorem kX6_isInstruction_0 {r : Int32} {u : TS} (C0 : gC RX6 cX6_isInstruction 3 ((some .boolean)) wsX6_isInstruction p s m args meth c) (hK : va_K D vwCl (tyL cy) s) (hJ : gJ 78 q) {H : Heap} {locs : List Loc} {σ : TS} {x0 : Int32} {x1 : Int32} {x2 : Int32} (hP : va_P D vwCl (gS 78 q (TX cy q) σ) H) (hS : va_S (gA 78 q) s.heap H locs) {ls : Array Slot} (hl : lv_has ls 3 [(0, .int x0), (1, .int x1), (2, .int x2)]) (hp : sX6_isInstruction_0 x0 x1 x2 σ = some (r, u)) : W p l e rmX6_isInstruction s m args below meth c H locs 0 0 (MQ below (gQi D vwCl r (gS 78 q (TX cy q) u) (gA 78 q)) args s 0 0 (gA 78 q)) (F0 m 0 ls []) := by
  obtain ⟨hx, hb, hr, hml, hown, hts, hlocks⟩ := id C0
  unfold sX6_isInstruction_0 at hp
  refine lv_iload_n hx hb dX6_isInstruction_0 rfl (lv_at hl 1 rfl) ?_
  refine lv_iconst (v := (0 : Int32)) hx hb dX6_isInstruction_1 (by decide) ?_
  refine lv_iconst (v := (3 : Int32)) hx hb dX6_isInstruction_2 (by decide) ?_
  obtain ⟨⟨r40, u41⟩, hq42, hp⟩ := o_b hp
  refine g_cSi (As := [.int x1, .int ((0 : Int32)), .int ((3 : Int32))]) (rest := []) hx hb hml hown hts hK hP hS (mX5_isWithin l hJ hq42) (va_cwS 3 hts gX6_isInstruction_X5_isWithin rfl rfl rfl nVX5_isWithin ⟨Nat.le_of_ble_eq_true rfl, Nat.le_of_ble_eq_true rfl⟩) rfl hl.1 rfl (Nat.le_of_ble_eq_true rfl) dX6_isInstruction_3 ⟨Nat.le_of_ble_eq_true rfl, Nat.le_of_ble_eq_true rfl⟩ (fun H locs hP hS => ?_)
  exact kX6_isInstruction_6 C0 hK hJ  hP hS (lv_sub hl [0, 2] rfl) hp
def sX6_isInstruction (x0 : Int32) (x1 : Int32) (x2 : Int32) (σ : TS) : Option (Int32 × TS) := sX6_isInstruction_0 x0 x1 x2 σ
theorem nVX6_isInstruction : yX6_isInstruction.cls ≠ "java/lang/invoke/MethodHandle" ∧ yX6_isInstruction.cls ≠ "java/lang/invoke/VarHandle" ∧ (parseMethodDescriptor yX6_isInstruction.desc).map (fun d => d.parameters.length) = some 3 := by decide +kernel
set_option maxHeartbeats 4000000 in
set_option maxRecDepth 100000 in
theorem mX6_isInstruction (l : Launch) (hJ : gJ 78 q) {x0 : Int32} {x1 : Int32} {x2 : Int32} {σ : TS} {r : Int32} {u : TS} (hp : sX6_isInstruction x0 x1 x2 σ = some (r, u)) : Met l yX6_isInstruction wsX6_isInstruction rmX6_isInstruction (va_Pc [.int x0, .int x1, .int x2] (gPre D vwCl (tyL cy) (gS 78 q (TX cy q) σ))) (gQi D vwCl r (gS 78 q (TX cy q) u) (gA 78 q)) 0 0 (gA 78 q) := by
  refine Met.ofW (cc := cX6_isInstruction) (maxL := 3) (ret := (some .boolean)) (by decide +kernel) rfl ?_
  intro p e s m args below meth c s₁ B hml hv
  obtain ⟨rfl, hP, hK⟩ := hv
  have hl := lv_entry ([.int x0, .int x1, .int x2]) (n := 3) (Nat.le_of_ble_eq_true rfl)
  rw [lg_entry_eq]
  generalize (lg_sl ([.int x0, .int x1, .int x2]) ++ List.replicate (3 - (lg_sl ([.int x0, .int x1, .int x2])).length) Slot.unset).toArray = ls at hl ⊢
  have hl : lv_has ls 3 [(0, .int x0), (1, .int x1), (2, .int x2)] := hl
  exact kX6_isInstruction_0 ⟨B.exec, B.bytes, B.returns, hml, findClass_of_methodNamed B.named, atoms_spec (ws := wsX6_isInstruction) B.pre, B.notSynchronized⟩ hK hJ  hP va_S.rf hl hp
theorem miX6_append_X6 : ∀ w ∈ u_ws RX6 TX6 5, w ∈ wsX6_append := by decide +kernel
theorem mwX6_append_0 : Cond.fieldLink RX6 22 "Triplane$Program" "size" "I" ∈ wsX6_append := by decide +kernel
theorem mwX6_append_1 : Cond.fieldLink RX6 9 "Triplane$Program" "kinds" "[C" ∈ wsX6_append := by decide +kernel
theorem mwX6_append_2 : Cond.fieldLink RX6 15 "Triplane$Program" "registers" "[I" ∈ wsX6_append := by decide +kernel
theorem mwX6_append_3 : Cond.fieldLink RX6 19 "Triplane$Program" "ns" "[I" ∈ wsX6_append := by decide +kernel
abbrev rmX6_append : Room := { frames := 0, cells := 0, slots := 0, locals := 0 }
def sX6_append_49 (c0 : Nat) (σ : TS) : Option (Int32 × TS) := some (σ (39+4*c0) 3, σ)
set_option maxHeartbeats 4000000 in
set_option maxRecDepth 100000 in
theorem kX6_append_49 {r : Int32} {u : TS} (C0 : gC RX6 cX6_append 4 ((some .int)) wsX6_append p s m args meth c) (hK : va_K D vwCl (tyL cy) s) (hJ : gJ 78 q) {H : Heap} {locs : List Loc} {σ : TS} {c0 : Nat} (hc0 : c0 < 3) (hP : va_P D vwCl (gS 78 q (TX cy q) σ) H) (hS : va_S (gA 78 q) s.heap H locs) {ls : Array Slot} (hl : lv_has ls 4 [(0, .ref (q (39+4*c0)))]) (hp : sX6_append_49 c0 σ = some (r, u)) : W p l e rmX6_append s m args below meth c H locs 0 0 (MQ below (gQi D vwCl r (gS 78 q (TX cy q) u) (gA 78 q)) args s 0 0 (gA 78 q)) (F0 m 49 ls []) := by
  obtain ⟨hx, hb, hr, hml, hown, hts, hlocks⟩ := id C0
  unfold sX6_append_49 at hp
  refine lv_aload_n hx hb dX6_append_49 rfl (lv_at hl 0 rfl) ?_
  refine g_get (v := .int (σ (39+4*c0) 3)) hx hb hts miX6_append_X6 hown hK hP (kk_Prog hc0) (ce_Prog hc0) rfl 3 (by decide) mwX6_append_0 rfl dX6_append_50 ?_
  obtain ⟨rfl, rfl⟩ := o_r hp
  exact W.iret (v := σ (39+4*c0) 3) hx hb hr (fun t ht hW => ⟨⟨σ (39+4*c0) 3, (), rfl, rfl, by subst ht; exact hP⟩, hS.F ht⟩) hS.2.2 dX6_append_53
def sX6_append_0 (c0 : Nat) (x1 : Int32) (x2 : Int32) (x3 : Int32) (σ : TS) : Option (Int32 × TS) := (if ((10 : Int32)) ≤ (σ (39+4*c0) 3) then sX6_append_49 c0 σ else (if vin (σ (39+4*c0) 3) 10 = true then (if vin ((st2 σ (40+4*c0) ((σ (39+4*c0) 3).toNatClampNeg) (vp_nar .char x1)) (39+4*c0) 3) 10 = true then (if vin ((st2 (st2 σ (40+4*c0) ((σ (39+4*c0) 3).toNatClampNeg) (vp_nar .char x1)) (41+4*c0) (((st2 σ (40+4*c0) ((σ (39+4*c0) 3).toNatClampNeg) (vp_nar .char x1)) (39+4*c0) 3).toNatClampNeg) x2) (39+4*c0) 3) 10 = true then sX6_append_49 c0 (st2 (st2 (st2 (st2 σ (40+4*c0) ((σ (39+4*c0) 3).toNatClampNeg) (vp_nar .char x1)) (41+4*c0) (((st2 σ (40+4*c0) ((σ (39+4*c0) 3).toNatClampNeg) (vp_nar .char x1)) (39+4*c0) 3).toNatClampNeg) x2) (42+4*c0) (((st2 (st2 σ (40+4*c0) ((σ (39+4*c0) 3).toNatClampNeg) (vp_nar .char x1)) (41+4*c0) (((st2 σ (40+4*c0) ((σ (39+4*c0) 3).toNatClampNeg) (vp_nar .char x1)) (39+4*c0) 3).toNatClampNeg) x2) (39+4*c0) 3).toNatClampNeg) x3) (39+4*c0) 3 (((st2 (st2 (st2 σ (40+4*c0) ((σ (39+4*c0) 3).toNatClampNeg) (vp_nar .char x1)) (41+4*c0) (((st2 σ (40+4*c0) ((σ (39+4*c0) 3).toNatClampNeg) (vp_nar .char x1)) (39+4*c0) 3).toNatClampNeg) x2) (42+4*c0) (((st2 (st2 σ (40+4*c0) ((σ (39+4*c0) 3).toNatClampNeg) (vp_nar .char x1)) (41+4*c0) (((st2 σ (40+4*c0) ((σ (39+4*c0) 3).toNatClampNeg) (vp_nar .char x1)) (39+4*c0) 3).toNatClampNeg) x2) (39+4*c0) 3).toNatClampNeg) x3) (39+4*c0) 3) + ((1 : Int32)))) else none) else none) else none))
set_option maxHeartbeats 4000000 in
set_option maxRecDepth 100000 in
theorem kX6_append_0 {r : Int32} {u : TS} (C0 : gC RX6 cX6_append 4 ((some .int)) wsX6_append p s m args meth c) (hK : va_K D vwCl (tyL cy) s) (hJ : gJ 78 q) {H : Heap} {locs : List Loc} {σ : TS} {c0 : Nat} {x1 : Int32} {x2 : Int32} {x3 : Int32} (hc0 : c0 < 3) (hP : va_P D vwCl (gS 78 q (TX cy q) σ) H) (hS : va_S (gA 78 q) s.heap H locs) {ls : Array Slot} (hl : lv_has ls 4 [(0, .ref (q (39+4*c0))), (1, .int x1), (2, .int x2), (3, .int x3)]) (hp : sX6_append_0 c0 x1 x2 x3 σ = some (r, u)) : W p l e rmX6_append s m args below meth c H locs 0 0 (MQ below (gQi D vwCl r (gS 78 q (TX cy q) u) (gA 78 q)) args s 0 0 (gA 78 q)) (F0 m 0 ls []) := by
  obtain ⟨hx, hb, hr, hml, hown, hts, hlocks⟩ := id C0
  unfold sX6_append_0 at hp
  refine lv_aload_n hx hb dX6_append_0 rfl (lv_at hl 0 rfl) ?_
  refine g_get (v := .int (σ (39+4*c0) 3)) hx hb hts miX6_append_X6 hown hK hP (kk_Prog hc0) (ce_Prog hc0) rfl 3 (by decide) mwX6_append_0 rfl dX6_append_1 ?_
  refine lv_bipush (v := (10 : Int32)) hx hb dX6_append_4 (by decide) ?_
  refine lv_icmp_ge (tgt := 49) hx hb dX6_append_6 (by decide) (fun hcd1 => ?_) (fun hcd1 => ?_)
  · have hp := o_t hp hcd1
    exact kX6_append_49 C0 hK hJ hc0 hP hS (lv_sub hl [0] rfl) hp
  · have hp := o_f hp hcd1
    refine lv_aload_n hx hb dX6_append_9 rfl (lv_at hl 0 rfl) ?_
    refine g_get (v := .ref (q (40+4*c0))) hx hb hts miX6_append_X6 hown hK hP (kk_Prog hc0) (ce_Prog hc0) rfl 0 (by decide) mwX6_append_1 rfl dX6_append_10 ?_
    refine lv_aload_n hx hb dX6_append_13 rfl (lv_at hl 0 rfl) ?_
    refine g_get (v := .int (σ (39+4*c0) 3)) hx hb hts miX6_append_X6 hown hK hP (kk_Prog hc0) (ce_Prog hc0) rfl 3 (by decide) mwX6_append_0 rfl dX6_append_14 ?_
    refine lv_iload_n hx hb dX6_append_17 rfl (lv_at hl 1 rfl) ?_
    obtain ⟨hi2, hp⟩ := o_chk hp
    refine g_cast (j := (σ (39+4*c0) 3).toNatClampNeg) hx hb hK hJ hP hS (kk_PK hc0) (ce_PK hc0) 2 rfl (vin_of hi2) rfl dX6_append_18 (fun H locs hP hS => ?_)
    refine lv_aload_n hx hb dX6_append_19 rfl (lv_at hl 0 rfl) ?_
    refine g_get (v := .ref (q (41+4*c0))) hx hb hts miX6_append_X6 hown hK hP (kk_Prog hc0) (ce_Prog hc0) rfl 1 (by decide) mwX6_append_2 rfl dX6_append_20 ?_
    refine lv_aload_n hx hb dX6_append_23 rfl (lv_at hl 0 rfl) ?_
    refine g_get (v := .int ((st2 σ (40+4*c0) ((σ (39+4*c0) 3).toNatClampNeg) (vp_nar .char x1)) (39+4*c0) 3)) hx hb hts miX6_append_X6 hown hK hP (kk_Prog hc0) (ce_Prog hc0) rfl 3 (by decide) mwX6_append_0 rfl dX6_append_24 ?_
    refine lv_iload_n hx hb dX6_append_27 rfl (lv_at hl 2 rfl) ?_
    obtain ⟨hi3, hp⟩ := o_chk hp
    refine g_iast (j := ((st2 σ (40+4*c0) ((σ (39+4*c0) 3).toNatClampNeg) (vp_nar .char x1)) (39+4*c0) 3).toNatClampNeg) hx hb hK hJ hP hS (kk_PR hc0) (ce_PR hc0) 0 rfl (vin_of hi3) rfl dX6_append_28 (fun H locs hP hS => ?_)
    refine lv_aload_n hx hb dX6_append_29 rfl (lv_at hl 0 rfl) ?_
    refine g_get (v := .ref (q (42+4*c0))) hx hb hts miX6_append_X6 hown hK hP (kk_Prog hc0) (ce_Prog hc0) rfl 2 (by decide) mwX6_append_3 rfl dX6_append_30 ?_
    refine lv_aload_n hx hb dX6_append_33 rfl (lv_at hl 0 rfl) ?_
    refine g_get (v := .int ((st2 (st2 σ (40+4*c0) ((σ (39+4*c0) 3).toNatClampNeg) (vp_nar .char x1)) (41+4*c0) (((st2 σ (40+4*c0) ((σ (39+4*c0) 3).toNatClampNeg) (vp_nar .char x1)) (39+4*c0) 3).toNatClampNeg) x2) (39+4*c0) 3)) hx hb hts miX6_append_X6 hown hK hP (kk_Prog hc0) (ce_Prog hc0) rfl 3 (by decide) mwX6_append_0 rfl dX6_append_34 ?_
    refine lv_iload_n hx hb dX6_append_37 rfl (lv_at hl 3 rfl) ?_
    obtain ⟨hi4, hp⟩ := o_chk hp
    refine g_iast (j := ((st2 (st2 σ (40+4*c0) ((σ (39+4*c0) 3).toNatClampNeg) (vp_nar .char x1)) (41+4*c0) (((st2 σ (40+4*c0) ((σ (39+4*c0) 3).toNatClampNeg) (vp_nar .char x1)) (39+4*c0) 3).toNatClampNeg) x2) (39+4*c0) 3).toNatClampNeg) hx hb hK hJ hP hS (kk_PN hc0) (ce_PN hc0) 0 rfl (vin_of hi4) rfl dX6_append_38 (fun H locs hP hS => ?_)
    refine lv_aload_n hx hb dX6_append_39 rfl (lv_at hl 0 rfl) ?_
    refine lv_dup hx hb dX6_append_40 rfl ?_
    refine g_get (v := .int ((st2 (st2 (st2 σ (40+4*c0) ((σ (39+4*c0) 3).toNatClampNeg) (vp_nar .char x1)) (41+4*c0) (((st2 σ (40+4*c0) ((σ (39+4*c0) 3).toNatClampNeg) (vp_nar .char x1)) (39+4*c0) 3).toNatClampNeg) x2) (42+4*c0) (((st2 (st2 σ (40+4*c0) ((σ (39+4*c0) 3).toNatClampNeg) (vp_nar .char x1)) (41+4*c0) (((st2 σ (40+4*c0) ((σ (39+4*c0) 3).toNatClampNeg) (vp_nar .char x1)) (39+4*c0) 3).toNatClampNeg) x2) (39+4*c0) 3).toNatClampNeg) x3) (39+4*c0) 3)) hx hb hts miX6_append_X6 hown hK hP (kk_Prog hc0) (ce_Prog hc0) rfl 3 (by decide) mwX6_append_0 rfl dX6_append_41 ?_
    refine lv_iconst (v := (1 : Int32)) hx hb dX6_append_44 (by decide) ?_
    refine lv_iadd hx hb dX6_append_45 ?_
    refine g_put (v := ((st2 (st2 (st2 σ (40+4*c0) ((σ (39+4*c0) 3).toNatClampNeg) (vp_nar .char x1)) (41+4*c0) (((st2 σ (40+4*c0) ((σ (39+4*c0) 3).toNatClampNeg) (vp_nar .char x1)) (39+4*c0) 3).toNatClampNeg) x2) (42+4*c0) (((st2 (st2 σ (40+4*c0) ((σ (39+4*c0) 3).toNatClampNeg) (vp_nar .char x1)) (41+4*c0) (((st2 σ (40+4*c0) ((σ (39+4*c0) 3).toNatClampNeg) (vp_nar .char x1)) (39+4*c0) 3).toNatClampNeg) x2) (39+4*c0) 3).toNatClampNeg) x3) (39+4*c0) 3) + ((1 : Int32))) hx hb hts miX6_append_X6 tyX6 tyX6_ok nmX6 hown hK hJ hP hS (kk_Prog hc0) (ce_Prog hc0) rfl 3 (by decide) mwX6_append_0 rfl rfl rfl (Nat.le_of_ble_eq_true rfl) rfl dX6_append_46 (fun H locs hP hS => ?_)
    exact kX6_append_49 C0 hK hJ hc0 hP hS (lv_sub hl [0] rfl) hp
def sX6_append (c0 : Nat) (x1 : Int32) (x2 : Int32) (x3 : Int32) (σ : TS) : Option (Int32 × TS) := sX6_append_0 c0 x1 x2 x3 σ
theorem nVX6_append : yX6_append.cls = RX6 ∧ yX6_append.cls ≠ "java/lang/invoke/MethodHandle" ∧ yX6_append.cls ≠ "java/lang/invoke/VarHandle" ∧ (parseMethodDescriptor yX6_append.desc).map (fun d => d.parameters.length) = some 3 := by decide +kernel
set_option maxHeartbeats 4000000 in
set_option maxRecDepth 100000 in
theorem mX6_append (l : Launch) (hJ : gJ 78 q) {c0 : Nat} {x1 : Int32} {x2 : Int32} {x3 : Int32} (hc0 : c0 < 3) {σ : TS} {r : Int32} {u : TS} (hp : sX6_append c0 x1 x2 x3 σ = some (r, u)) : Met l yX6_append wsX6_append rmX6_append (va_Pc [.ref (q (39+4*c0)), .int x1, .int x2, .int x3] (gPre D vwCl (tyL cy) (gS 78 q (TX cy q) σ))) (gQi D vwCl r (gS 78 q (TX cy q) u) (gA 78 q)) 0 0 (gA 78 q) := by
  refine Met.ofW (cc := cX6_append) (maxL := 4) (ret := (some .int)) (by decide +kernel) rfl ?_
  intro p e s m args below meth c s₁ B hml hv
  obtain ⟨rfl, hP, hK⟩ := hv
  have hl := lv_entry ([.ref (q (39+4*c0)), .int x1, .int x2, .int x3]) (n := 4) (Nat.le_of_ble_eq_true rfl)
  rw [lg_entry_eq]
  generalize (lg_sl ([.ref (q (39+4*c0)), .int x1, .int x2, .int x3]) ++ List.replicate (4 - (lg_sl ([.ref (q (39+4*c0)), .int x1, .int x2, .int x3])).length) Slot.unset).toArray = ls at hl ⊢
  have hl : lv_has ls 4 [(0, .ref (q (39+4*c0))), (1, .int x1), (2, .int x2), (3, .int x3)] := hl
  exact kX6_append_0 ⟨B.exec, B.bytes, B.returns, hml, findClass_of_methodNamed B.named, atoms_spec (ws := wsX6_append) B.pre, B.notSynchronized⟩ hK hJ hc0 hP va_S.rf hl hp
theorem miX7_agree_X7 : ∀ w ∈ u_ws RX7 TX7 4, w ∈ wsX7_agree := by decide +kernel
theorem mwX7_agree_0 : Cond.fieldLink RX7 9 "Triplane$Sensor" "middle" "I" ∈ wsX7_agree := by decide +kernel
theorem mwX7_agree_1 : Cond.fieldLink RX7 18 "Triplane$Sensor" "agreedNumber" "I" ∈ wsX7_agree := by decide +kernel
theorem mwX7_agree_2 : Cond.fieldLink RX7 21 "Triplane$Sensor" "framesFar" "I" ∈ wsX7_agree := by decide +kernel
theorem mwX7_agree_3 : Cond.methodLink RX7 24 Lib.Math.abs.name ∈ wsX7_agree := by decide +kernel
theorem mwX7_agree_4 : Cond.static Lib.Math.abs.name ∈ wsX7_agree := by decide +kernel
theorem mwX7_agree_5 : Cond.initialized "java/lang/Math" ∈ wsX7_agree := by decide +kernel
theorem mwX7_agree_6 : Cond.code Lib.Math.abs.name Lib.Math.abs.code 1 (some .int) ∈ wsX7_agree := by decide +kernel
theorem mwX7_agree_7 : Cond.fieldLink RX7 15 "Triplane$Sensor" "farthest" "I" ∈ wsX7_agree := by decide +kernel
abbrev rmX7_agree : Room := { frames := 1, cells := 0, slots := 0, locals := 21 }
def sX7_agree_68 (σ : TS) : Option (Int32 × TS) := some (0, σ)
set_option maxHeartbeats 4000000 in
set_option maxRecDepth 100000 in
theorem kX7_agree_68 {r : Int32} {u : TS} (C0 : gC RX7 cX7_agree 2 none wsX7_agree p s m args meth c) (hK : va_K D vwCl (tyL cy) s) (hJ : gJ 78 q) {H : Heap} {locs : List Loc} {σ : TS} (hP : va_P D vwCl (gS 78 q (TX cy q) σ) H) (hS : va_S (gA 78 q) s.heap H locs) {ls : Array Slot} (hl : lv_has ls 2 []) (hp : sX7_agree_68 σ = some (r, u)) : W p l e rmX7_agree s m args below meth c H locs 0 0 (MQ below (gQv D vwCl (gS 78 q (TX cy q) u) (gA 78 q)) args s 0 0 (gA 78 q)) (F0 m 68 ls []) := by
  obtain ⟨hx, hb, hr, hml, hown, hts, hlocks⟩ := id C0
  unfold sX7_agree_68 at hp
  obtain ⟨rfl, rfl⟩ := o_r hp
  exact W.vret hx hb hr (fun t ht hW => ⟨⟨(), rfl, trivial, by subst ht; exact hP⟩, hS.F ht⟩) hS.2.2 dX7_agree_68
def sX7_agree_55 (c0 : Nat) (σ : TS) : Option (Int32 × TS) := sX7_agree_68 (st2 (st2 σ (66+c0) 2 (σ (66+c0) 0)) (66+c0) 3 ((0 : Int32)))
set_option maxHeartbeats 4000000 in
set_option maxRecDepth 100000 in
theorem kX7_agree_55 {r : Int32} {u : TS} (C0 : gC RX7 cX7_agree 2 none wsX7_agree p s m args meth c) (hK : va_K D vwCl (tyL cy) s) (hJ : gJ 78 q) {H : Heap} {locs : List Loc} {σ : TS} {c0 : Nat} (hc0 : c0 < 4) (hP : va_P D vwCl (gS 78 q (TX cy q) σ) H) (hS : va_S (gA 78 q) s.heap H locs) {ls : Array Slot} (hl : lv_has ls 2 [(0, .ref (q (66+c0)))]) (hp : sX7_agree_55 c0 σ = some (r, u)) : W p l e rmX7_agree s m args below meth c H locs 0 0 (MQ below (gQv D vwCl (gS 78 q (TX cy q) u) (gA 78 q)) args s 0 0 (gA 78 q)) (F0 m 55 ls []) := by
  obtain ⟨hx, hb, hr, hml, hown, hts, hlocks⟩ := id C0
  unfold sX7_agree_55 at hp
  refine lv_aload_n hx hb dX7_agree_55 rfl (lv_at hl 0 rfl) ?_
  refine lv_aload_n hx hb dX7_agree_56 rfl (lv_at hl 0 rfl) ?_
  refine g_get (v := .int (σ (66+c0) 0)) hx hb hts miX7_agree_X7 hown hK hP (kk_Sens hc0) (ce_Sens hc0) rfl 0 (by decide) mwX7_agree_0 rfl dX7_agree_57 ?_
  refine g_put (v := σ (66+c0) 0) hx hb hts miX7_agree_X7 tyX7 tyX7_ok nmX7 hown hK hJ hP hS (kk_Sens hc0) (ce_Sens hc0) rfl 2 (by decide) mwX7_agree_1 rfl rfl rfl (Nat.le_of_ble_eq_true rfl) rfl dX7_agree_60 (fun H locs hP hS => ?_)
  refine lv_aload_n hx hb dX7_agree_63 rfl (lv_at hl 0 rfl) ?_
  refine lv_iconst (v := (0 : Int32)) hx hb dX7_agree_64 (by decide) ?_
  refine g_put (v := (0 : Int32)) hx hb hts miX7_agree_X7 tyX7 tyX7_ok nmX7 hown hK hJ hP hS (kk_Sens hc0) (ce_Sens hc0) rfl 3 (by decide) mwX7_agree_2 rfl rfl rfl (Nat.le_of_ble_eq_true rfl) rfl dX7_agree_65 (fun H locs hP hS => ?_)
  exact kX7_agree_68 C0 hK hJ  hP hS (lv_sub hl [] rfl) hp
def sX7_agree_40 (c0 : Nat) (d0 : Nat) (x1 : Int32) (sx1 : Int32) (σ : TS) : Option (Int32 × TS) := (if x1 = 0 then sX7_agree_55 c0 (st2 σ (66+d0) 3 sx1) else (if ((st2 σ (66+d0) 3 sx1) (66+c0) 3) < ((3 : Int32)) then sX7_agree_68 (st2 σ (66+d0) 3 sx1) else sX7_agree_55 c0 (st2 σ (66+d0) 3 sx1)))
set_option maxHeartbeats 4000000 in
set_option maxRecDepth 100000 in
theorem kX7_agree_40 {r : Int32} {u : TS} (C0 : gC RX7 cX7_agree 2 none wsX7_agree p s m args meth c) (hK : va_K D vwCl (tyL cy) s) (hJ : gJ 78 q) {H : Heap} {locs : List Loc} {σ : TS} {c0 : Nat} {d0 : Nat} {x1 : Int32} {sx1 : Int32} (hc0 : c0 < 4) (hd0 : d0 < 4) (hP : va_P D vwCl (gS 78 q (TX cy q) σ) H) (hS : va_S (gA 78 q) s.heap H locs) {ls : Array Slot} (hl : lv_has ls 2 [(0, .ref (q (66+c0))), (1, .int x1)]) (hp : sX7_agree_40 c0 d0 x1 sx1 σ = some (r, u)) : W p l e rmX7_agree s m args below meth c H locs 0 0 (MQ below (gQv D vwCl (gS 78 q (TX cy q) u) (gA 78 q)) args s 0 0 (gA 78 q)) (F0 m 40 ls [.int sx1, .ref (q (66+d0))]) := by
  obtain ⟨hx, hb, hr, hml, hown, hts, hlocks⟩ := id C0
  unfold sX7_agree_40 at hp
  refine g_put (v := sx1) hx hb hts miX7_agree_X7 tyX7 tyX7_ok nmX7 hown hK hJ hP hS (kk_Sens hd0) (ce_Sens hd0) rfl 3 (by decide) mwX7_agree_2 rfl rfl rfl (Nat.le_of_ble_eq_true rfl) rfl dX7_agree_40 (fun H locs hP hS => ?_)
  refine lv_iload_n hx hb dX7_agree_43 rfl (lv_at hl 1 rfl) ?_
  refine lv_if_eq (tgt := 55) hx hb dX7_agree_44 (by decide) (fun hcd1 => ?_) (fun hcd1 => ?_)
  · have hp := o_t hp hcd1
    exact kX7_agree_55 C0 hK hJ hc0 hP hS (lv_sub hl [0] rfl) hp
  · have hp := o_f hp hcd1
    refine lv_aload_n hx hb dX7_agree_47 rfl (lv_at hl 0 rfl) ?_
    refine g_get (v := .int ((st2 σ (66+d0) 3 sx1) (66+c0) 3)) hx hb hts miX7_agree_X7 hown hK hP (kk_Sens hc0) (ce_Sens hc0) rfl 3 (by decide) mwX7_agree_2 rfl dX7_agree_48 ?_
    refine lv_iconst (v := (3 : Int32)) hx hb dX7_agree_51 (by decide) ?_
    refine lv_icmp_lt (tgt := 68) hx hb dX7_agree_52 (by decide) (fun hcd2 => ?_) (fun hcd2 => ?_)
    · have hp := o_t hp hcd2
      exact kX7_agree_68 C0 hK hJ  hP hS (lv_sub hl [] rfl) hp
    · have hp := o_f hp hcd2
      exact kX7_agree_55 C0 hK hJ hc0 hP hS (lv_sub hl [0] rfl) hp
def sX7_agree_24 (c0 : Nat) (sx0 : Int32) (σ : TS) : Option (Int32 × TS) := (if sx0 = 0 then sX7_agree_40 c0 c0 sx0 ((0 : Int32)) σ else sX7_agree_40 c0 c0 sx0 ((σ (66+c0) 3) + ((1 : Int32))) σ)
set_option maxHeartbeats 4000000 in
set_option maxRecDepth 100000 in
theorem kX7_agree_24 {r : Int32} {u : TS} (C0 : gC RX7 cX7_agree 2 none wsX7_agree p s m args meth c) (hK : va_K D vwCl (tyL cy) s) (hJ : gJ 78 q) {H : Heap} {locs : List Loc} {σ : TS} {c0 : Nat} {sx0 : Int32} (hc0 : c0 < 4) (hP : va_P D vwCl (gS 78 q (TX cy q) σ) H) (hS : va_S (gA 78 q) s.heap H locs) {ls : Array Slot} (hl : lv_has ls 2 [(0, .ref (q (66+c0)))]) (hp : sX7_agree_24 c0 sx0 σ = some (r, u)) : W p l e rmX7_agree s m args below meth c H locs 0 0 (MQ below (gQv D vwCl (gS 78 q (TX cy q) u) (gA 78 q)) args s 0 0 (gA 78 q)) (F0 m 24 ls [.int sx0]) := by
  obtain ⟨hx, hb, hr, hml, hown, hts, hlocks⟩ := id C0
  unfold sX7_agree_24 at hp
  refine lv_istore_n (lv' := [(1, .int sx0), (0, .ref (q (66+c0)))]) hx hb dX7_agree_24 rfl hl (by decide) rfl (fun ls hl => ?_)
  refine lv_aload_n hx hb dX7_agree_25 rfl (lv_at hl 1 rfl) ?_
  refine lv_iload_n hx hb dX7_agree_26 rfl (lv_at hl 0 rfl) ?_
  refine lv_if_eq (tgt := 39) hx hb dX7_agree_27 (by decide) (fun hcd3 => ?_) (fun hcd3 => ?_)
  · have hp := o_t hp hcd3
    refine lv_iconst (v := (0 : Int32)) hx hb dX7_agree_39 (by decide) ?_
    exact kX7_agree_40 C0 hK hJ hc0 hc0 hP hS (lv_sub hl [1, 0] rfl) hp
  · have hp := o_f hp hcd3
    refine lv_aload_n hx hb dX7_agree_30 rfl (lv_at hl 1 rfl) ?_
    refine g_get (v := .int (σ (66+c0) 3)) hx hb hts miX7_agree_X7 hown hK hP (kk_Sens hc0) (ce_Sens hc0) rfl 3 (by decide) mwX7_agree_2 rfl dX7_agree_31 ?_
    refine lv_iconst (v := (1 : Int32)) hx hb dX7_agree_34 (by decide) ?_
    refine lv_iadd hx hb dX7_agree_35 ?_
    refine lv_goto (tgt := 40) hx hb dX7_agree_36 (by decide) ?_
    exact kX7_agree_40 C0 hK hJ hc0 hc0 hP hS (lv_sub hl [1, 0] rfl) hp
def sX7_agree_0 (c0 : Nat) (σ : TS) : Option (Int32 × TS) := (if (if 0 ≤ ((σ (66+c0) 0) - (σ (66+c0) 2)) then ((σ (66+c0) 0) - (σ (66+c0) 2)) else 0 - ((σ (66+c0) 0) - (σ (66+c0) 2))) ≤ (σ (66+c0) 1) then sX7_agree_24 c0 ((0 : Int32)) σ else sX7_agree_24 c0 ((1 : Int32)) σ)
set_option maxHeartbeats 4000000 in
set_option maxRecDepth 100000 in
theorem kX7_agree_0 {r : Int32} {u : TS} (C0 : gC RX7 cX7_agree 2 none wsX7_agree p s m args meth c) (hK : va_K D vwCl (tyL cy) s) (hJ : gJ 78 q) {H : Heap} {locs : List Loc} {σ : TS} {c0 : Nat} (hc0 : c0 < 4) (hP : va_P D vwCl (gS 78 q (TX cy q) σ) H) (hS : va_S (gA 78 q) s.heap H locs) {ls : Array Slot} (hl : lv_has ls 2 [(0, .ref (q (66+c0)))]) (hp : sX7_agree_0 c0 σ = some (r, u)) : W p l e rmX7_agree s m args below meth c H locs 0 0 (MQ below (gQv D vwCl (gS 78 q (TX cy q) u) (gA 78 q)) args s 0 0 (gA 78 q)) (F0 m 0 ls []) := by
  obtain ⟨hx, hb, hr, hml, hown, hts, hlocks⟩ := id C0
  unfold sX7_agree_0 at hp
  refine lv_aload_n hx hb dX7_agree_0 rfl (lv_at hl 0 rfl) ?_
  refine g_get (v := .int (σ (66+c0) 0)) hx hb hts miX7_agree_X7 hown hK hP (kk_Sens hc0) (ce_Sens hc0) rfl 0 (by decide) mwX7_agree_0 rfl dX7_agree_1 ?_
  refine lv_aload_n hx hb dX7_agree_4 rfl (lv_at hl 0 rfl) ?_
  refine g_get (v := .int (σ (66+c0) 2)) hx hb hts miX7_agree_X7 hown hK hP (kk_Sens hc0) (ce_Sens hc0) rfl 2 (by decide) mwX7_agree_1 rfl dX7_agree_5 ?_
  refine lv_isub hx hb dX7_agree_8 ?_
  refine va_mabs hx hb (hml.trans hl.1.symm) hown (hts _ mwX7_agree_3) (hts _ mwX7_agree_4) (hts _ mwX7_agree_5) (hts _ mwX7_agree_6) (Nat.le_of_ble_eq_true rfl) (Nat.le_of_ble_eq_true rfl) (Nat.le_of_ble_eq_true rfl) (Nat.le_of_ble_eq_true rfl) dX7_agree_9 ?_
  refine lv_aload_n hx hb dX7_agree_12 rfl (lv_at hl 0 rfl) ?_
  refine g_get (v := .int (σ (66+c0) 1)) hx hb hts miX7_agree_X7 hown hK hP (kk_Sens hc0) (ce_Sens hc0) rfl 1 (by decide) mwX7_agree_7 rfl dX7_agree_13 ?_
  refine lv_icmp_le (tgt := 23) hx hb dX7_agree_16 (by decide) (fun hcd4 => ?_) (fun hcd4 => ?_)
  · have hp := o_t hp hcd4
    refine lv_iconst (v := (0 : Int32)) hx hb dX7_agree_23 (by decide) ?_
    exact kX7_agree_24 C0 hK hJ hc0 hP hS hl hp
  · have hp := o_f hp hcd4
    refine lv_iconst (v := (1 : Int32)) hx hb dX7_agree_19 (by decide) ?_
    refine lv_goto (tgt := 24) hx hb dX7_agree_20 (by decide) ?_
    exact kX7_agree_24 C0 hK hJ hc0 hP hS hl hp
def sX7_agree (c0 : Nat) (σ : TS) : Option (Int32 × TS) := sX7_agree_0 c0 σ
theorem nVX7_agree : yX7_agree.cls = RX7 ∧ yX7_agree.cls ≠ "java/lang/invoke/MethodHandle" ∧ yX7_agree.cls ≠ "java/lang/invoke/VarHandle" ∧ (parseMethodDescriptor yX7_agree.desc).map (fun d => d.parameters.length) = some 0 := by decide +kernel
set_option maxHeartbeats 4000000 in
set_option maxRecDepth 100000 in
theorem mX7_agree (l : Launch) (hJ : gJ 78 q) {c0 : Nat} (hc0 : c0 < 4) {σ : TS} {r : Int32} {u : TS} (hp : sX7_agree c0 σ = some (r, u)) : Met l yX7_agree wsX7_agree rmX7_agree (va_Pc [.ref (q (66+c0))] (gPre D vwCl (tyL cy) (gS 78 q (TX cy q) σ))) (gQv D vwCl (gS 78 q (TX cy q) u) (gA 78 q)) 0 0 (gA 78 q) := by
  refine Met.ofW (cc := cX7_agree) (maxL := 2) (ret := none) (by decide +kernel) rfl ?_
  intro p e s m args below meth c s₁ B hml hv
  obtain ⟨rfl, hP, hK⟩ := hv
  have hl := lv_entry ([.ref (q (66+c0))]) (n := 2) (Nat.le_of_ble_eq_true rfl)
  rw [lg_entry_eq]
  generalize (lg_sl ([.ref (q (66+c0))]) ++ List.replicate (2 - (lg_sl ([.ref (q (66+c0))])).length) Slot.unset).toArray = ls at hl ⊢
  have hl : lv_has ls 2 [(0, .ref (q (66+c0)))] := hl
  exact kX7_agree_0 ⟨B.exec, B.bytes, B.returns, hml, findClass_of_methodNamed B.named, atoms_spec (ws := wsX7_agree) B.pre, B.notSynchronized⟩ hK hJ hc0 hP va_S.rf hl hp
end

theorem mwarL_full : Cond.arrayClass .int ∈ wsL_full := by decide +kernel
set_option maxHeartbeats 4000000 in
set_option maxRecDepth 100000 in
theorem sgL_full_16 {p : Program} {l : Launch} {e : Env} {R : Room} {s : State} {m : MethodId} {args : Array Value} {below : List Frame} {meth : Method} {c : Code} {H : Heap} {locs : List Loc} {Q : State → Prop} {ls : Array Slot} {D : va_G} {cy : Nat → ClassId} {b L : Nat} {xs : Nat → Int32} {WO : va_W} {q : Nat → Nat} {σ u : TS} {z : Int32 ⊕ Nat} {C S : Nat} (F : lG p l s m args c cL_full 4 wsL_full D cy b L xs) (hP : va_P D vwCl (gS 78 q (TX cy q) σ ++ WO) H) (hD : va_D (fun a => s.heap.size ≤ a) (gS 78 q (TX cy q) σ ++ WO)) (hS : va_S (fun a => s.heap.size ≤ a) s.heap H locs) (hsz : ls.size = 4) (l1 : ls[1]? = some (.val (.ref (q 0)))) (hp : sX8_code ((0 : Int32)) (lchr ((106 : Int32))) ((0 : Int32)) ((9 : Int32)) σ = some (z, u)) (hz : okZ z) (hR : rmL_ask.frames + 1 ≤ R.frames ∧ 8 + (4 + 11) + rmL_ask.locals ≤ R.locals) (hC : C + 5 ≤ R.cells) (hSl : S + 28 ≤ R.slots) (kk : ∀ (H1 : Heap) (locs1 : List Loc), va_P D vwCl (gS 78 q (TX cy q) u ++ WO) H1 → va_D (fun a => s.heap.size ≤ a) (gS 78 q (TX cy q) u ++ WO) → va_S (fun a => s.heap.size ≤ a) s.heap H1 locs1 → W p l e R s m args below meth c H1 locs1 (C + 5) (S + 28) Q (F0 m 43 ls [.int (askR z)])) : W p l e R s m args below meth c H locs C S Q (F0 m 16 ls []) := by
  obtain ⟨hx, hb, hml, hown, hts, hK, hX, hNt, hlf, hN8, hXs, hbl⟩ := F
  refine lv_aload_n hx hb dL_full_16 rfl l1 ?_
  refine lv_bipush (v := (67 : Int32)) hx hb dL_full_17 (by decide) ?_
  refine lv_iconst (v := (4 : Int32)) hx hb dL_full_19 (by decide) ?_
  refine ar_new (N' := 4) hx hb (hts _ mwarL_full) hK hP hD hS (fun _ h => h) (by decide) rfl (Nat.le_of_ble_eq_true rfl) (by omega) (by omega) dL_full_20 (fun a H hP hD hS => ?_)
  refine lv_dup hx hb dL_full_22 rfl ?_
  refine lv_iconst (v := (0 : Int32)) hx hb dL_full_23 (by decide) ?_
  refine lv_iconst (v := (0 : Int32)) hx hb dL_full_24 (by decide) ?_
  refine ar_st (j := 0) hx hb hK hP hD hS (by decide) rfl dL_full_25 (fun H locs hP hD hS => ?_)
  refine lv_dup hx hb dL_full_26 rfl ?_
  refine lv_iconst (v := (1 : Int32)) hx hb dL_full_27 (by decide) ?_
  refine lv_bipush (v := (106 : Int32)) hx hb dL_full_28 (by decide) ?_
  refine ar_st (j := 1) hx hb hK hP hD hS (by decide) rfl dL_full_30 (fun H locs hP hD hS => ?_)
  refine lv_dup hx hb dL_full_31 rfl ?_
  refine lv_iconst (v := (2 : Int32)) hx hb dL_full_32 (by decide) ?_
  refine lv_iconst (v := (0 : Int32)) hx hb dL_full_33 (by decide) ?_
  refine ar_st (j := 2) hx hb hK hP hD hS (by decide) rfl dL_full_34 (fun H locs hP hD hS => ?_)
  refine lv_dup hx hb dL_full_35 rfl ?_
  refine lv_iconst (v := (3 : Int32)) hx hb dL_full_36 (by decide) ?_
  refine lv_bipush (v := (9 : Int32)) hx hb dL_full_37 (by decide) ?_
  refine ar_st (j := 3) hx hb hK hP hD hS (by decide) rfl dL_full_39 (fun H locs hP hD hS => ?_)
  refine ar_ask (As := [.ref (q 0), .int (67 : Int32), .ref a]) (rest := []) hx hb hml hown hts hK hX hNt hP hD hS (fun hJ ha => mL_ask_code l hlf hJ ha hp hz) (vx_cwSW 3 hts gL_full_L_ask rfl rfl rfl nVL_ask hR) rfl hsz rfl (Nat.le_of_ble_eq_true rfl) dL_full_40 ⟨by have := hR.1; omega, by have := hR.1; omega⟩ (fun H locs hP hD hS => ?_)
  refine W.widen (k := C + 5) (n := S + 28) (by omega) (by omega) ?_
  exact kk H locs hP hD hS
set_option maxHeartbeats 4000000 in
set_option maxRecDepth 100000 in
theorem sgL_full_63 {p : Program} {l : Launch} {e : Env} {R : Room} {s : State} {m : MethodId} {args : Array Value} {below : List Frame} {meth : Method} {c : Code} {H : Heap} {locs : List Loc} {Q : State → Prop} {ls : Array Slot} {D : va_G} {cy : Nat → ClassId} {b L : Nat} {xs : Nat → Int32} {WO : va_W} {q : Nat → Nat} {σ u : TS} {z : Int32 ⊕ Nat} {C S : Nat} (F : lG p l s m args c cL_full 4 wsL_full D cy b L xs) (hP : va_P D vwCl (gS 78 q (TX cy q) σ ++ WO) H) (hD : va_D (fun a => s.heap.size ≤ a) (gS 78 q (TX cy q) σ ++ WO)) (hS : va_S (fun a => s.heap.size ≤ a) s.heap H locs) (hsz : ls.size = 4) (l1 : ls[1]? = some (.val (.ref (q 0)))) (hp : sX8_code ((0 : Int32)) (lchr ((106 : Int32))) ((0 : Int32)) ((9 : Int32)) σ = some (z, u)) (hz : okZ z) (hR : rmL_ask.frames + 1 ≤ R.frames ∧ 8 + (4 + 11) + rmL_ask.locals ≤ R.locals) (hC : C + 5 ≤ R.cells) (hSl : S + 28 ≤ R.slots) (kk : ∀ (H1 : Heap) (locs1 : List Loc), va_P D vwCl (gS 78 q (TX cy q) u ++ WO) H1 → va_D (fun a => s.heap.size ≤ a) (gS 78 q (TX cy q) u ++ WO) → va_S (fun a => s.heap.size ≤ a) s.heap H1 locs1 → W p l e R s m args below meth c H1 locs1 (C + 5) (S + 28) Q (F0 m 90 ls [.int (askR z)])) : W p l e R s m args below meth c H locs C S Q (F0 m 63 ls []) := by
  obtain ⟨hx, hb, hml, hown, hts, hK, hX, hNt, hlf, hN8, hXs, hbl⟩ := F
  refine lv_aload_n hx hb dL_full_63 rfl l1 ?_
  refine lv_bipush (v := (67 : Int32)) hx hb dL_full_64 (by decide) ?_
  refine lv_iconst (v := (4 : Int32)) hx hb dL_full_66 (by decide) ?_
  refine ar_new (N' := 4) hx hb (hts _ mwarL_full) hK hP hD hS (fun _ h => h) (by decide) rfl (Nat.le_of_ble_eq_true rfl) (by omega) (by omega) dL_full_67 (fun a H hP hD hS => ?_)
  refine lv_dup hx hb dL_full_69 rfl ?_
  refine lv_iconst (v := (0 : Int32)) hx hb dL_full_70 (by decide) ?_
  refine lv_iconst (v := (0 : Int32)) hx hb dL_full_71 (by decide) ?_
  refine ar_st (j := 0) hx hb hK hP hD hS (by decide) rfl dL_full_72 (fun H locs hP hD hS => ?_)
  refine lv_dup hx hb dL_full_73 rfl ?_
  refine lv_iconst (v := (1 : Int32)) hx hb dL_full_74 (by decide) ?_
  refine lv_bipush (v := (106 : Int32)) hx hb dL_full_75 (by decide) ?_
  refine ar_st (j := 1) hx hb hK hP hD hS (by decide) rfl dL_full_77 (fun H locs hP hD hS => ?_)
  refine lv_dup hx hb dL_full_78 rfl ?_
  refine lv_iconst (v := (2 : Int32)) hx hb dL_full_79 (by decide) ?_
  refine lv_iconst (v := (0 : Int32)) hx hb dL_full_80 (by decide) ?_
  refine ar_st (j := 2) hx hb hK hP hD hS (by decide) rfl dL_full_81 (fun H locs hP hD hS => ?_)
  refine lv_dup hx hb dL_full_82 rfl ?_
  refine lv_iconst (v := (3 : Int32)) hx hb dL_full_83 (by decide) ?_
  refine lv_bipush (v := (9 : Int32)) hx hb dL_full_84 (by decide) ?_
  refine ar_st (j := 3) hx hb hK hP hD hS (by decide) rfl dL_full_86 (fun H locs hP hD hS => ?_)
  refine ar_ask (As := [.ref (q 0), .int (67 : Int32), .ref a]) (rest := []) hx hb hml hown hts hK hX hNt hP hD hS (fun hJ ha => mL_ask_code l hlf hJ ha hp hz) (vx_cwSW 3 hts gL_full_L_ask rfl rfl rfl nVL_ask hR) rfl hsz rfl (Nat.le_of_ble_eq_true rfl) dL_full_87 ⟨by have := hR.1; omega, by have := hR.1; omega⟩ (fun H locs hP hD hS => ?_)
  refine W.widen (k := C + 5) (n := S + 28) (by omega) (by omega) ?_
  exact kk H locs hP hD hS
set_option maxHeartbeats 4000000 in
set_option maxRecDepth 100000 in
theorem sgL_full_95 {p : Program} {l : Launch} {e : Env} {R : Room} {s : State} {m : MethodId} {args : Array Value} {below : List Frame} {meth : Method} {c : Code} {H : Heap} {locs : List Loc} {Q : State → Prop} {ls : Array Slot} {D : va_G} {cy : Nat → ClassId} {b L : Nat} {xs : Nat → Int32} {WO : va_W} {q : Nat → Nat} {σ u : TS} {z : Int32 ⊕ Nat} {C S : Nat} (F : lG p l s m args c cL_full 4 wsL_full D cy b L xs) (hP : va_P D vwCl (gS 78 q (TX cy q) σ ++ WO) H) (hD : va_D (fun a => s.heap.size ≤ a) (gS 78 q (TX cy q) σ ++ WO)) (hS : va_S (fun a => s.heap.size ≤ a) s.heap H locs) (hsz : ls.size = 4) (l1 : ls[1]? = some (.val (.ref (q 0)))) (hp : sX8_clear ((0 : Int32)) σ = some (z, u)) (hz : okZ z) (hR : rmL_ask.frames + 1 ≤ R.frames ∧ 8 + (4 + 11) + rmL_ask.locals ≤ R.locals) (hC : C + 5 ≤ R.cells) (hSl : S + 28 ≤ R.slots) (kk : ∀ (H1 : Heap) (locs1 : List Loc), va_P D vwCl (gS 78 q (TX cy q) u ++ WO) H1 → va_D (fun a => s.heap.size ≤ a) (gS 78 q (TX cy q) u ++ WO) → va_S (fun a => s.heap.size ≤ a) s.heap H1 locs1 → W p l e R s m args below meth c H1 locs1 (C + 5) (S + 28) Q (F0 m 108 ls [.int (askR z)])) : W p l e R s m args below meth c H locs C S Q (F0 m 95 ls []) := by
  obtain ⟨hx, hb, hml, hown, hts, hK, hX, hNt, hlf, hN8, hXs, hbl⟩ := F
  refine lv_aload_n hx hb dL_full_95 rfl l1 ?_
  refine lv_bipush (v := (99 : Int32)) hx hb dL_full_96 (by decide) ?_
  refine lv_iconst (v := (1 : Int32)) hx hb dL_full_98 (by decide) ?_
  refine ar_new (N' := 1) hx hb (hts _ mwarL_full) hK hP hD hS (fun _ h => h) (by decide) rfl (Nat.le_of_ble_eq_true rfl) (by omega) (by omega) dL_full_99 (fun a H hP hD hS => ?_)
  refine lv_dup hx hb dL_full_101 rfl ?_
  refine lv_iconst (v := (0 : Int32)) hx hb dL_full_102 (by decide) ?_
  refine lv_iconst (v := (0 : Int32)) hx hb dL_full_103 (by decide) ?_
  refine ar_st (j := 0) hx hb hK hP hD hS (by decide) rfl dL_full_104 (fun H locs hP hD hS => ?_)
  refine ar_ask (As := [.ref (q 0), .int (99 : Int32), .ref a]) (rest := []) hx hb hml hown hts hK hX hNt hP hD hS (fun hJ ha => mL_ask_clear l hlf hJ ha hp hz) (vx_cwSW 3 hts gL_full_L_ask rfl rfl rfl nVL_ask hR) rfl hsz rfl (Nat.le_of_ble_eq_true rfl) dL_full_105 ⟨by have := hR.1; omega, by have := hR.1; omega⟩ (fun H locs hP hD hS => ?_)
  refine W.widen (k := C + 5) (n := S + 28) (by omega) (by omega) ?_
  exact kk H locs hP hD hS
set_option maxHeartbeats 4000000 in
set_option maxRecDepth 100000 in
theorem sgL_full_113 {p : Program} {l : Launch} {e : Env} {R : Room} {s : State} {m : MethodId} {args : Array Value} {below : List Frame} {meth : Method} {c : Code} {H : Heap} {locs : List Loc} {Q : State → Prop} {ls : Array Slot} {D : va_G} {cy : Nat → ClassId} {b L : Nat} {xs : Nat → Int32} {WO : va_W} {q : Nat → Nat} {σ u : TS} {z : Int32 ⊕ Nat} {C S : Nat} (F : lG p l s m args c cL_full 4 wsL_full D cy b L xs) (hP : va_P D vwCl (gS 78 q (TX cy q) σ ++ WO) H) (hD : va_D (fun a => s.heap.size ≤ a) (gS 78 q (TX cy q) σ ++ WO)) (hS : va_S (fun a => s.heap.size ≤ a) s.heap H locs) (hsz : ls.size = 4) (l1 : ls[1]? = some (.val (.ref (q 0)))) (hp : sX8_clear ((0 : Int32)) σ = some (z, u)) (hz : okZ z) (hR : rmL_ask.frames + 1 ≤ R.frames ∧ 8 + (4 + 11) + rmL_ask.locals ≤ R.locals) (hC : C + 5 ≤ R.cells) (hSl : S + 28 ≤ R.slots) (kk : ∀ (H1 : Heap) (locs1 : List Loc), va_P D vwCl (gS 78 q (TX cy q) u ++ WO) H1 → va_D (fun a => s.heap.size ≤ a) (gS 78 q (TX cy q) u ++ WO) → va_S (fun a => s.heap.size ≤ a) s.heap H1 locs1 → W p l e R s m args below meth c H1 locs1 (C + 5) (S + 28) Q (F0 m 126 ls [.int (askR z)])) : W p l e R s m args below meth c H locs C S Q (F0 m 113 ls []) := by
  obtain ⟨hx, hb, hml, hown, hts, hK, hX, hNt, hlf, hN8, hXs, hbl⟩ := F
  refine lv_aload_n hx hb dL_full_113 rfl l1 ?_
  refine lv_bipush (v := (99 : Int32)) hx hb dL_full_114 (by decide) ?_
  refine lv_iconst (v := (1 : Int32)) hx hb dL_full_116 (by decide) ?_
  refine ar_new (N' := 1) hx hb (hts _ mwarL_full) hK hP hD hS (fun _ h => h) (by decide) rfl (Nat.le_of_ble_eq_true rfl) (by omega) (by omega) dL_full_117 (fun a H hP hD hS => ?_)
  refine lv_dup hx hb dL_full_119 rfl ?_
  refine lv_iconst (v := (0 : Int32)) hx hb dL_full_120 (by decide) ?_
  refine lv_iconst (v := (0 : Int32)) hx hb dL_full_121 (by decide) ?_
  refine ar_st (j := 0) hx hb hK hP hD hS (by decide) rfl dL_full_122 (fun H locs hP hD hS => ?_)
  refine ar_ask (As := [.ref (q 0), .int (99 : Int32), .ref a]) (rest := []) hx hb hml hown hts hK hX hNt hP hD hS (fun hJ ha => mL_ask_clear l hlf hJ ha hp hz) (vx_cwSW 3 hts gL_full_L_ask rfl rfl rfl nVL_ask hR) rfl hsz rfl (Nat.le_of_ble_eq_true rfl) dL_full_123 ⟨by have := hR.1; omega, by have := hR.1; omega⟩ (fun H locs hP hD hS => ?_)
  refine W.widen (k := C + 5) (n := S + 28) (by omega) (by omega) ?_
  exact kk H locs hP hD hS
set_option maxHeartbeats 4000000 in
set_option maxRecDepth 100000 in
theorem sgL_full_129 {p : Program} {l : Launch} {e : Env} {R : Room} {s : State} {m : MethodId} {args : Array Value} {below : List Frame} {meth : Method} {c : Code} {H : Heap} {locs : List Loc} {Q : State → Prop} {ls : Array Slot} {D : va_G} {cy : Nat → ClassId} {b L : Nat} {xs : Nat → Int32} {WO : va_W} {q : Nat → Nat} {σ u : TS} {z : Int32 ⊕ Nat} {C S : Nat} (F : lG p l s m args c cL_full 4 wsL_full D cy b L xs) (hP : va_P D vwCl (gS 78 q (TX cy q) σ ++ WO) H) (hD : va_D (fun a => s.heap.size ≤ a) (gS 78 q (TX cy q) σ ++ WO)) (hS : va_S (fun a => s.heap.size ≤ a) s.heap H locs) (hsz : ls.size = 4) (l2 : ls[2]? = some (.val (.ref (q 0)))) (hp : sX8_code ((1 : Int32)) (lchr ((108 : Int32))) ((0 : Int32)) ((1 : Int32)) σ = some (z, u)) (hz : okZ z) (hR : rmL_ask.frames + 1 ≤ R.frames ∧ 8 + (4 + 11) + rmL_ask.locals ≤ R.locals) (hC : C + 5 ≤ R.cells) (hSl : S + 28 ≤ R.slots) (kk : ∀ (H1 : Heap) (locs1 : List Loc), va_P D vwCl (gS 78 q (TX cy q) u ++ WO) H1 → va_D (fun a => s.heap.size ≤ a) (gS 78 q (TX cy q) u ++ WO) → va_S (fun a => s.heap.size ≤ a) s.heap H1 locs1 → W p l e R s m args below meth c H1 locs1 (C + 5) (S + 28) Q (F0 m 155 ls [.int (askR z)])) : W p l e R s m args below meth c H locs C S Q (F0 m 129 ls []) := by
  obtain ⟨hx, hb, hml, hown, hts, hK, hX, hNt, hlf, hN8, hXs, hbl⟩ := F
  refine lv_aload_n hx hb dL_full_129 rfl l2 ?_
  refine lv_bipush (v := (67 : Int32)) hx hb dL_full_130 (by decide) ?_
  refine lv_iconst (v := (4 : Int32)) hx hb dL_full_132 (by decide) ?_
  refine ar_new (N' := 4) hx hb (hts _ mwarL_full) hK hP hD hS (fun _ h => h) (by decide) rfl (Nat.le_of_ble_eq_true rfl) (by omega) (by omega) dL_full_133 (fun a H hP hD hS => ?_)
  refine lv_dup hx hb dL_full_135 rfl ?_
  refine lv_iconst (v := (0 : Int32)) hx hb dL_full_136 (by decide) ?_
  refine lv_iconst (v := (1 : Int32)) hx hb dL_full_137 (by decide) ?_
  refine ar_st (j := 0) hx hb hK hP hD hS (by decide) rfl dL_full_138 (fun H locs hP hD hS => ?_)
  refine lv_dup hx hb dL_full_139 rfl ?_
  refine lv_iconst (v := (1 : Int32)) hx hb dL_full_140 (by decide) ?_
  refine lv_bipush (v := (108 : Int32)) hx hb dL_full_141 (by decide) ?_
  refine ar_st (j := 1) hx hb hK hP hD hS (by decide) rfl dL_full_143 (fun H locs hP hD hS => ?_)
  refine lv_dup hx hb dL_full_144 rfl ?_
  refine lv_iconst (v := (2 : Int32)) hx hb dL_full_145 (by decide) ?_
  refine lv_iconst (v := (0 : Int32)) hx hb dL_full_146 (by decide) ?_
  refine ar_st (j := 2) hx hb hK hP hD hS (by decide) rfl dL_full_147 (fun H locs hP hD hS => ?_)
  refine lv_dup hx hb dL_full_148 rfl ?_
  refine lv_iconst (v := (3 : Int32)) hx hb dL_full_149 (by decide) ?_
  refine lv_iconst (v := (1 : Int32)) hx hb dL_full_150 (by decide) ?_
  refine ar_st (j := 3) hx hb hK hP hD hS (by decide) rfl dL_full_151 (fun H locs hP hD hS => ?_)
  refine ar_ask (As := [.ref (q 0), .int (67 : Int32), .ref a]) (rest := []) hx hb hml hown hts hK hX hNt hP hD hS (fun hJ ha => mL_ask_code l hlf hJ ha hp hz) (vx_cwSW 3 hts gL_full_L_ask rfl rfl rfl nVL_ask hR) rfl hsz rfl (Nat.le_of_ble_eq_true rfl) dL_full_152 ⟨by have := hR.1; omega, by have := hR.1; omega⟩ (fun H locs hP hD hS => ?_)
  refine W.widen (k := C + 5) (n := S + 28) (by omega) (by omega) ?_
  exact kk H locs hP hD hS
set_option maxHeartbeats 4000000 in
set_option maxRecDepth 100000 in
theorem sgL_full_159 {p : Program} {l : Launch} {e : Env} {R : Room} {s : State} {m : MethodId} {args : Array Value} {below : List Frame} {meth : Method} {c : Code} {H : Heap} {locs : List Loc} {Q : State → Prop} {ls : Array Slot} {D : va_G} {cy : Nat → ClassId} {b L : Nat} {xs : Nat → Int32} {WO : va_W} {q : Nat → Nat} {σ u : TS} {z : Int32 ⊕ Nat} {C S : Nat} (F : lG p l s m args c cL_full 4 wsL_full D cy b L xs) (hP : va_P D vwCl (gS 78 q (TX cy q) σ ++ WO) H) (hD : va_D (fun a => s.heap.size ≤ a) (gS 78 q (TX cy q) σ ++ WO)) (hS : va_S (fun a => s.heap.size ≤ a) s.heap H locs) (hsz : ls.size = 4) (l2 : ls[2]? = some (.val (.ref (q 0)))) (hp : sX8_code ((1 : Int32)) (lchr ((106 : Int32))) ((0 : Int32)) ((0 : Int32)) σ = some (z, u)) (hz : okZ z) (hR : rmL_ask.frames + 1 ≤ R.frames ∧ 8 + (4 + 11) + rmL_ask.locals ≤ R.locals) (hC : C + 5 ≤ R.cells) (hSl : S + 28 ≤ R.slots) (kk : ∀ (H1 : Heap) (locs1 : List Loc), va_P D vwCl (gS 78 q (TX cy q) u ++ WO) H1 → va_D (fun a => s.heap.size ≤ a) (gS 78 q (TX cy q) u ++ WO) → va_S (fun a => s.heap.size ≤ a) s.heap H1 locs1 → W p l e R s m args below meth c H1 locs1 (C + 5) (S + 28) Q (F0 m 185 ls [.int (askR z)])) : W p l e R s m args below meth c H locs C S Q (F0 m 159 ls []) := by
  obtain ⟨hx, hb, hml, hown, hts, hK, hX, hNt, hlf, hN8, hXs, hbl⟩ := F
  refine lv_aload_n hx hb dL_full_159 rfl l2 ?_
  refine lv_bipush (v := (67 : Int32)) hx hb dL_full_160 (by decide) ?_
  refine lv_iconst (v := (4 : Int32)) hx hb dL_full_162 (by decide) ?_
  refine ar_new (N' := 4) hx hb (hts _ mwarL_full) hK hP hD hS (fun _ h => h) (by decide) rfl (Nat.le_of_ble_eq_true rfl) (by omega) (by omega) dL_full_163 (fun a H hP hD hS => ?_)
  refine lv_dup hx hb dL_full_165 rfl ?_
  refine lv_iconst (v := (0 : Int32)) hx hb dL_full_166 (by decide) ?_
  refine lv_iconst (v := (1 : Int32)) hx hb dL_full_167 (by decide) ?_
  refine ar_st (j := 0) hx hb hK hP hD hS (by decide) rfl dL_full_168 (fun H locs hP hD hS => ?_)
  refine lv_dup hx hb dL_full_169 rfl ?_
  refine lv_iconst (v := (1 : Int32)) hx hb dL_full_170 (by decide) ?_
  refine lv_bipush (v := (106 : Int32)) hx hb dL_full_171 (by decide) ?_
  refine ar_st (j := 1) hx hb hK hP hD hS (by decide) rfl dL_full_173 (fun H locs hP hD hS => ?_)
  refine lv_dup hx hb dL_full_174 rfl ?_
  refine lv_iconst (v := (2 : Int32)) hx hb dL_full_175 (by decide) ?_
  refine lv_iconst (v := (0 : Int32)) hx hb dL_full_176 (by decide) ?_
  refine ar_st (j := 2) hx hb hK hP hD hS (by decide) rfl dL_full_177 (fun H locs hP hD hS => ?_)
  refine lv_dup hx hb dL_full_178 rfl ?_
  refine lv_iconst (v := (3 : Int32)) hx hb dL_full_179 (by decide) ?_
  refine lv_iconst (v := (0 : Int32)) hx hb dL_full_180 (by decide) ?_
  refine ar_st (j := 3) hx hb hK hP hD hS (by decide) rfl dL_full_181 (fun H locs hP hD hS => ?_)
  refine ar_ask (As := [.ref (q 0), .int (67 : Int32), .ref a]) (rest := []) hx hb hml hown hts hK hX hNt hP hD hS (fun hJ ha => mL_ask_code l hlf hJ ha hp hz) (vx_cwSW 3 hts gL_full_L_ask rfl rfl rfl nVL_ask hR) rfl hsz rfl (Nat.le_of_ble_eq_true rfl) dL_full_182 ⟨by have := hR.1; omega, by have := hR.1; omega⟩ (fun H locs hP hD hS => ?_)
  refine W.widen (k := C + 5) (n := S + 28) (by omega) (by omega) ?_
  exact kk H locs hP hD hS
set_option maxHeartbeats 4000000 in
set_option maxRecDepth 100000 in
theorem sgL_full_189 {p : Program} {l : Launch} {e : Env} {R : Room} {s : State} {m : MethodId} {args : Array Value} {below : List Frame} {meth : Method} {c : Code} {H : Heap} {locs : List Loc} {Q : State → Prop} {ls : Array Slot} {D : va_G} {cy : Nat → ClassId} {b L : Nat} {xs : Nat → Int32} {WO : va_W} {q : Nat → Nat} {σ u : TS} {z : Int32 ⊕ Nat} {C S : Nat} (F : lG p l s m args c cL_full 4 wsL_full D cy b L xs) (hP : va_P D vwCl (gS 78 q (TX cy q) σ ++ WO) H) (hD : va_D (fun a => s.heap.size ≤ a) (gS 78 q (TX cy q) σ ++ WO)) (hS : va_S (fun a => s.heap.size ≤ a) s.heap H locs) (hsz : ls.size = 4) (l2 : ls[2]? = some (.val (.ref (q 0)))) (hp : sX8_slot ((1 : Int32)) ((0 : Int32)) ((1 : Int32)) σ = some (z, u)) (hz : okZ z) (hR : rmL_ask.frames + 1 ≤ R.frames ∧ 8 + (4 + 11) + rmL_ask.locals ≤ R.locals) (hC : C + 5 ≤ R.cells) (hSl : S + 28 ≤ R.slots) (kk : ∀ (H1 : Heap) (locs1 : List Loc), va_P D vwCl (gS 78 q (TX cy q) u ++ WO) H1 → va_D (fun a => s.heap.size ≤ a) (gS 78 q (TX cy q) u ++ WO) → va_S (fun a => s.heap.size ≤ a) s.heap H1 locs1 → W p l e R s m args below meth c H1 locs1 (C + 5) (S + 28) Q (F0 m 210 ls [.int (askR z)])) : W p l e R s m args below meth c H locs C S Q (F0 m 189 ls []) := by
  obtain ⟨hx, hb, hml, hown, hts, hK, hX, hNt, hlf, hN8, hXs, hbl⟩ := F
  refine lv_aload_n hx hb dL_full_189 rfl l2 ?_
  refine lv_bipush (v := (83 : Int32)) hx hb dL_full_190 (by decide) ?_
  refine lv_iconst (v := (3 : Int32)) hx hb dL_full_192 (by decide) ?_
  refine ar_new (N' := 3) hx hb (hts _ mwarL_full) hK hP hD hS (fun _ h => h) (by decide) rfl (Nat.le_of_ble_eq_true rfl) (by omega) (by omega) dL_full_193 (fun a H hP hD hS => ?_)
  refine lv_dup hx hb dL_full_195 rfl ?_
  refine lv_iconst (v := (0 : Int32)) hx hb dL_full_196 (by decide) ?_
  refine lv_iconst (v := (1 : Int32)) hx hb dL_full_197 (by decide) ?_
  refine ar_st (j := 0) hx hb hK hP hD hS (by decide) rfl dL_full_198 (fun H locs hP hD hS => ?_)
  refine lv_dup hx hb dL_full_199 rfl ?_
  refine lv_iconst (v := (1 : Int32)) hx hb dL_full_200 (by decide) ?_
  refine lv_iconst (v := (0 : Int32)) hx hb dL_full_201 (by decide) ?_
  refine ar_st (j := 1) hx hb hK hP hD hS (by decide) rfl dL_full_202 (fun H locs hP hD hS => ?_)
  refine lv_dup hx hb dL_full_203 rfl ?_
  refine lv_iconst (v := (2 : Int32)) hx hb dL_full_204 (by decide) ?_
  refine lv_iconst (v := (1 : Int32)) hx hb dL_full_205 (by decide) ?_
  refine ar_st (j := 2) hx hb hK hP hD hS (by decide) rfl dL_full_206 (fun H locs hP hD hS => ?_)
  refine ar_ask (As := [.ref (q 0), .int (83 : Int32), .ref a]) (rest := []) hx hb hml hown hts hK hX hNt hP hD hS (fun hJ ha => mL_ask_slot l hlf hJ ha hp hz) (vx_cwSW 3 hts gL_full_L_ask rfl rfl rfl nVL_ask hR) rfl hsz rfl (Nat.le_of_ble_eq_true rfl) dL_full_207 ⟨by have := hR.1; omega, by have := hR.1; omega⟩ (fun H locs hP hD hS => ?_)
  refine W.widen (k := C + 5) (n := S + 28) (by omega) (by omega) ?_
  exact kk H locs hP hD hS
set_option maxHeartbeats 4000000 in
set_option maxRecDepth 100000 in
theorem sgL_full_222 {p : Program} {l : Launch} {e : Env} {R : Room} {s : State} {m : MethodId} {args : Array Value} {below : List Frame} {meth : Method} {c : Code} {H : Heap} {locs : List Loc} {Q : State → Prop} {ls : Array Slot} {D : va_G} {cy : Nat → ClassId} {b L : Nat} {xs : Nat → Int32} {WO : va_W} {q : Nat → Nat} {σ u : TS} {z : Int32 ⊕ Nat} {C S : Nat} (F : lG p l s m args c cL_full 4 wsL_full D cy b L xs) (hP : va_P D vwCl (gS 78 q (TX cy q) σ ++ WO) H) (hD : va_D (fun a => s.heap.size ≤ a) (gS 78 q (TX cy q) σ ++ WO)) (hS : va_S (fun a => s.heap.size ≤ a) s.heap H locs) (hsz : ls.size = 4) (l2 : ls[2]? = some (.val (.ref (q 0)))) (hp : sX8_overruns ((1 : Int32)) σ = some (z, u)) (hz : okZ z) (hR : rmL_ask.frames + 1 ≤ R.frames ∧ 8 + (4 + 11) + rmL_ask.locals ≤ R.locals) (hC : C + 5 ≤ R.cells) (hSl : S + 28 ≤ R.slots) (kk : ∀ (H1 : Heap) (locs1 : List Loc), va_P D vwCl (gS 78 q (TX cy q) u ++ WO) H1 → va_D (fun a => s.heap.size ≤ a) (gS 78 q (TX cy q) u ++ WO) → va_S (fun a => s.heap.size ≤ a) s.heap H1 locs1 → W p l e R s m args below meth c H1 locs1 (C + 5) (S + 28) Q (F0 m 235 ls [.int (askR z)])) : W p l e R s m args below meth c H locs C S Q (F0 m 222 ls []) := by
  obtain ⟨hx, hb, hml, hown, hts, hK, hX, hNt, hlf, hN8, hXs, hbl⟩ := F
  refine lv_aload_n hx hb dL_full_222 rfl l2 ?_
  refine lv_bipush (v := (118 : Int32)) hx hb dL_full_223 (by decide) ?_
  refine lv_iconst (v := (1 : Int32)) hx hb dL_full_225 (by decide) ?_
  refine ar_new (N' := 1) hx hb (hts _ mwarL_full) hK hP hD hS (fun _ h => h) (by decide) rfl (Nat.le_of_ble_eq_true rfl) (by omega) (by omega) dL_full_226 (fun a H hP hD hS => ?_)
  refine lv_dup hx hb dL_full_228 rfl ?_
  refine lv_iconst (v := (0 : Int32)) hx hb dL_full_229 (by decide) ?_
  refine lv_iconst (v := (1 : Int32)) hx hb dL_full_230 (by decide) ?_
  refine ar_st (j := 0) hx hb hK hP hD hS (by decide) rfl dL_full_231 (fun H locs hP hD hS => ?_)
  refine ar_ask (As := [.ref (q 0), .int (118 : Int32), .ref a]) (rest := []) hx hb hml hown hts hK hX hNt hP hD hS (fun hJ ha => mL_ask_overruns l hlf hJ ha hp hz) (vx_cwSW 3 hts gL_full_L_ask rfl rfl rfl nVL_ask hR) rfl hsz rfl (Nat.le_of_ble_eq_true rfl) dL_full_232 ⟨by have := hR.1; omega, by have := hR.1; omega⟩ (fun H locs hP hD hS => ?_)
  refine W.widen (k := C + 5) (n := S + 28) (by omega) (by omega) ?_
  exact kk H locs hP hD hS
set_option maxHeartbeats 4000000 in
set_option maxRecDepth 100000 in
theorem sgL_full_248 {p : Program} {l : Launch} {e : Env} {R : Room} {s : State} {m : MethodId} {args : Array Value} {below : List Frame} {meth : Method} {c : Code} {H : Heap} {locs : List Loc} {Q : State → Prop} {ls : Array Slot} {D : va_G} {cy : Nat → ClassId} {b L : Nat} {xs : Nat → Int32} {WO : va_W} {q : Nat → Nat} {σ u : TS} {z : Int32 ⊕ Nat} {C S : Nat} (F : lG p l s m args c cL_full 4 wsL_full D cy b L xs) (hP : va_P D vwCl (gS 78 q (TX cy q) σ ++ WO) H) (hD : va_D (fun a => s.heap.size ≤ a) (gS 78 q (TX cy q) σ ++ WO)) (hS : va_S (fun a => s.heap.size ≤ a) s.heap H locs) (hsz : ls.size = 4) (l2 : ls[2]? = some (.val (.ref (q 0)))) (hp : sX8_arm (lchr ((109 : Int32))) σ = some (z, u)) (hz : okZ z) (hR : rmL_ask.frames + 1 ≤ R.frames ∧ 8 + (4 + 11) + rmL_ask.locals ≤ R.locals) (hC : C + 5 ≤ R.cells) (hSl : S + 28 ≤ R.slots) (kk : ∀ (H1 : Heap) (locs1 : List Loc), va_P D vwCl (gS 78 q (TX cy q) u ++ WO) H1 → va_D (fun a => s.heap.size ≤ a) (gS 78 q (TX cy q) u ++ WO) → va_S (fun a => s.heap.size ≤ a) s.heap H1 locs1 → W p l e R s m args below meth c H1 locs1 (C + 5) (S + 28) Q (F0 m 262 ls [.int (askR z)])) : W p l e R s m args below meth c H locs C S Q (F0 m 248 ls []) := by
  obtain ⟨hx, hb, hml, hown, hts, hK, hX, hNt, hlf, hN8, hXs, hbl⟩ := F
  refine lv_aload_n hx hb dL_full_248 rfl l2 ?_
  refine lv_bipush (v := (65 : Int32)) hx hb dL_full_249 (by decide) ?_
  refine lv_iconst (v := (1 : Int32)) hx hb dL_full_251 (by decide) ?_
  refine ar_new (N' := 1) hx hb (hts _ mwarL_full) hK hP hD hS (fun _ h => h) (by decide) rfl (Nat.le_of_ble_eq_true rfl) (by omega) (by omega) dL_full_252 (fun a H hP hD hS => ?_)
  refine lv_dup hx hb dL_full_254 rfl ?_
  refine lv_iconst (v := (0 : Int32)) hx hb dL_full_255 (by decide) ?_
  refine lv_bipush (v := (109 : Int32)) hx hb dL_full_256 (by decide) ?_
  refine ar_st (j := 0) hx hb hK hP hD hS (by decide) rfl dL_full_258 (fun H locs hP hD hS => ?_)
  refine ar_ask (As := [.ref (q 0), .int (65 : Int32), .ref a]) (rest := []) hx hb hml hown hts hK hX hNt hP hD hS (fun hJ ha => mL_ask_arm l hlf hJ ha hp hz) (vx_cwSW 3 hts gL_full_L_ask rfl rfl rfl nVL_ask hR) rfl hsz rfl (Nat.le_of_ble_eq_true rfl) dL_full_259 ⟨by have := hR.1; omega, by have := hR.1; omega⟩ (fun H locs hP hD hS => ?_)
  refine W.widen (k := C + 5) (n := S + 28) (by omega) (by omega) ?_
  exact kk H locs hP hD hS
set_option maxHeartbeats 4000000 in
set_option maxRecDepth 100000 in
theorem sgL_full_266 {p : Program} {l : Launch} {e : Env} {R : Room} {s : State} {m : MethodId} {args : Array Value} {below : List Frame} {meth : Method} {c : Code} {H : Heap} {locs : List Loc} {Q : State → Prop} {ls : Array Slot} {D : va_G} {cy : Nat → ClassId} {b L : Nat} {xs : Nat → Int32} {WO : va_W} {q : Nat → Nat} {σ u : TS} {z : Int32 ⊕ Nat} {C S : Nat} (F : lG p l s m args c cL_full 4 wsL_full D cy b L xs) (hP : va_P D vwCl (gS 78 q (TX cy q) σ ++ WO) H) (hD : va_D (fun a => s.heap.size ≤ a) (gS 78 q (TX cy q) σ ++ WO)) (hS : va_S (fun a => s.heap.size ≤ a) s.heap H locs) (hsz : ls.size = 4) (l2 : ls[2]? = some (.val (.ref (q 0)))) (hp : sX8_give (lchr ((109 : Int32))) σ = some (z, u)) (hz : okZ z) (hR : rmL_ask.frames + 1 ≤ R.frames ∧ 8 + (4 + 11) + rmL_ask.locals ≤ R.locals) (hC : C + 5 ≤ R.cells) (hSl : S + 28 ≤ R.slots) (kk : ∀ (H1 : Heap) (locs1 : List Loc), va_P D vwCl (gS 78 q (TX cy q) u ++ WO) H1 → va_D (fun a => s.heap.size ≤ a) (gS 78 q (TX cy q) u ++ WO) → va_S (fun a => s.heap.size ≤ a) s.heap H1 locs1 → W p l e R s m args below meth c H1 locs1 (C + 5) (S + 28) Q (F0 m 280 ls [.int (askR z)])) : W p l e R s m args below meth c H locs C S Q (F0 m 266 ls []) := by
  obtain ⟨hx, hb, hml, hown, hts, hK, hX, hNt, hlf, hN8, hXs, hbl⟩ := F
  refine lv_aload_n hx hb dL_full_266 rfl l2 ?_
  refine lv_bipush (v := (71 : Int32)) hx hb dL_full_267 (by decide) ?_
  refine lv_iconst (v := (1 : Int32)) hx hb dL_full_269 (by decide) ?_
  refine ar_new (N' := 1) hx hb (hts _ mwarL_full) hK hP hD hS (fun _ h => h) (by decide) rfl (Nat.le_of_ble_eq_true rfl) (by omega) (by omega) dL_full_270 (fun a H hP hD hS => ?_)
  refine lv_dup hx hb dL_full_272 rfl ?_
  refine lv_iconst (v := (0 : Int32)) hx hb dL_full_273 (by decide) ?_
  refine lv_bipush (v := (109 : Int32)) hx hb dL_full_274 (by decide) ?_
  refine ar_st (j := 0) hx hb hK hP hD hS (by decide) rfl dL_full_276 (fun H locs hP hD hS => ?_)
  refine ar_ask (As := [.ref (q 0), .int (71 : Int32), .ref a]) (rest := []) hx hb hml hown hts hK hX hNt hP hD hS (fun hJ ha => mL_ask_give l hlf hJ ha hp hz) (vx_cwSW 3 hts gL_full_L_ask rfl rfl rfl nVL_ask hR) rfl hsz rfl (Nat.le_of_ble_eq_true rfl) dL_full_277 ⟨by have := hR.1; omega, by have := hR.1; omega⟩ (fun H locs hP hD hS => ?_)
  refine W.widen (k := C + 5) (n := S + 28) (by omega) (by omega) ?_
  exact kk H locs hP hD hS
set_option maxHeartbeats 4000000 in
set_option maxRecDepth 100000 in
theorem sgL_full_292 {p : Program} {l : Launch} {e : Env} {R : Room} {s : State} {m : MethodId} {args : Array Value} {below : List Frame} {meth : Method} {c : Code} {H : Heap} {locs : List Loc} {Q : State → Prop} {ls : Array Slot} {D : va_G} {cy : Nat → ClassId} {b L : Nat} {xs : Nat → Int32} {WO : va_W} {q : Nat → Nat} {σ u : TS} {z : Int32 ⊕ Nat} {C S : Nat} (F : lG p l s m args c cL_full 4 wsL_full D cy b L xs) (hP : va_P D vwCl (gS 78 q (TX cy q) σ ++ WO) H) (hD : va_D (fun a => s.heap.size ≤ a) (gS 78 q (TX cy q) σ ++ WO)) (hS : va_S (fun a => s.heap.size ≤ a) s.heap H locs) (hsz : ls.size = 4) (l2 : ls[2]? = some (.val (.ref (q 0)))) (hp : sX8_overruns ((1 : Int32)) σ = some (z, u)) (hz : okZ z) (hR : rmL_ask.frames + 1 ≤ R.frames ∧ 8 + (4 + 11) + rmL_ask.locals ≤ R.locals) (hC : C + 5 ≤ R.cells) (hSl : S + 28 ≤ R.slots) (kk : ∀ (H1 : Heap) (locs1 : List Loc), va_P D vwCl (gS 78 q (TX cy q) u ++ WO) H1 → va_D (fun a => s.heap.size ≤ a) (gS 78 q (TX cy q) u ++ WO) → va_S (fun a => s.heap.size ≤ a) s.heap H1 locs1 → W p l e R s m args below meth c H1 locs1 (C + 5) (S + 28) Q (F0 m 305 ls [.int (askR z)])) : W p l e R s m args below meth c H locs C S Q (F0 m 292 ls []) := by
  obtain ⟨hx, hb, hml, hown, hts, hK, hX, hNt, hlf, hN8, hXs, hbl⟩ := F
  refine lv_aload_n hx hb dL_full_292 rfl l2 ?_
  refine lv_bipush (v := (118 : Int32)) hx hb dL_full_293 (by decide) ?_
  refine lv_iconst (v := (1 : Int32)) hx hb dL_full_295 (by decide) ?_
  refine ar_new (N' := 1) hx hb (hts _ mwarL_full) hK hP hD hS (fun _ h => h) (by decide) rfl (Nat.le_of_ble_eq_true rfl) (by omega) (by omega) dL_full_296 (fun a H hP hD hS => ?_)
  refine lv_dup hx hb dL_full_298 rfl ?_
  refine lv_iconst (v := (0 : Int32)) hx hb dL_full_299 (by decide) ?_
  refine lv_iconst (v := (1 : Int32)) hx hb dL_full_300 (by decide) ?_
  refine ar_st (j := 0) hx hb hK hP hD hS (by decide) rfl dL_full_301 (fun H locs hP hD hS => ?_)
  refine ar_ask (As := [.ref (q 0), .int (118 : Int32), .ref a]) (rest := []) hx hb hml hown hts hK hX hNt hP hD hS (fun hJ ha => mL_ask_overruns l hlf hJ ha hp hz) (vx_cwSW 3 hts gL_full_L_ask rfl rfl rfl nVL_ask hR) rfl hsz rfl (Nat.le_of_ble_eq_true rfl) dL_full_302 ⟨by have := hR.1; omega, by have := hR.1; omega⟩ (fun H locs hP hD hS => ?_)
  refine W.widen (k := C + 5) (n := S + 28) (by omega) (by omega) ?_
  exact kk H locs hP hD hS
set_option maxHeartbeats 4000000 in
set_option maxRecDepth 100000 in
theorem sgL_full_317 {p : Program} {l : Launch} {e : Env} {R : Room} {s : State} {m : MethodId} {args : Array Value} {below : List Frame} {meth : Method} {c : Code} {H : Heap} {locs : List Loc} {Q : State → Prop} {ls : Array Slot} {D : va_G} {cy : Nat → ClassId} {b L : Nat} {xs : Nat → Int32} {WO : va_W} {q : Nat → Nat} {σ u : TS} {z : Int32 ⊕ Nat} {C S : Nat} (F : lG p l s m args c cL_full 4 wsL_full D cy b L xs) (hP : va_P D vwCl (gS 78 q (TX cy q) σ ++ WO) H) (hD : va_D (fun a => s.heap.size ≤ a) (gS 78 q (TX cy q) σ ++ WO)) (hS : va_S (fun a => s.heap.size ≤ a) s.heap H locs) (hsz : ls.size = 4) (l2 : ls[2]? = some (.val (.ref (q 0)))) (hp : sX8_overruns ((1 : Int32)) σ = some (z, u)) (hz : okZ z) (hR : rmL_ask.frames + 1 ≤ R.frames ∧ 8 + (4 + 11) + rmL_ask.locals ≤ R.locals) (hC : C + 5 ≤ R.cells) (hSl : S + 28 ≤ R.slots) (kk : ∀ (H1 : Heap) (locs1 : List Loc), va_P D vwCl (gS 78 q (TX cy q) u ++ WO) H1 → va_D (fun a => s.heap.size ≤ a) (gS 78 q (TX cy q) u ++ WO) → va_S (fun a => s.heap.size ≤ a) s.heap H1 locs1 → W p l e R s m args below meth c H1 locs1 (C + 5) (S + 28) Q (F0 m 330 ls [.int (askR z)])) : W p l e R s m args below meth c H locs C S Q (F0 m 317 ls []) := by
  obtain ⟨hx, hb, hml, hown, hts, hK, hX, hNt, hlf, hN8, hXs, hbl⟩ := F
  refine lv_aload_n hx hb dL_full_317 rfl l2 ?_
  refine lv_bipush (v := (118 : Int32)) hx hb dL_full_318 (by decide) ?_
  refine lv_iconst (v := (1 : Int32)) hx hb dL_full_320 (by decide) ?_
  refine ar_new (N' := 1) hx hb (hts _ mwarL_full) hK hP hD hS (fun _ h => h) (by decide) rfl (Nat.le_of_ble_eq_true rfl) (by omega) (by omega) dL_full_321 (fun a H hP hD hS => ?_)
  refine lv_dup hx hb dL_full_323 rfl ?_
  refine lv_iconst (v := (0 : Int32)) hx hb dL_full_324 (by decide) ?_
  refine lv_iconst (v := (1 : Int32)) hx hb dL_full_325 (by decide) ?_
  refine ar_st (j := 0) hx hb hK hP hD hS (by decide) rfl dL_full_326 (fun H locs hP hD hS => ?_)
  refine ar_ask (As := [.ref (q 0), .int (118 : Int32), .ref a]) (rest := []) hx hb hml hown hts hK hX hNt hP hD hS (fun hJ ha => mL_ask_overruns l hlf hJ ha hp hz) (vx_cwSW 3 hts gL_full_L_ask rfl rfl rfl nVL_ask hR) rfl hsz rfl (Nat.le_of_ble_eq_true rfl) dL_full_327 ⟨by have := hR.1; omega, by have := hR.1; omega⟩ (fun H locs hP hD hS => ?_)
  refine W.widen (k := C + 5) (n := S + 28) (by omega) (by omega) ?_
  exact kk H locs hP hD hS
set_option maxHeartbeats 4000000 in
set_option maxRecDepth 100000 in
theorem sgL_full_344 {p : Program} {l : Launch} {e : Env} {R : Room} {s : State} {m : MethodId} {args : Array Value} {below : List Frame} {meth : Method} {c : Code} {H : Heap} {locs : List Loc} {Q : State → Prop} {ls : Array Slot} {D : va_G} {cy : Nat → ClassId} {b L : Nat} {xs : Nat → Int32} {WO : va_W} {q : Nat → Nat} {σ u : TS} {z : Int32 ⊕ Nat} {C S : Nat} (F : lG p l s m args c cL_full 4 wsL_full D cy b L xs) (hP : va_P D vwCl (gS 78 q (TX cy q) σ ++ WO) H) (hD : va_D (fun a => s.heap.size ≤ a) (gS 78 q (TX cy q) σ ++ WO)) (hS : va_S (fun a => s.heap.size ≤ a) s.heap H locs) (hsz : ls.size = 4) (l2 : ls[2]? = some (.val (.ref (q 0)))) (hp : sX8_arm (lchr ((109 : Int32))) σ = some (z, u)) (hz : okZ z) (hR : rmL_ask.frames + 1 ≤ R.frames ∧ 8 + (4 + 11) + rmL_ask.locals ≤ R.locals) (hC : C + 5 ≤ R.cells) (hSl : S + 28 ≤ R.slots) (kk : ∀ (H1 : Heap) (locs1 : List Loc), va_P D vwCl (gS 78 q (TX cy q) u ++ WO) H1 → va_D (fun a => s.heap.size ≤ a) (gS 78 q (TX cy q) u ++ WO) → va_S (fun a => s.heap.size ≤ a) s.heap H1 locs1 → W p l e R s m args below meth c H1 locs1 (C + 5) (S + 28) Q (F0 m 358 ls [.int (askR z)])) : W p l e R s m args below meth c H locs C S Q (F0 m 344 ls []) := by
  obtain ⟨hx, hb, hml, hown, hts, hK, hX, hNt, hlf, hN8, hXs, hbl⟩ := F
  refine lv_aload_n hx hb dL_full_344 rfl l2 ?_
  refine lv_bipush (v := (65 : Int32)) hx hb dL_full_345 (by decide) ?_
  refine lv_iconst (v := (1 : Int32)) hx hb dL_full_347 (by decide) ?_
  refine ar_new (N' := 1) hx hb (hts _ mwarL_full) hK hP hD hS (fun _ h => h) (by decide) rfl (Nat.le_of_ble_eq_true rfl) (by omega) (by omega) dL_full_348 (fun a H hP hD hS => ?_)
  refine lv_dup hx hb dL_full_350 rfl ?_
  refine lv_iconst (v := (0 : Int32)) hx hb dL_full_351 (by decide) ?_
  refine lv_bipush (v := (109 : Int32)) hx hb dL_full_352 (by decide) ?_
  refine ar_st (j := 0) hx hb hK hP hD hS (by decide) rfl dL_full_354 (fun H locs hP hD hS => ?_)
  refine ar_ask (As := [.ref (q 0), .int (65 : Int32), .ref a]) (rest := []) hx hb hml hown hts hK hX hNt hP hD hS (fun hJ ha => mL_ask_arm l hlf hJ ha hp hz) (vx_cwSW 3 hts gL_full_L_ask rfl rfl rfl nVL_ask hR) rfl hsz rfl (Nat.le_of_ble_eq_true rfl) dL_full_355 ⟨by have := hR.1; omega, by have := hR.1; omega⟩ (fun H locs hP hD hS => ?_)
  refine W.widen (k := C + 5) (n := S + 28) (by omega) (by omega) ?_
  exact kk H locs hP hD hS
set_option maxHeartbeats 4000000 in
set_option maxRecDepth 100000 in
theorem sgL_full_395 {p : Program} {l : Launch} {e : Env} {R : Room} {s : State} {m : MethodId} {args : Array Value} {below : List Frame} {meth : Method} {c : Code} {H : Heap} {locs : List Loc} {Q : State → Prop} {ls : Array Slot} {D : va_G} {cy : Nat → ClassId} {b L : Nat} {xs : Nat → Int32} {WO : va_W} {q : Nat → Nat} {σ u : TS} {z : Int32 ⊕ Nat} {C S : Nat} (F : lG p l s m args c cL_full 4 wsL_full D cy b L xs) (hP : va_P D vwCl (gS 78 q (TX cy q) σ ++ WO) H) (hD : va_D (fun a => s.heap.size ≤ a) (gS 78 q (TX cy q) σ ++ WO)) (hS : va_S (fun a => s.heap.size ≤ a) s.heap H locs) (hsz : ls.size = 4) (l2 : ls[2]? = some (.val (.ref (q 0)))) (hp : sX8_give (lchr ((109 : Int32))) σ = some (z, u)) (hz : okZ z) (hR : rmL_ask.frames + 1 ≤ R.frames ∧ 8 + (4 + 11) + rmL_ask.locals ≤ R.locals) (hC : C + 5 ≤ R.cells) (hSl : S + 28 ≤ R.slots) (kk : ∀ (H1 : Heap) (locs1 : List Loc), va_P D vwCl (gS 78 q (TX cy q) u ++ WO) H1 → va_D (fun a => s.heap.size ≤ a) (gS 78 q (TX cy q) u ++ WO) → va_S (fun a => s.heap.size ≤ a) s.heap H1 locs1 → W p l e R s m args below meth c H1 locs1 (C + 5) (S + 28) Q (F0 m 409 ls [.int (askR z)])) : W p l e R s m args below meth c H locs C S Q (F0 m 395 ls []) := by
  obtain ⟨hx, hb, hml, hown, hts, hK, hX, hNt, hlf, hN8, hXs, hbl⟩ := F
  refine lv_aload_n hx hb dL_full_395 rfl l2 ?_
  refine lv_bipush (v := (71 : Int32)) hx hb dL_full_396 (by decide) ?_
  refine lv_iconst (v := (1 : Int32)) hx hb dL_full_398 (by decide) ?_
  refine ar_new (N' := 1) hx hb (hts _ mwarL_full) hK hP hD hS (fun _ h => h) (by decide) rfl (Nat.le_of_ble_eq_true rfl) (by omega) (by omega) dL_full_399 (fun a H hP hD hS => ?_)
  refine lv_dup hx hb dL_full_401 rfl ?_
  refine lv_iconst (v := (0 : Int32)) hx hb dL_full_402 (by decide) ?_
  refine lv_bipush (v := (109 : Int32)) hx hb dL_full_403 (by decide) ?_
  refine ar_st (j := 0) hx hb hK hP hD hS (by decide) rfl dL_full_405 (fun H locs hP hD hS => ?_)
  refine ar_ask (As := [.ref (q 0), .int (71 : Int32), .ref a]) (rest := []) hx hb hml hown hts hK hX hNt hP hD hS (fun hJ ha => mL_ask_give l hlf hJ ha hp hz) (vx_cwSW 3 hts gL_full_L_ask rfl rfl rfl nVL_ask hR) rfl hsz rfl (Nat.le_of_ble_eq_true rfl) dL_full_406 ⟨by have := hR.1; omega, by have := hR.1; omega⟩ (fun H locs hP hD hS => ?_)
  refine W.widen (k := C + 5) (n := S + 28) (by omega) (by omega) ?_
  exact kk H locs hP hD hS

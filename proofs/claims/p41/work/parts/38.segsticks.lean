theorem mwarL_sticks : Cond.arrayClass .int ∈ wsL_sticks := by decide +kernel
set_option maxHeartbeats 4000000 in
set_option maxRecDepth 100000 in
theorem sgL_sticks_61 {p : Program} {l : Launch} {e : Env} {R : Room} {s : State} {m : MethodId} {args : Array Value} {below : List Frame} {meth : Method} {c : Code} {H : Heap} {locs : List Loc} {Q : State → Prop} {ls : Array Slot} {D : va_G} {cy : Nat → ClassId} {b L : Nat} {xs : Nat → Int32} {WO : va_W} {q : Nat → Nat} {σ u : TS} {z : Int32 ⊕ Nat} {C S : Nat} (F : lG p l s m args c cL_sticks 7 wsL_sticks D cy b L xs) (hP : va_P D vwCl (gS 78 q (TX cy q) σ ++ WO) H) (hD : va_D (fun a => s.heap.size ≤ a) (gS 78 q (TX cy q) σ ++ WO)) (hS : va_S (fun a => s.heap.size ≤ a) s.heap H locs) (hsz : ls.size = 7) (l1 : ls[1]? = some (.val (.ref (q 0)))) {x4 : Int32} (l4 : ls[4]? = some (.val (.int x4))) (hp : sX8_code ((2 : Int32)) (lchr ((108 : Int32))) ((3 : Int32)) x4 σ = some (z, u)) (hz : okZ z) (hR : rmL_ask.frames + 1 ≤ R.frames ∧ 8 + (4 + 11) + rmL_ask.locals ≤ R.locals) (hC : C + 5 ≤ R.cells) (hSl : S + 28 ≤ R.slots) (kk : ∀ (H1 : Heap) (locs1 : List Loc), va_P D vwCl (gS 78 q (TX cy q) u ++ WO) H1 → va_D (fun a => s.heap.size ≤ a) (gS 78 q (TX cy q) u ++ WO) → va_S (fun a => s.heap.size ≤ a) s.heap H1 locs1 → W p l e R s m args below meth c H1 locs1 (C + 5) (S + 28) Q (F0 m 88 ls [.int (askR z)])) : W p l e R s m args below meth c H locs C S Q (F0 m 61 ls []) := by
  obtain ⟨hx, hb, hml, hown, hts, hK, hX, hNt, hlf, hN8, hXs, hbl⟩ := F
  refine lv_aload_n hx hb dL_sticks_61 rfl l1 ?_
  refine lv_bipush (v := (67 : Int32)) hx hb dL_sticks_62 (by decide) ?_
  refine lv_iconst (v := (4 : Int32)) hx hb dL_sticks_64 (by decide) ?_
  refine ar_new (N' := 4) hx hb (hts _ mwarL_sticks) hK hP hD hS (fun _ h => h) (by decide) rfl (Nat.le_of_ble_eq_true rfl) (by omega) (by omega) dL_sticks_65 (fun a H hP hD hS => ?_)
  refine lv_dup hx hb dL_sticks_67 rfl ?_
  refine lv_iconst (v := (0 : Int32)) hx hb dL_sticks_68 (by decide) ?_
  refine lv_iconst (v := (2 : Int32)) hx hb dL_sticks_69 (by decide) ?_
  refine ar_st (j := 0) hx hb hK hP hD hS (by decide) rfl dL_sticks_70 (fun H locs hP hD hS => ?_)
  refine lv_dup hx hb dL_sticks_71 rfl ?_
  refine lv_iconst (v := (1 : Int32)) hx hb dL_sticks_72 (by decide) ?_
  refine lv_bipush (v := (108 : Int32)) hx hb dL_sticks_73 (by decide) ?_
  refine ar_st (j := 1) hx hb hK hP hD hS (by decide) rfl dL_sticks_75 (fun H locs hP hD hS => ?_)
  refine lv_dup hx hb dL_sticks_76 rfl ?_
  refine lv_iconst (v := (2 : Int32)) hx hb dL_sticks_77 (by decide) ?_
  refine lv_iconst (v := (3 : Int32)) hx hb dL_sticks_78 (by decide) ?_
  refine ar_st (j := 2) hx hb hK hP hD hS (by decide) rfl dL_sticks_79 (fun H locs hP hD hS => ?_)
  refine lv_dup hx hb dL_sticks_80 rfl ?_
  refine lv_iconst (v := (3 : Int32)) hx hb dL_sticks_81 (by decide) ?_
  refine lv_iload hx hb dL_sticks_82 l4 ?_
  refine ar_st (j := 3) hx hb hK hP hD hS (by decide) rfl dL_sticks_84 (fun H locs hP hD hS => ?_)
  refine ar_ask (As := [.ref (q 0), .int (67 : Int32), .ref a]) (rest := []) hx hb hml hown hts hK hX hNt hP hD hS (fun hJ ha => mL_ask_code l hlf hJ ha hp hz) (vx_cwSW 3 hts gL_sticks_L_ask rfl rfl rfl nVL_ask hR) rfl hsz rfl (Nat.le_of_ble_eq_true rfl) dL_sticks_85 ⟨by have := hR.1; omega, by have := hR.1; omega⟩ (fun H locs hP hD hS => ?_)
  refine W.widen (k := C + 5) (n := S + 28) (by omega) (by omega) ?_
  exact kk H locs hP hD hS
set_option maxHeartbeats 4000000 in
set_option maxRecDepth 100000 in
theorem sgL_sticks_92 {p : Program} {l : Launch} {e : Env} {R : Room} {s : State} {m : MethodId} {args : Array Value} {below : List Frame} {meth : Method} {c : Code} {H : Heap} {locs : List Loc} {Q : State → Prop} {ls : Array Slot} {D : va_G} {cy : Nat → ClassId} {b L : Nat} {xs : Nat → Int32} {WO : va_W} {q : Nat → Nat} {σ u : TS} {z : Int32 ⊕ Nat} {C S : Nat} (F : lG p l s m args c cL_sticks 7 wsL_sticks D cy b L xs) (hP : va_P D vwCl (gS 78 q (TX cy q) σ ++ WO) H) (hD : va_D (fun a => s.heap.size ≤ a) (gS 78 q (TX cy q) σ ++ WO)) (hS : va_S (fun a => s.heap.size ≤ a) s.heap H locs) (hsz : ls.size = 7) (l1 : ls[1]? = some (.val (.ref (q 0)))) (hp : sX8_code ((2 : Int32)) (lchr ((111 : Int32))) ((3 : Int32)) ((1 : Int32)) σ = some (z, u)) (hz : okZ z) (hR : rmL_ask.frames + 1 ≤ R.frames ∧ 8 + (4 + 11) + rmL_ask.locals ≤ R.locals) (hC : C + 5 ≤ R.cells) (hSl : S + 28 ≤ R.slots) (kk : ∀ (H1 : Heap) (locs1 : List Loc), va_P D vwCl (gS 78 q (TX cy q) u ++ WO) H1 → va_D (fun a => s.heap.size ≤ a) (gS 78 q (TX cy q) u ++ WO) → va_S (fun a => s.heap.size ≤ a) s.heap H1 locs1 → W p l e R s m args below meth c H1 locs1 (C + 5) (S + 28) Q (F0 m 118 ls [.int (askR z)])) : W p l e R s m args below meth c H locs C S Q (F0 m 92 ls []) := by
  obtain ⟨hx, hb, hml, hown, hts, hK, hX, hNt, hlf, hN8, hXs, hbl⟩ := F
  refine lv_aload_n hx hb dL_sticks_92 rfl l1 ?_
  refine lv_bipush (v := (67 : Int32)) hx hb dL_sticks_93 (by decide) ?_
  refine lv_iconst (v := (4 : Int32)) hx hb dL_sticks_95 (by decide) ?_
  refine ar_new (N' := 4) hx hb (hts _ mwarL_sticks) hK hP hD hS (fun _ h => h) (by decide) rfl (Nat.le_of_ble_eq_true rfl) (by omega) (by omega) dL_sticks_96 (fun a H hP hD hS => ?_)
  refine lv_dup hx hb dL_sticks_98 rfl ?_
  refine lv_iconst (v := (0 : Int32)) hx hb dL_sticks_99 (by decide) ?_
  refine lv_iconst (v := (2 : Int32)) hx hb dL_sticks_100 (by decide) ?_
  refine ar_st (j := 0) hx hb hK hP hD hS (by decide) rfl dL_sticks_101 (fun H locs hP hD hS => ?_)
  refine lv_dup hx hb dL_sticks_102 rfl ?_
  refine lv_iconst (v := (1 : Int32)) hx hb dL_sticks_103 (by decide) ?_
  refine lv_bipush (v := (111 : Int32)) hx hb dL_sticks_104 (by decide) ?_
  refine ar_st (j := 1) hx hb hK hP hD hS (by decide) rfl dL_sticks_106 (fun H locs hP hD hS => ?_)
  refine lv_dup hx hb dL_sticks_107 rfl ?_
  refine lv_iconst (v := (2 : Int32)) hx hb dL_sticks_108 (by decide) ?_
  refine lv_iconst (v := (3 : Int32)) hx hb dL_sticks_109 (by decide) ?_
  refine ar_st (j := 2) hx hb hK hP hD hS (by decide) rfl dL_sticks_110 (fun H locs hP hD hS => ?_)
  refine lv_dup hx hb dL_sticks_111 rfl ?_
  refine lv_iconst (v := (3 : Int32)) hx hb dL_sticks_112 (by decide) ?_
  refine lv_iconst (v := (1 : Int32)) hx hb dL_sticks_113 (by decide) ?_
  refine ar_st (j := 3) hx hb hK hP hD hS (by decide) rfl dL_sticks_114 (fun H locs hP hD hS => ?_)
  refine ar_ask (As := [.ref (q 0), .int (67 : Int32), .ref a]) (rest := []) hx hb hml hown hts hK hX hNt hP hD hS (fun hJ ha => mL_ask_code l hlf hJ ha hp hz) (vx_cwSW 3 hts gL_sticks_L_ask rfl rfl rfl nVL_ask hR) rfl hsz rfl (Nat.le_of_ble_eq_true rfl) dL_sticks_115 ⟨by have := hR.1; omega, by have := hR.1; omega⟩ (fun H locs hP hD hS => ?_)
  refine W.widen (k := C + 5) (n := S + 28) (by omega) (by omega) ?_
  exact kk H locs hP hD hS
set_option maxHeartbeats 4000000 in
set_option maxRecDepth 100000 in
theorem sgL_sticks_122 {p : Program} {l : Launch} {e : Env} {R : Room} {s : State} {m : MethodId} {args : Array Value} {below : List Frame} {meth : Method} {c : Code} {H : Heap} {locs : List Loc} {Q : State → Prop} {ls : Array Slot} {D : va_G} {cy : Nat → ClassId} {b L : Nat} {xs : Nat → Int32} {WO : va_W} {q : Nat → Nat} {σ u : TS} {z : Int32 ⊕ Nat} {C S : Nat} (F : lG p l s m args c cL_sticks 7 wsL_sticks D cy b L xs) (hP : va_P D vwCl (gS 78 q (TX cy q) σ ++ WO) H) (hD : va_D (fun a => s.heap.size ≤ a) (gS 78 q (TX cy q) σ ++ WO)) (hS : va_S (fun a => s.heap.size ≤ a) s.heap H locs) (hsz : ls.size = 7) (l1 : ls[1]? = some (.val (.ref (q 0)))) (hp : sX8_code ((2 : Int32)) (lchr ((109 : Int32))) ((3 : Int32)) ((5 : Int32)) σ = some (z, u)) (hz : okZ z) (hR : rmL_ask.frames + 1 ≤ R.frames ∧ 8 + (4 + 11) + rmL_ask.locals ≤ R.locals) (hC : C + 5 ≤ R.cells) (hSl : S + 28 ≤ R.slots) (kk : ∀ (H1 : Heap) (locs1 : List Loc), va_P D vwCl (gS 78 q (TX cy q) u ++ WO) H1 → va_D (fun a => s.heap.size ≤ a) (gS 78 q (TX cy q) u ++ WO) → va_S (fun a => s.heap.size ≤ a) s.heap H1 locs1 → W p l e R s m args below meth c H1 locs1 (C + 5) (S + 28) Q (F0 m 148 ls [.int (askR z)])) : W p l e R s m args below meth c H locs C S Q (F0 m 122 ls []) := by
  obtain ⟨hx, hb, hml, hown, hts, hK, hX, hNt, hlf, hN8, hXs, hbl⟩ := F
  refine lv_aload_n hx hb dL_sticks_122 rfl l1 ?_
  refine lv_bipush (v := (67 : Int32)) hx hb dL_sticks_123 (by decide) ?_
  refine lv_iconst (v := (4 : Int32)) hx hb dL_sticks_125 (by decide) ?_
  refine ar_new (N' := 4) hx hb (hts _ mwarL_sticks) hK hP hD hS (fun _ h => h) (by decide) rfl (Nat.le_of_ble_eq_true rfl) (by omega) (by omega) dL_sticks_126 (fun a H hP hD hS => ?_)
  refine lv_dup hx hb dL_sticks_128 rfl ?_
  refine lv_iconst (v := (0 : Int32)) hx hb dL_sticks_129 (by decide) ?_
  refine lv_iconst (v := (2 : Int32)) hx hb dL_sticks_130 (by decide) ?_
  refine ar_st (j := 0) hx hb hK hP hD hS (by decide) rfl dL_sticks_131 (fun H locs hP hD hS => ?_)
  refine lv_dup hx hb dL_sticks_132 rfl ?_
  refine lv_iconst (v := (1 : Int32)) hx hb dL_sticks_133 (by decide) ?_
  refine lv_bipush (v := (109 : Int32)) hx hb dL_sticks_134 (by decide) ?_
  refine ar_st (j := 1) hx hb hK hP hD hS (by decide) rfl dL_sticks_136 (fun H locs hP hD hS => ?_)
  refine lv_dup hx hb dL_sticks_137 rfl ?_
  refine lv_iconst (v := (2 : Int32)) hx hb dL_sticks_138 (by decide) ?_
  refine lv_iconst (v := (3 : Int32)) hx hb dL_sticks_139 (by decide) ?_
  refine ar_st (j := 2) hx hb hK hP hD hS (by decide) rfl dL_sticks_140 (fun H locs hP hD hS => ?_)
  refine lv_dup hx hb dL_sticks_141 rfl ?_
  refine lv_iconst (v := (3 : Int32)) hx hb dL_sticks_142 (by decide) ?_
  refine lv_iconst (v := (5 : Int32)) hx hb dL_sticks_143 (by decide) ?_
  refine ar_st (j := 3) hx hb hK hP hD hS (by decide) rfl dL_sticks_144 (fun H locs hP hD hS => ?_)
  refine ar_ask (As := [.ref (q 0), .int (67 : Int32), .ref a]) (rest := []) hx hb hml hown hts hK hX hNt hP hD hS (fun hJ ha => mL_ask_code l hlf hJ ha hp hz) (vx_cwSW 3 hts gL_sticks_L_ask rfl rfl rfl nVL_ask hR) rfl hsz rfl (Nat.le_of_ble_eq_true rfl) dL_sticks_145 ⟨by have := hR.1; omega, by have := hR.1; omega⟩ (fun H locs hP hD hS => ?_)
  refine W.widen (k := C + 5) (n := S + 28) (by omega) (by omega) ?_
  exact kk H locs hP hD hS
set_option maxHeartbeats 4000000 in
set_option maxRecDepth 100000 in
theorem sgL_sticks_152 {p : Program} {l : Launch} {e : Env} {R : Room} {s : State} {m : MethodId} {args : Array Value} {below : List Frame} {meth : Method} {c : Code} {H : Heap} {locs : List Loc} {Q : State → Prop} {ls : Array Slot} {D : va_G} {cy : Nat → ClassId} {b L : Nat} {xs : Nat → Int32} {WO : va_W} {q : Nat → Nat} {σ u : TS} {z : Int32 ⊕ Nat} {C S : Nat} (F : lG p l s m args c cL_sticks 7 wsL_sticks D cy b L xs) (hP : va_P D vwCl (gS 78 q (TX cy q) σ ++ WO) H) (hD : va_D (fun a => s.heap.size ≤ a) (gS 78 q (TX cy q) σ ++ WO)) (hS : va_S (fun a => s.heap.size ≤ a) s.heap H locs) (hsz : ls.size = 7) (l1 : ls[1]? = some (.val (.ref (q 0)))) (hp : sX8_slot ((0 : Int32)) ((1 : Int32)) ((2 : Int32)) σ = some (z, u)) (hz : okZ z) (hR : rmL_ask.frames + 1 ≤ R.frames ∧ 8 + (4 + 11) + rmL_ask.locals ≤ R.locals) (hC : C + 5 ≤ R.cells) (hSl : S + 28 ≤ R.slots) (kk : ∀ (H1 : Heap) (locs1 : List Loc), va_P D vwCl (gS 78 q (TX cy q) u ++ WO) H1 → va_D (fun a => s.heap.size ≤ a) (gS 78 q (TX cy q) u ++ WO) → va_S (fun a => s.heap.size ≤ a) s.heap H1 locs1 → W p l e R s m args below meth c H1 locs1 (C + 5) (S + 28) Q (F0 m 173 ls [.int (askR z)])) : W p l e R s m args below meth c H locs C S Q (F0 m 152 ls []) := by
  obtain ⟨hx, hb, hml, hown, hts, hK, hX, hNt, hlf, hN8, hXs, hbl⟩ := F
  refine lv_aload_n hx hb dL_sticks_152 rfl l1 ?_
  refine lv_bipush (v := (83 : Int32)) hx hb dL_sticks_153 (by decide) ?_
  refine lv_iconst (v := (3 : Int32)) hx hb dL_sticks_155 (by decide) ?_
  refine ar_new (N' := 3) hx hb (hts _ mwarL_sticks) hK hP hD hS (fun _ h => h) (by decide) rfl (Nat.le_of_ble_eq_true rfl) (by omega) (by omega) dL_sticks_156 (fun a H hP hD hS => ?_)
  refine lv_dup hx hb dL_sticks_158 rfl ?_
  refine lv_iconst (v := (0 : Int32)) hx hb dL_sticks_159 (by decide) ?_
  refine lv_iconst (v := (0 : Int32)) hx hb dL_sticks_160 (by decide) ?_
  refine ar_st (j := 0) hx hb hK hP hD hS (by decide) rfl dL_sticks_161 (fun H locs hP hD hS => ?_)
  refine lv_dup hx hb dL_sticks_162 rfl ?_
  refine lv_iconst (v := (1 : Int32)) hx hb dL_sticks_163 (by decide) ?_
  refine lv_iconst (v := (1 : Int32)) hx hb dL_sticks_164 (by decide) ?_
  refine ar_st (j := 1) hx hb hK hP hD hS (by decide) rfl dL_sticks_165 (fun H locs hP hD hS => ?_)
  refine lv_dup hx hb dL_sticks_166 rfl ?_
  refine lv_iconst (v := (2 : Int32)) hx hb dL_sticks_167 (by decide) ?_
  refine lv_iconst (v := (2 : Int32)) hx hb dL_sticks_168 (by decide) ?_
  refine ar_st (j := 2) hx hb hK hP hD hS (by decide) rfl dL_sticks_169 (fun H locs hP hD hS => ?_)
  refine ar_ask (As := [.ref (q 0), .int (83 : Int32), .ref a]) (rest := []) hx hb hml hown hts hK hX hNt hP hD hS (fun hJ ha => mL_ask_slot l hlf hJ ha hp hz) (vx_cwSW 3 hts gL_sticks_L_ask rfl rfl rfl nVL_ask hR) rfl hsz rfl (Nat.le_of_ble_eq_true rfl) dL_sticks_170 ⟨by have := hR.1; omega, by have := hR.1; omega⟩ (fun H locs hP hD hS => ?_)
  refine W.widen (k := C + 5) (n := S + 28) (by omega) (by omega) ?_
  exact kk H locs hP hD hS
set_option maxHeartbeats 4000000 in
set_option maxRecDepth 100000 in
theorem sgL_sticks_177 {p : Program} {l : Launch} {e : Env} {R : Room} {s : State} {m : MethodId} {args : Array Value} {below : List Frame} {meth : Method} {c : Code} {H : Heap} {locs : List Loc} {Q : State → Prop} {ls : Array Slot} {D : va_G} {cy : Nat → ClassId} {b L : Nat} {xs : Nat → Int32} {WO : va_W} {q : Nat → Nat} {σ u : TS} {z : Int32 ⊕ Nat} {C S : Nat} (F : lG p l s m args c cL_sticks 7 wsL_sticks D cy b L xs) (hP : va_P D vwCl (gS 78 q (TX cy q) σ ++ WO) H) (hD : va_D (fun a => s.heap.size ≤ a) (gS 78 q (TX cy q) σ ++ WO)) (hS : va_S (fun a => s.heap.size ≤ a) s.heap H locs) (hsz : ls.size = 7) (l1 : ls[1]? = some (.val (.ref (q 0)))) {x2 : Int32} (l2 : ls[2]? = some (.val (.int x2))) {x3 : Int32} (l3 : ls[3]? = some (.val (.int x3))) {x5 : Int32} (l5 : ls[5]? = some (.val (.int x5))) (hp0 : x5 = 0 → sX8_stick x2 ((3 : Int32)) x3 (if ((0 : Int32)) = 1 then 1 else 0) σ = some (z, u)) (hp1 : ¬ x5 = 0 → sX8_stick x2 ((3 : Int32)) x3 (if ((1 : Int32)) = 1 then 1 else 0) σ = some (z, u)) (hz : okZ z) (hR : rmL_ask.frames + 1 ≤ R.frames ∧ 8 + (4 + 11) + rmL_ask.locals ≤ R.locals) (hC : C + 5 ≤ R.cells) (hSl : S + 28 ≤ R.slots) (kk : ∀ (H1 : Heap) (locs1 : List Loc), va_P D vwCl (gS 78 q (TX cy q) u ++ WO) H1 → va_D (fun a => s.heap.size ≤ a) (gS 78 q (TX cy q) u ++ WO) → va_S (fun a => s.heap.size ≤ a) s.heap H1 locs1 → W p l e R s m args below meth c H1 locs1 (C + 5) (S + 28) Q (F0 m 211 ls [.int (askR (zB z))])) : W p l e R s m args below meth c H locs C S Q (F0 m 177 ls []) := by
  obtain ⟨hx, hb, hml, hown, hts, hK, hX, hNt, hlf, hN8, hXs, hbl⟩ := F
  refine lv_aload_n hx hb dL_sticks_177 rfl l1 ?_
  refine lv_bipush (v := (107 : Int32)) hx hb dL_sticks_178 (by decide) ?_
  refine lv_iconst (v := (4 : Int32)) hx hb dL_sticks_180 (by decide) ?_
  refine ar_new (N' := 4) hx hb (hts _ mwarL_sticks) hK hP hD hS (fun _ h => h) (by decide) rfl (Nat.le_of_ble_eq_true rfl) (by omega) (by omega) dL_sticks_181 (fun a H hP hD hS => ?_)
  refine lv_dup hx hb dL_sticks_183 rfl ?_
  refine lv_iconst (v := (0 : Int32)) hx hb dL_sticks_184 (by decide) ?_
  refine lv_iload_n hx hb dL_sticks_185 rfl l2 ?_
  refine ar_st (j := 0) hx hb hK hP hD hS (by decide) rfl dL_sticks_186 (fun H locs hP hD hS => ?_)
  refine lv_dup hx hb dL_sticks_187 rfl ?_
  refine lv_iconst (v := (1 : Int32)) hx hb dL_sticks_188 (by decide) ?_
  refine lv_iconst (v := (3 : Int32)) hx hb dL_sticks_189 (by decide) ?_
  refine ar_st (j := 1) hx hb hK hP hD hS (by decide) rfl dL_sticks_190 (fun H locs hP hD hS => ?_)
  refine lv_dup hx hb dL_sticks_191 rfl ?_
  refine lv_iconst (v := (2 : Int32)) hx hb dL_sticks_192 (by decide) ?_
  refine lv_iload_n hx hb dL_sticks_193 rfl l3 ?_
  refine ar_st (j := 2) hx hb hK hP hD hS (by decide) rfl dL_sticks_194 (fun H locs hP hD hS => ?_)
  refine lv_dup hx hb dL_sticks_195 rfl ?_
  refine lv_iconst (v := (3 : Int32)) hx hb dL_sticks_196 (by decide) ?_
  refine lv_iload hx hb dL_sticks_197 l5 ?_
  refine lv_if_eq (tgt := 206) hx hb dL_sticks_199 (by decide) (fun h5 => ?_) (fun h5 => ?_)
  · skip
    refine lv_iconst (v := (0 : Int32)) hx hb dL_sticks_206 (by decide) ?_
    refine ar_st (j := 3) hx hb hK hP hD hS (by decide) rfl dL_sticks_207 (fun H locs hP hD hS => ?_)
    refine ar_ask (As := [.ref (q 0), .int (107 : Int32), .ref a]) (rest := []) hx hb hml hown hts hK hX hNt hP hD hS (fun hJ ha => mL_ask_stick l hlf hJ ha (hp0 h5) hz) (vx_cwSW 3 hts gL_sticks_L_ask rfl rfl rfl nVL_ask hR) rfl hsz rfl (Nat.le_of_ble_eq_true rfl) dL_sticks_208 ⟨by have := hR.1; omega, by have := hR.1; omega⟩ (fun H locs hP hD hS => ?_)
    refine W.widen (k := C + 5) (n := S + 28) (by omega) (by omega) ?_
    exact kk H locs hP hD hS
  · skip
    refine lv_iconst (v := (1 : Int32)) hx hb dL_sticks_202 (by decide) ?_
    refine lv_goto (tgt := 207) hx hb dL_sticks_203 (by decide) ?_
    refine ar_st (j := 3) hx hb hK hP hD hS (by decide) rfl dL_sticks_207 (fun H locs hP hD hS => ?_)
    refine ar_ask (As := [.ref (q 0), .int (107 : Int32), .ref a]) (rest := []) hx hb hml hown hts hK hX hNt hP hD hS (fun hJ ha => mL_ask_stick l hlf hJ ha (hp1 h5) hz) (vx_cwSW 3 hts gL_sticks_L_ask rfl rfl rfl nVL_ask hR) rfl hsz rfl (Nat.le_of_ble_eq_true rfl) dL_sticks_208 ⟨by have := hR.1; omega, by have := hR.1; omega⟩ (fun H locs hP hD hS => ?_)
    refine W.widen (k := C + 5) (n := S + 28) (by omega) (by omega) ?_
    exact kk H locs hP hD hS
set_option maxHeartbeats 4000000 in
set_option maxRecDepth 100000 in
theorem sgL_sticks_214 {p : Program} {l : Launch} {e : Env} {R : Room} {s : State} {m : MethodId} {args : Array Value} {below : List Frame} {meth : Method} {c : Code} {H : Heap} {locs : List Loc} {Q : State → Prop} {ls : Array Slot} {D : va_G} {cy : Nat → ClassId} {b L : Nat} {xs : Nat → Int32} {WO : va_W} {q : Nat → Nat} {σ u : TS} {z : Int32 ⊕ Nat} {C S : Nat} (F : lG p l s m args c cL_sticks 7 wsL_sticks D cy b L xs) (hP : va_P D vwCl (gS 78 q (TX cy q) σ ++ WO) H) (hD : va_D (fun a => s.heap.size ≤ a) (gS 78 q (TX cy q) σ ++ WO)) (hS : va_S (fun a => s.heap.size ≤ a) s.heap H locs) (hsz : ls.size = 7) (l1 : ls[1]? = some (.val (.ref (q 0)))) {x2 : Int32} (l2 : ls[2]? = some (.val (.int x2))) {x3 : Int32} (l3 : ls[3]? = some (.val (.int x3))) {x5 : Int32} (l5 : ls[5]? = some (.val (.int x5))) (hp0 : x5 = 0 → sX8_stick x2 ((3 : Int32)) x3 (if ((0 : Int32)) = 1 then 1 else 0) σ = some (z, u)) (hp1 : ¬ x5 = 0 → sX8_stick x2 ((3 : Int32)) x3 (if ((1 : Int32)) = 1 then 1 else 0) σ = some (z, u)) (hz : okZ z) (hR : rmL_ask.frames + 1 ≤ R.frames ∧ 8 + (4 + 11) + rmL_ask.locals ≤ R.locals) (hC : C + 5 ≤ R.cells) (hSl : S + 28 ≤ R.slots) (kk : ∀ (H1 : Heap) (locs1 : List Loc), va_P D vwCl (gS 78 q (TX cy q) u ++ WO) H1 → va_D (fun a => s.heap.size ≤ a) (gS 78 q (TX cy q) u ++ WO) → va_S (fun a => s.heap.size ≤ a) s.heap H1 locs1 → W p l e R s m args below meth c H1 locs1 (C + 5) (S + 28) Q (F0 m 248 ls [.int (askR (zB z))])) : W p l e R s m args below meth c H locs C S Q (F0 m 214 ls []) := by
  obtain ⟨hx, hb, hml, hown, hts, hK, hX, hNt, hlf, hN8, hXs, hbl⟩ := F
  refine lv_aload_n hx hb dL_sticks_214 rfl l1 ?_
  refine lv_bipush (v := (107 : Int32)) hx hb dL_sticks_215 (by decide) ?_
  refine lv_iconst (v := (4 : Int32)) hx hb dL_sticks_217 (by decide) ?_
  refine ar_new (N' := 4) hx hb (hts _ mwarL_sticks) hK hP hD hS (fun _ h => h) (by decide) rfl (Nat.le_of_ble_eq_true rfl) (by omega) (by omega) dL_sticks_218 (fun a H hP hD hS => ?_)
  refine lv_dup hx hb dL_sticks_220 rfl ?_
  refine lv_iconst (v := (0 : Int32)) hx hb dL_sticks_221 (by decide) ?_
  refine lv_iload_n hx hb dL_sticks_222 rfl l2 ?_
  refine ar_st (j := 0) hx hb hK hP hD hS (by decide) rfl dL_sticks_223 (fun H locs hP hD hS => ?_)
  refine lv_dup hx hb dL_sticks_224 rfl ?_
  refine lv_iconst (v := (1 : Int32)) hx hb dL_sticks_225 (by decide) ?_
  refine lv_iconst (v := (3 : Int32)) hx hb dL_sticks_226 (by decide) ?_
  refine ar_st (j := 1) hx hb hK hP hD hS (by decide) rfl dL_sticks_227 (fun H locs hP hD hS => ?_)
  refine lv_dup hx hb dL_sticks_228 rfl ?_
  refine lv_iconst (v := (2 : Int32)) hx hb dL_sticks_229 (by decide) ?_
  refine lv_iload_n hx hb dL_sticks_230 rfl l3 ?_
  refine ar_st (j := 2) hx hb hK hP hD hS (by decide) rfl dL_sticks_231 (fun H locs hP hD hS => ?_)
  refine lv_dup hx hb dL_sticks_232 rfl ?_
  refine lv_iconst (v := (3 : Int32)) hx hb dL_sticks_233 (by decide) ?_
  refine lv_iload hx hb dL_sticks_234 l5 ?_
  refine lv_if_eq (tgt := 243) hx hb dL_sticks_236 (by decide) (fun h5 => ?_) (fun h5 => ?_)
  · skip
    refine lv_iconst (v := (0 : Int32)) hx hb dL_sticks_243 (by decide) ?_
    refine ar_st (j := 3) hx hb hK hP hD hS (by decide) rfl dL_sticks_244 (fun H locs hP hD hS => ?_)
    refine ar_ask (As := [.ref (q 0), .int (107 : Int32), .ref a]) (rest := []) hx hb hml hown hts hK hX hNt hP hD hS (fun hJ ha => mL_ask_stick l hlf hJ ha (hp0 h5) hz) (vx_cwSW 3 hts gL_sticks_L_ask rfl rfl rfl nVL_ask hR) rfl hsz rfl (Nat.le_of_ble_eq_true rfl) dL_sticks_245 ⟨by have := hR.1; omega, by have := hR.1; omega⟩ (fun H locs hP hD hS => ?_)
    refine W.widen (k := C + 5) (n := S + 28) (by omega) (by omega) ?_
    exact kk H locs hP hD hS
  · skip
    refine lv_iconst (v := (1 : Int32)) hx hb dL_sticks_239 (by decide) ?_
    refine lv_goto (tgt := 244) hx hb dL_sticks_240 (by decide) ?_
    refine ar_st (j := 3) hx hb hK hP hD hS (by decide) rfl dL_sticks_244 (fun H locs hP hD hS => ?_)
    refine ar_ask (As := [.ref (q 0), .int (107 : Int32), .ref a]) (rest := []) hx hb hml hown hts hK hX hNt hP hD hS (fun hJ ha => mL_ask_stick l hlf hJ ha (hp1 h5) hz) (vx_cwSW 3 hts gL_sticks_L_ask rfl rfl rfl nVL_ask hR) rfl hsz rfl (Nat.le_of_ble_eq_true rfl) dL_sticks_245 ⟨by have := hR.1; omega, by have := hR.1; omega⟩ (fun H locs hP hD hS => ?_)
    refine W.widen (k := C + 5) (n := S + 28) (by omega) (by omega) ?_
    exact kk H locs hP hD hS
set_option maxHeartbeats 4000000 in
set_option maxRecDepth 100000 in
theorem sgL_sticks_281 {p : Program} {l : Launch} {e : Env} {R : Room} {s : State} {m : MethodId} {args : Array Value} {below : List Frame} {meth : Method} {c : Code} {H : Heap} {locs : List Loc} {Q : State → Prop} {ls : Array Slot} {D : va_G} {cy : Nat → ClassId} {b L : Nat} {xs : Nat → Int32} {WO : va_W} {q : Nat → Nat} {σ u : TS} {z : Int32 ⊕ Nat} {C S : Nat} (F : lG p l s m args c cL_sticks 7 wsL_sticks D cy b L xs) (hP : va_P D vwCl (gS 78 q (TX cy q) σ ++ WO) H) (hD : va_D (fun a => s.heap.size ≤ a) (gS 78 q (TX cy q) σ ++ WO)) (hS : va_S (fun a => s.heap.size ≤ a) s.heap H locs) (hsz : ls.size = 7) (l1 : ls[1]? = some (.val (.ref (q 0)))) {x2 : Int32} (l2 : ls[2]? = some (.val (.int x2))) (hp : sX8_strikes x2 σ = some (z, u)) (hz : okZ z) (hR : rmL_ask.frames + 1 ≤ R.frames ∧ 8 + (4 + 11) + rmL_ask.locals ≤ R.locals) (hC : C + 5 ≤ R.cells) (hSl : S + 28 ≤ R.slots) (kk : ∀ (H1 : Heap) (locs1 : List Loc), va_P D vwCl (gS 78 q (TX cy q) u ++ WO) H1 → va_D (fun a => s.heap.size ≤ a) (gS 78 q (TX cy q) u ++ WO) → va_S (fun a => s.heap.size ≤ a) s.heap H1 locs1 → W p l e R s m args below meth c H1 locs1 (C + 5) (S + 28) Q (F0 m 294 ls [.int (askR z)])) : W p l e R s m args below meth c H locs C S Q (F0 m 281 ls []) := by
  obtain ⟨hx, hb, hml, hown, hts, hK, hX, hNt, hlf, hN8, hXs, hbl⟩ := F
  refine lv_aload_n hx hb dL_sticks_281 rfl l1 ?_
  refine lv_bipush (v := (115 : Int32)) hx hb dL_sticks_282 (by decide) ?_
  refine lv_iconst (v := (1 : Int32)) hx hb dL_sticks_284 (by decide) ?_
  refine ar_new (N' := 1) hx hb (hts _ mwarL_sticks) hK hP hD hS (fun _ h => h) (by decide) rfl (Nat.le_of_ble_eq_true rfl) (by omega) (by omega) dL_sticks_285 (fun a H hP hD hS => ?_)
  refine lv_dup hx hb dL_sticks_287 rfl ?_
  refine lv_iconst (v := (0 : Int32)) hx hb dL_sticks_288 (by decide) ?_
  refine lv_iload_n hx hb dL_sticks_289 rfl l2 ?_
  refine ar_st (j := 0) hx hb hK hP hD hS (by decide) rfl dL_sticks_290 (fun H locs hP hD hS => ?_)
  refine ar_ask (As := [.ref (q 0), .int (115 : Int32), .ref a]) (rest := []) hx hb hml hown hts hK hX hNt hP hD hS (fun hJ ha => mL_ask_strikes l hlf hJ ha hp hz) (vx_cwSW 3 hts gL_sticks_L_ask rfl rfl rfl nVL_ask hR) rfl hsz rfl (Nat.le_of_ble_eq_true rfl) dL_sticks_291 ⟨by have := hR.1; omega, by have := hR.1; omega⟩ (fun H locs hP hD hS => ?_)
  refine W.widen (k := C + 5) (n := S + 28) (by omega) (by omega) ?_
  exact kk H locs hP hD hS
set_option maxHeartbeats 4000000 in
set_option maxRecDepth 100000 in
theorem sgL_sticks_299 {p : Program} {l : Launch} {e : Env} {R : Room} {s : State} {m : MethodId} {args : Array Value} {below : List Frame} {meth : Method} {c : Code} {H : Heap} {locs : List Loc} {Q : State → Prop} {ls : Array Slot} {D : va_G} {cy : Nat → ClassId} {b L : Nat} {xs : Nat → Int32} {WO : va_W} {q : Nat → Nat} {σ u : TS} {z : Int32 ⊕ Nat} {C S : Nat} (F : lG p l s m args c cL_sticks 7 wsL_sticks D cy b L xs) (hP : va_P D vwCl (gS 78 q (TX cy q) σ ++ WO) H) (hD : va_D (fun a => s.heap.size ≤ a) (gS 78 q (TX cy q) σ ++ WO)) (hS : va_S (fun a => s.heap.size ≤ a) s.heap H locs) (hsz : ls.size = 7) (l1 : ls[1]? = some (.val (.ref (q 0)))) (hp : sX8_output ((1 : Int32)) σ = some (z, u)) (hz : okZ z) (hR : rmL_ask.frames + 1 ≤ R.frames ∧ 8 + (4 + 11) + rmL_ask.locals ≤ R.locals) (hC : C + 5 ≤ R.cells) (hSl : S + 28 ≤ R.slots) (kk : ∀ (H1 : Heap) (locs1 : List Loc), va_P D vwCl (gS 78 q (TX cy q) u ++ WO) H1 → va_D (fun a => s.heap.size ≤ a) (gS 78 q (TX cy q) u ++ WO) → va_S (fun a => s.heap.size ≤ a) s.heap H1 locs1 → W p l e R s m args below meth c H1 locs1 (C + 5) (S + 28) Q (F0 m 312 ls [.int (askR z)])) : W p l e R s m args below meth c H locs C S Q (F0 m 299 ls []) := by
  obtain ⟨hx, hb, hml, hown, hts, hK, hX, hNt, hlf, hN8, hXs, hbl⟩ := F
  refine lv_aload_n hx hb dL_sticks_299 rfl l1 ?_
  refine lv_bipush (v := (111 : Int32)) hx hb dL_sticks_300 (by decide) ?_
  refine lv_iconst (v := (1 : Int32)) hx hb dL_sticks_302 (by decide) ?_
  refine ar_new (N' := 1) hx hb (hts _ mwarL_sticks) hK hP hD hS (fun _ h => h) (by decide) rfl (Nat.le_of_ble_eq_true rfl) (by omega) (by omega) dL_sticks_303 (fun a H hP hD hS => ?_)
  refine lv_dup hx hb dL_sticks_305 rfl ?_
  refine lv_iconst (v := (0 : Int32)) hx hb dL_sticks_306 (by decide) ?_
  refine lv_iconst (v := (1 : Int32)) hx hb dL_sticks_307 (by decide) ?_
  refine ar_st (j := 0) hx hb hK hP hD hS (by decide) rfl dL_sticks_308 (fun H locs hP hD hS => ?_)
  refine ar_ask (As := [.ref (q 0), .int (111 : Int32), .ref a]) (rest := []) hx hb hml hown hts hK hX hNt hP hD hS (fun hJ ha => mL_ask_output l hlf hJ ha hp hz) (vx_cwSW 3 hts gL_sticks_L_ask rfl rfl rfl nVL_ask hR) rfl hsz rfl (Nat.le_of_ble_eq_true rfl) dL_sticks_309 ⟨by have := hR.1; omega, by have := hR.1; omega⟩ (fun H locs hP hD hS => ?_)
  refine W.widen (k := C + 5) (n := S + 28) (by omega) (by omega) ?_
  exact kk H locs hP hD hS
set_option maxHeartbeats 4000000 in
set_option maxRecDepth 100000 in
theorem sgL_sticks_317 {p : Program} {l : Launch} {e : Env} {R : Room} {s : State} {m : MethodId} {args : Array Value} {below : List Frame} {meth : Method} {c : Code} {H : Heap} {locs : List Loc} {Q : State → Prop} {ls : Array Slot} {D : va_G} {cy : Nat → ClassId} {b L : Nat} {xs : Nat → Int32} {WO : va_W} {q : Nat → Nat} {σ u : TS} {z : Int32 ⊕ Nat} {C S : Nat} (F : lG p l s m args c cL_sticks 7 wsL_sticks D cy b L xs) (hP : va_P D vwCl (gS 78 q (TX cy q) σ ++ WO) H) (hD : va_D (fun a => s.heap.size ≤ a) (gS 78 q (TX cy q) σ ++ WO)) (hS : va_S (fun a => s.heap.size ≤ a) s.heap H locs) (hsz : ls.size = 7) (l1 : ls[1]? = some (.val (.ref (q 0)))) {x2 : Int32} (l2 : ls[2]? = some (.val (.int x2))) (hp : sX8_word x2 ((2 : Int32)) ((5 : Int32)) σ = some (z, u)) (hz : okZ z) (hR : rmL_ask.frames + 1 ≤ R.frames ∧ 8 + (4 + 11) + rmL_ask.locals ≤ R.locals) (hC : C + 5 ≤ R.cells) (hSl : S + 28 ≤ R.slots) (kk : ∀ (H1 : Heap) (locs1 : List Loc), va_P D vwCl (gS 78 q (TX cy q) u ++ WO) H1 → va_D (fun a => s.heap.size ≤ a) (gS 78 q (TX cy q) u ++ WO) → va_S (fun a => s.heap.size ≤ a) s.heap H1 locs1 → W p l e R s m args below meth c H1 locs1 (C + 5) (S + 28) Q (F0 m 338 ls [.int (askR z)])) : W p l e R s m args below meth c H locs C S Q (F0 m 317 ls []) := by
  obtain ⟨hx, hb, hml, hown, hts, hK, hX, hNt, hlf, hN8, hXs, hbl⟩ := F
  refine lv_aload_n hx hb dL_sticks_317 rfl l1 ?_
  refine lv_bipush (v := (119 : Int32)) hx hb dL_sticks_318 (by decide) ?_
  refine lv_iconst (v := (3 : Int32)) hx hb dL_sticks_320 (by decide) ?_
  refine ar_new (N' := 3) hx hb (hts _ mwarL_sticks) hK hP hD hS (fun _ h => h) (by decide) rfl (Nat.le_of_ble_eq_true rfl) (by omega) (by omega) dL_sticks_321 (fun a H hP hD hS => ?_)
  refine lv_dup hx hb dL_sticks_323 rfl ?_
  refine lv_iconst (v := (0 : Int32)) hx hb dL_sticks_324 (by decide) ?_
  refine lv_iload_n hx hb dL_sticks_325 rfl l2 ?_
  refine ar_st (j := 0) hx hb hK hP hD hS (by decide) rfl dL_sticks_326 (fun H locs hP hD hS => ?_)
  refine lv_dup hx hb dL_sticks_327 rfl ?_
  refine lv_iconst (v := (1 : Int32)) hx hb dL_sticks_328 (by decide) ?_
  refine lv_iconst (v := (2 : Int32)) hx hb dL_sticks_329 (by decide) ?_
  refine ar_st (j := 1) hx hb hK hP hD hS (by decide) rfl dL_sticks_330 (fun H locs hP hD hS => ?_)
  refine lv_dup hx hb dL_sticks_331 rfl ?_
  refine lv_iconst (v := (2 : Int32)) hx hb dL_sticks_332 (by decide) ?_
  refine lv_iconst (v := (5 : Int32)) hx hb dL_sticks_333 (by decide) ?_
  refine ar_st (j := 2) hx hb hK hP hD hS (by decide) rfl dL_sticks_334 (fun H locs hP hD hS => ?_)
  refine ar_ask (As := [.ref (q 0), .int (119 : Int32), .ref a]) (rest := []) hx hb hml hown hts hK hX hNt hP hD hS (fun hJ ha => mL_ask_word l hlf hJ ha hp hz) (vx_cwSW 3 hts gL_sticks_L_ask rfl rfl rfl nVL_ask hR) rfl hsz rfl (Nat.le_of_ble_eq_true rfl) dL_sticks_335 ⟨by have := hR.1; omega, by have := hR.1; omega⟩ (fun H locs hP hD hS => ?_)
  refine W.widen (k := C + 5) (n := S + 28) (by omega) (by omega) ?_
  exact kk H locs hP hD hS
set_option maxHeartbeats 4000000 in
set_option maxRecDepth 100000 in
theorem sgL_sticks_371 {p : Program} {l : Launch} {e : Env} {R : Room} {s : State} {m : MethodId} {args : Array Value} {below : List Frame} {meth : Method} {c : Code} {H : Heap} {locs : List Loc} {Q : State → Prop} {ls : Array Slot} {D : va_G} {cy : Nat → ClassId} {b L : Nat} {xs : Nat → Int32} {WO : va_W} {q : Nat → Nat} {σ u : TS} {z : Int32 ⊕ Nat} {C S : Nat} (F : lG p l s m args c cL_sticks 7 wsL_sticks D cy b L xs) (hP : va_P D vwCl (gS 78 q (TX cy q) σ ++ WO) H) (hD : va_D (fun a => s.heap.size ≤ a) (gS 78 q (TX cy q) σ ++ WO)) (hS : va_S (fun a => s.heap.size ≤ a) s.heap H locs) (hsz : ls.size = 7) (l1 : ls[1]? = some (.val (.ref (q 0)))) (hp : sX8_line ((0 : Int32)) (lchr ((114 : Int32))) σ = some (z, u)) (hz : okZ z) (hR : rmL_ask.frames + 1 ≤ R.frames ∧ 8 + (4 + 11) + rmL_ask.locals ≤ R.locals) (hC : C + 5 ≤ R.cells) (hSl : S + 28 ≤ R.slots) (kk : ∀ (H1 : Heap) (locs1 : List Loc), va_P D vwCl (gS 78 q (TX cy q) u ++ WO) H1 → va_D (fun a => s.heap.size ≤ a) (gS 78 q (TX cy q) u ++ WO) → va_S (fun a => s.heap.size ≤ a) s.heap H1 locs1 → W p l e R s m args below meth c H1 locs1 (C + 5) (S + 28) Q (F0 m 389 ls [.int (askR z)])) : W p l e R s m args below meth c H locs C S Q (F0 m 371 ls []) := by
  obtain ⟨hx, hb, hml, hown, hts, hK, hX, hNt, hlf, hN8, hXs, hbl⟩ := F
  refine lv_aload_n hx hb dL_sticks_371 rfl l1 ?_
  refine lv_bipush (v := (78 : Int32)) hx hb dL_sticks_372 (by decide) ?_
  refine lv_iconst (v := (2 : Int32)) hx hb dL_sticks_374 (by decide) ?_
  refine ar_new (N' := 2) hx hb (hts _ mwarL_sticks) hK hP hD hS (fun _ h => h) (by decide) rfl (Nat.le_of_ble_eq_true rfl) (by omega) (by omega) dL_sticks_375 (fun a H hP hD hS => ?_)
  refine lv_dup hx hb dL_sticks_377 rfl ?_
  refine lv_iconst (v := (0 : Int32)) hx hb dL_sticks_378 (by decide) ?_
  refine lv_iconst (v := (0 : Int32)) hx hb dL_sticks_379 (by decide) ?_
  refine ar_st (j := 0) hx hb hK hP hD hS (by decide) rfl dL_sticks_380 (fun H locs hP hD hS => ?_)
  refine lv_dup hx hb dL_sticks_381 rfl ?_
  refine lv_iconst (v := (1 : Int32)) hx hb dL_sticks_382 (by decide) ?_
  refine lv_bipush (v := (114 : Int32)) hx hb dL_sticks_383 (by decide) ?_
  refine ar_st (j := 1) hx hb hK hP hD hS (by decide) rfl dL_sticks_385 (fun H locs hP hD hS => ?_)
  refine ar_ask (As := [.ref (q 0), .int (78 : Int32), .ref a]) (rest := []) hx hb hml hown hts hK hX hNt hP hD hS (fun hJ ha => mL_ask_line l hlf hJ ha hp hz) (vx_cwSW 3 hts gL_sticks_L_ask rfl rfl rfl nVL_ask hR) rfl hsz rfl (Nat.le_of_ble_eq_true rfl) dL_sticks_386 ⟨by have := hR.1; omega, by have := hR.1; omega⟩ (fun H locs hP hD hS => ?_)
  refine W.widen (k := C + 5) (n := S + 28) (by omega) (by omega) ?_
  exact kk H locs hP hD hS
set_option maxHeartbeats 4000000 in
set_option maxRecDepth 100000 in
theorem sgL_sticks_394 {p : Program} {l : Launch} {e : Env} {R : Room} {s : State} {m : MethodId} {args : Array Value} {below : List Frame} {meth : Method} {c : Code} {H : Heap} {locs : List Loc} {Q : State → Prop} {ls : Array Slot} {D : va_G} {cy : Nat → ClassId} {b L : Nat} {xs : Nat → Int32} {WO : va_W} {q : Nat → Nat} {σ u : TS} {z : Int32 ⊕ Nat} {C S : Nat} (F : lG p l s m args c cL_sticks 7 wsL_sticks D cy b L xs) (hP : va_P D vwCl (gS 78 q (TX cy q) σ ++ WO) H) (hD : va_D (fun a => s.heap.size ≤ a) (gS 78 q (TX cy q) σ ++ WO)) (hS : va_S (fun a => s.heap.size ≤ a) s.heap H locs) (hsz : ls.size = 7) (l1 : ls[1]? = some (.val (.ref (q 0)))) (hp : sX8_line ((0 : Int32)) (lchr ((99 : Int32))) σ = some (z, u)) (hz : okZ z) (hR : rmL_ask.frames + 1 ≤ R.frames ∧ 8 + (4 + 11) + rmL_ask.locals ≤ R.locals) (hC : C + 5 ≤ R.cells) (hSl : S + 28 ≤ R.slots) (kk : ∀ (H1 : Heap) (locs1 : List Loc), va_P D vwCl (gS 78 q (TX cy q) u ++ WO) H1 → va_D (fun a => s.heap.size ≤ a) (gS 78 q (TX cy q) u ++ WO) → va_S (fun a => s.heap.size ≤ a) s.heap H1 locs1 → W p l e R s m args below meth c H1 locs1 (C + 5) (S + 28) Q (F0 m 412 ls [.int (askR z)])) : W p l e R s m args below meth c H locs C S Q (F0 m 394 ls []) := by
  obtain ⟨hx, hb, hml, hown, hts, hK, hX, hNt, hlf, hN8, hXs, hbl⟩ := F
  refine lv_aload_n hx hb dL_sticks_394 rfl l1 ?_
  refine lv_bipush (v := (78 : Int32)) hx hb dL_sticks_395 (by decide) ?_
  refine lv_iconst (v := (2 : Int32)) hx hb dL_sticks_397 (by decide) ?_
  refine ar_new (N' := 2) hx hb (hts _ mwarL_sticks) hK hP hD hS (fun _ h => h) (by decide) rfl (Nat.le_of_ble_eq_true rfl) (by omega) (by omega) dL_sticks_398 (fun a H hP hD hS => ?_)
  refine lv_dup hx hb dL_sticks_400 rfl ?_
  refine lv_iconst (v := (0 : Int32)) hx hb dL_sticks_401 (by decide) ?_
  refine lv_iconst (v := (0 : Int32)) hx hb dL_sticks_402 (by decide) ?_
  refine ar_st (j := 0) hx hb hK hP hD hS (by decide) rfl dL_sticks_403 (fun H locs hP hD hS => ?_)
  refine lv_dup hx hb dL_sticks_404 rfl ?_
  refine lv_iconst (v := (1 : Int32)) hx hb dL_sticks_405 (by decide) ?_
  refine lv_bipush (v := (99 : Int32)) hx hb dL_sticks_406 (by decide) ?_
  refine ar_st (j := 1) hx hb hK hP hD hS (by decide) rfl dL_sticks_408 (fun H locs hP hD hS => ?_)
  refine ar_ask (As := [.ref (q 0), .int (78 : Int32), .ref a]) (rest := []) hx hb hml hown hts hK hX hNt hP hD hS (fun hJ ha => mL_ask_line l hlf hJ ha hp hz) (vx_cwSW 3 hts gL_sticks_L_ask rfl rfl rfl nVL_ask hR) rfl hsz rfl (Nat.le_of_ble_eq_true rfl) dL_sticks_409 ⟨by have := hR.1; omega, by have := hR.1; omega⟩ (fun H locs hP hD hS => ?_)
  refine W.widen (k := C + 5) (n := S + 28) (by omega) (by omega) ?_
  exact kk H locs hP hD hS
set_option maxHeartbeats 4000000 in
set_option maxRecDepth 100000 in
theorem sgL_sticks_416 {p : Program} {l : Launch} {e : Env} {R : Room} {s : State} {m : MethodId} {args : Array Value} {below : List Frame} {meth : Method} {c : Code} {H : Heap} {locs : List Loc} {Q : State → Prop} {ls : Array Slot} {D : va_G} {cy : Nat → ClassId} {b L : Nat} {xs : Nat → Int32} {WO : va_W} {q : Nat → Nat} {σ u : TS} {z : Int32 ⊕ Nat} {C S : Nat} (F : lG p l s m args c cL_sticks 7 wsL_sticks D cy b L xs) (hP : va_P D vwCl (gS 78 q (TX cy q) σ ++ WO) H) (hD : va_D (fun a => s.heap.size ≤ a) (gS 78 q (TX cy q) σ ++ WO)) (hS : va_S (fun a => s.heap.size ≤ a) s.heap H locs) (hsz : ls.size = 7) (l1 : ls[1]? = some (.val (.ref (q 0)))) (hp : sX8_line ((0 : Int32)) (lchr ((116 : Int32))) σ = some (z, u)) (hz : okZ z) (hR : rmL_ask.frames + 1 ≤ R.frames ∧ 8 + (4 + 11) + rmL_ask.locals ≤ R.locals) (hC : C + 5 ≤ R.cells) (hSl : S + 28 ≤ R.slots) (kk : ∀ (H1 : Heap) (locs1 : List Loc), va_P D vwCl (gS 78 q (TX cy q) u ++ WO) H1 → va_D (fun a => s.heap.size ≤ a) (gS 78 q (TX cy q) u ++ WO) → va_S (fun a => s.heap.size ≤ a) s.heap H1 locs1 → W p l e R s m args below meth c H1 locs1 (C + 5) (S + 28) Q (F0 m 434 ls [.int (askR z)])) : W p l e R s m args below meth c H locs C S Q (F0 m 416 ls []) := by
  obtain ⟨hx, hb, hml, hown, hts, hK, hX, hNt, hlf, hN8, hXs, hbl⟩ := F
  refine lv_aload_n hx hb dL_sticks_416 rfl l1 ?_
  refine lv_bipush (v := (78 : Int32)) hx hb dL_sticks_417 (by decide) ?_
  refine lv_iconst (v := (2 : Int32)) hx hb dL_sticks_419 (by decide) ?_
  refine ar_new (N' := 2) hx hb (hts _ mwarL_sticks) hK hP hD hS (fun _ h => h) (by decide) rfl (Nat.le_of_ble_eq_true rfl) (by omega) (by omega) dL_sticks_420 (fun a H hP hD hS => ?_)
  refine lv_dup hx hb dL_sticks_422 rfl ?_
  refine lv_iconst (v := (0 : Int32)) hx hb dL_sticks_423 (by decide) ?_
  refine lv_iconst (v := (0 : Int32)) hx hb dL_sticks_424 (by decide) ?_
  refine ar_st (j := 0) hx hb hK hP hD hS (by decide) rfl dL_sticks_425 (fun H locs hP hD hS => ?_)
  refine lv_dup hx hb dL_sticks_426 rfl ?_
  refine lv_iconst (v := (1 : Int32)) hx hb dL_sticks_427 (by decide) ?_
  refine lv_bipush (v := (116 : Int32)) hx hb dL_sticks_428 (by decide) ?_
  refine ar_st (j := 1) hx hb hK hP hD hS (by decide) rfl dL_sticks_430 (fun H locs hP hD hS => ?_)
  refine ar_ask (As := [.ref (q 0), .int (78 : Int32), .ref a]) (rest := []) hx hb hml hown hts hK hX hNt hP hD hS (fun hJ ha => mL_ask_line l hlf hJ ha hp hz) (vx_cwSW 3 hts gL_sticks_L_ask rfl rfl rfl nVL_ask hR) rfl hsz rfl (Nat.le_of_ble_eq_true rfl) dL_sticks_431 ⟨by have := hR.1; omega, by have := hR.1; omega⟩ (fun H locs hP hD hS => ?_)
  refine W.widen (k := C + 5) (n := S + 28) (by omega) (by omega) ?_
  exact kk H locs hP hD hS
set_option maxHeartbeats 4000000 in
set_option maxRecDepth 100000 in
theorem sgL_sticks_438 {p : Program} {l : Launch} {e : Env} {R : Room} {s : State} {m : MethodId} {args : Array Value} {below : List Frame} {meth : Method} {c : Code} {H : Heap} {locs : List Loc} {Q : State → Prop} {ls : Array Slot} {D : va_G} {cy : Nat → ClassId} {b L : Nat} {xs : Nat → Int32} {WO : va_W} {q : Nat → Nat} {σ u : TS} {z : Int32 ⊕ Nat} {C S : Nat} (F : lG p l s m args c cL_sticks 7 wsL_sticks D cy b L xs) (hP : va_P D vwCl (gS 78 q (TX cy q) σ ++ WO) H) (hD : va_D (fun a => s.heap.size ≤ a) (gS 78 q (TX cy q) σ ++ WO)) (hS : va_S (fun a => s.heap.size ≤ a) s.heap H locs) (hsz : ls.size = 7) (l1 : ls[1]? = some (.val (.ref (q 0)))) {x2 : Int32} (l2 : ls[2]? = some (.val (.int x2))) (hp : sX8_test x2 σ = some (z, u)) (hz : okZ z) (hR : rmL_ask.frames + 1 ≤ R.frames ∧ 8 + (4 + 11) + rmL_ask.locals ≤ R.locals) (hC : C + 5 ≤ R.cells) (hSl : S + 28 ≤ R.slots) (kk : ∀ (H1 : Heap) (locs1 : List Loc), va_P D vwCl (gS 78 q (TX cy q) u ++ WO) H1 → va_D (fun a => s.heap.size ≤ a) (gS 78 q (TX cy q) u ++ WO) → va_S (fun a => s.heap.size ≤ a) s.heap H1 locs1 → W p l e R s m args below meth c H1 locs1 (C + 5) (S + 28) Q (F0 m 451 ls [.int (askR (zB z))])) : W p l e R s m args below meth c H locs C S Q (F0 m 438 ls []) := by
  obtain ⟨hx, hb, hml, hown, hts, hK, hX, hNt, hlf, hN8, hXs, hbl⟩ := F
  refine lv_aload_n hx hb dL_sticks_438 rfl l1 ?_
  refine lv_bipush (v := (116 : Int32)) hx hb dL_sticks_439 (by decide) ?_
  refine lv_iconst (v := (1 : Int32)) hx hb dL_sticks_441 (by decide) ?_
  refine ar_new (N' := 1) hx hb (hts _ mwarL_sticks) hK hP hD hS (fun _ h => h) (by decide) rfl (Nat.le_of_ble_eq_true rfl) (by omega) (by omega) dL_sticks_442 (fun a H hP hD hS => ?_)
  refine lv_dup hx hb dL_sticks_444 rfl ?_
  refine lv_iconst (v := (0 : Int32)) hx hb dL_sticks_445 (by decide) ?_
  refine lv_iload_n hx hb dL_sticks_446 rfl l2 ?_
  refine ar_st (j := 0) hx hb hK hP hD hS (by decide) rfl dL_sticks_447 (fun H locs hP hD hS => ?_)
  refine ar_ask (As := [.ref (q 0), .int (116 : Int32), .ref a]) (rest := []) hx hb hml hown hts hK hX hNt hP hD hS (fun hJ ha => mL_ask_test l hlf hJ ha hp hz) (vx_cwSW 3 hts gL_sticks_L_ask rfl rfl rfl nVL_ask hR) rfl hsz rfl (Nat.le_of_ble_eq_true rfl) dL_sticks_448 ⟨by have := hR.1; omega, by have := hR.1; omega⟩ (fun H locs hP hD hS => ?_)
  refine W.widen (k := C + 5) (n := S + 28) (by omega) (by omega) ?_
  exact kk H locs hP hD hS
set_option maxHeartbeats 4000000 in
set_option maxRecDepth 100000 in
theorem sgL_sticks_454 {p : Program} {l : Launch} {e : Env} {R : Room} {s : State} {m : MethodId} {args : Array Value} {below : List Frame} {meth : Method} {c : Code} {H : Heap} {locs : List Loc} {Q : State → Prop} {ls : Array Slot} {D : va_G} {cy : Nat → ClassId} {b L : Nat} {xs : Nat → Int32} {WO : va_W} {q : Nat → Nat} {σ u : TS} {z : Int32 ⊕ Nat} {C S : Nat} (F : lG p l s m args c cL_sticks 7 wsL_sticks D cy b L xs) (hP : va_P D vwCl (gS 78 q (TX cy q) σ ++ WO) H) (hD : va_D (fun a => s.heap.size ≤ a) (gS 78 q (TX cy q) σ ++ WO)) (hS : va_S (fun a => s.heap.size ≤ a) s.heap H locs) (hsz : ls.size = 7) (l1 : ls[1]? = some (.val (.ref (q 0)))) {x2 : Int32} (l2 : ls[2]? = some (.val (.int x2))) (hp : sX8_back x2 σ = some (z, u)) (hz : okZ z) (hR : rmL_ask.frames + 1 ≤ R.frames ∧ 8 + (4 + 11) + rmL_ask.locals ≤ R.locals) (hC : C + 5 ≤ R.cells) (hSl : S + 28 ≤ R.slots) (kk : ∀ (H1 : Heap) (locs1 : List Loc), va_P D vwCl (gS 78 q (TX cy q) u ++ WO) H1 → va_D (fun a => s.heap.size ≤ a) (gS 78 q (TX cy q) u ++ WO) → va_S (fun a => s.heap.size ≤ a) s.heap H1 locs1 → W p l e R s m args below meth c H1 locs1 (C + 5) (S + 28) Q (F0 m 467 ls [.int (askR z)])) : W p l e R s m args below meth c H locs C S Q (F0 m 454 ls []) := by
  obtain ⟨hx, hb, hml, hown, hts, hK, hX, hNt, hlf, hN8, hXs, hbl⟩ := F
  refine lv_aload_n hx hb dL_sticks_454 rfl l1 ?_
  refine lv_bipush (v := (98 : Int32)) hx hb dL_sticks_455 (by decide) ?_
  refine lv_iconst (v := (1 : Int32)) hx hb dL_sticks_457 (by decide) ?_
  refine ar_new (N' := 1) hx hb (hts _ mwarL_sticks) hK hP hD hS (fun _ h => h) (by decide) rfl (Nat.le_of_ble_eq_true rfl) (by omega) (by omega) dL_sticks_458 (fun a H hP hD hS => ?_)
  refine lv_dup hx hb dL_sticks_460 rfl ?_
  refine lv_iconst (v := (0 : Int32)) hx hb dL_sticks_461 (by decide) ?_
  refine lv_iload_n hx hb dL_sticks_462 rfl l2 ?_
  refine ar_st (j := 0) hx hb hK hP hD hS (by decide) rfl dL_sticks_463 (fun H locs hP hD hS => ?_)
  refine ar_ask (As := [.ref (q 0), .int (98 : Int32), .ref a]) (rest := []) hx hb hml hown hts hK hX hNt hP hD hS (fun hJ ha => mL_ask_back l hlf hJ ha hp hz) (vx_cwSW 3 hts gL_sticks_L_ask rfl rfl rfl nVL_ask hR) rfl hsz rfl (Nat.le_of_ble_eq_true rfl) dL_sticks_464 ⟨by have := hR.1; omega, by have := hR.1; omega⟩ (fun H locs hP hD hS => ?_)
  refine W.widen (k := C + 5) (n := S + 28) (by omega) (by omega) ?_
  exact kk H locs hP hD hS
set_option maxHeartbeats 4000000 in
set_option maxRecDepth 100000 in
theorem sgL_sticks_472 {p : Program} {l : Launch} {e : Env} {R : Room} {s : State} {m : MethodId} {args : Array Value} {below : List Frame} {meth : Method} {c : Code} {H : Heap} {locs : List Loc} {Q : State → Prop} {ls : Array Slot} {D : va_G} {cy : Nat → ClassId} {b L : Nat} {xs : Nat → Int32} {WO : va_W} {q : Nat → Nat} {σ u : TS} {z : Int32 ⊕ Nat} {C S : Nat} (F : lG p l s m args c cL_sticks 7 wsL_sticks D cy b L xs) (hP : va_P D vwCl (gS 78 q (TX cy q) σ ++ WO) H) (hD : va_D (fun a => s.heap.size ≤ a) (gS 78 q (TX cy q) σ ++ WO)) (hS : va_S (fun a => s.heap.size ≤ a) s.heap H locs) (hsz : ls.size = 7) (l1 : ls[1]? = some (.val (.ref (q 0)))) {x2 : Int32} (l2 : ls[2]? = some (.val (.int x2))) (hp : sX8_fix x2 σ = some (z, u)) (hz : okZ z) (hR : rmL_ask.frames + 1 ≤ R.frames ∧ 8 + (4 + 11) + rmL_ask.locals ≤ R.locals) (hC : C + 5 ≤ R.cells) (hSl : S + 28 ≤ R.slots) (kk : ∀ (H1 : Heap) (locs1 : List Loc), va_P D vwCl (gS 78 q (TX cy q) u ++ WO) H1 → va_D (fun a => s.heap.size ≤ a) (gS 78 q (TX cy q) u ++ WO) → va_S (fun a => s.heap.size ≤ a) s.heap H1 locs1 → W p l e R s m args below meth c H1 locs1 (C + 5) (S + 28) Q (F0 m 485 ls [.int (askR (zB z))])) : W p l e R s m args below meth c H locs C S Q (F0 m 472 ls []) := by
  obtain ⟨hx, hb, hml, hown, hts, hK, hX, hNt, hlf, hN8, hXs, hbl⟩ := F
  refine lv_aload_n hx hb dL_sticks_472 rfl l1 ?_
  refine lv_bipush (v := (120 : Int32)) hx hb dL_sticks_473 (by decide) ?_
  refine lv_iconst (v := (1 : Int32)) hx hb dL_sticks_475 (by decide) ?_
  refine ar_new (N' := 1) hx hb (hts _ mwarL_sticks) hK hP hD hS (fun _ h => h) (by decide) rfl (Nat.le_of_ble_eq_true rfl) (by omega) (by omega) dL_sticks_476 (fun a H hP hD hS => ?_)
  refine lv_dup hx hb dL_sticks_478 rfl ?_
  refine lv_iconst (v := (0 : Int32)) hx hb dL_sticks_479 (by decide) ?_
  refine lv_iload_n hx hb dL_sticks_480 rfl l2 ?_
  refine ar_st (j := 0) hx hb hK hP hD hS (by decide) rfl dL_sticks_481 (fun H locs hP hD hS => ?_)
  refine ar_ask (As := [.ref (q 0), .int (120 : Int32), .ref a]) (rest := []) hx hb hml hown hts hK hX hNt hP hD hS (fun hJ ha => mL_ask_fix l hlf hJ ha hp hz) (vx_cwSW 3 hts gL_sticks_L_ask rfl rfl rfl nVL_ask hR) rfl hsz rfl (Nat.le_of_ble_eq_true rfl) dL_sticks_482 ⟨by have := hR.1; omega, by have := hR.1; omega⟩ (fun H locs hP hD hS => ?_)
  refine W.widen (k := C + 5) (n := S + 28) (by omega) (by omega) ?_
  exact kk H locs hP hD hS
set_option maxHeartbeats 4000000 in
set_option maxRecDepth 100000 in
theorem sgL_sticks_489 {p : Program} {l : Launch} {e : Env} {R : Room} {s : State} {m : MethodId} {args : Array Value} {below : List Frame} {meth : Method} {c : Code} {H : Heap} {locs : List Loc} {Q : State → Prop} {ls : Array Slot} {D : va_G} {cy : Nat → ClassId} {b L : Nat} {xs : Nat → Int32} {WO : va_W} {q : Nat → Nat} {σ u : TS} {z : Int32 ⊕ Nat} {C S : Nat} (F : lG p l s m args c cL_sticks 7 wsL_sticks D cy b L xs) (hP : va_P D vwCl (gS 78 q (TX cy q) σ ++ WO) H) (hD : va_D (fun a => s.heap.size ≤ a) (gS 78 q (TX cy q) σ ++ WO)) (hS : va_S (fun a => s.heap.size ≤ a) s.heap H locs) (hsz : ls.size = 7) (l1 : ls[1]? = some (.val (.ref (q 0)))) {x2 : Int32} (l2 : ls[2]? = some (.val (.int x2))) (hp : sX8_fix x2 σ = some (z, u)) (hz : okZ z) (hR : rmL_ask.frames + 1 ≤ R.frames ∧ 8 + (4 + 11) + rmL_ask.locals ≤ R.locals) (hC : C + 5 ≤ R.cells) (hSl : S + 28 ≤ R.slots) (kk : ∀ (H1 : Heap) (locs1 : List Loc), va_P D vwCl (gS 78 q (TX cy q) u ++ WO) H1 → va_D (fun a => s.heap.size ≤ a) (gS 78 q (TX cy q) u ++ WO) → va_S (fun a => s.heap.size ≤ a) s.heap H1 locs1 → W p l e R s m args below meth c H1 locs1 (C + 5) (S + 28) Q (F0 m 502 ls [.int (askR (zB z))])) : W p l e R s m args below meth c H locs C S Q (F0 m 489 ls []) := by
  obtain ⟨hx, hb, hml, hown, hts, hK, hX, hNt, hlf, hN8, hXs, hbl⟩ := F
  refine lv_aload_n hx hb dL_sticks_489 rfl l1 ?_
  refine lv_bipush (v := (120 : Int32)) hx hb dL_sticks_490 (by decide) ?_
  refine lv_iconst (v := (1 : Int32)) hx hb dL_sticks_492 (by decide) ?_
  refine ar_new (N' := 1) hx hb (hts _ mwarL_sticks) hK hP hD hS (fun _ h => h) (by decide) rfl (Nat.le_of_ble_eq_true rfl) (by omega) (by omega) dL_sticks_493 (fun a H hP hD hS => ?_)
  refine lv_dup hx hb dL_sticks_495 rfl ?_
  refine lv_iconst (v := (0 : Int32)) hx hb dL_sticks_496 (by decide) ?_
  refine lv_iload_n hx hb dL_sticks_497 rfl l2 ?_
  refine ar_st (j := 0) hx hb hK hP hD hS (by decide) rfl dL_sticks_498 (fun H locs hP hD hS => ?_)
  refine ar_ask (As := [.ref (q 0), .int (120 : Int32), .ref a]) (rest := []) hx hb hml hown hts hK hX hNt hP hD hS (fun hJ ha => mL_ask_fix l hlf hJ ha hp hz) (vx_cwSW 3 hts gL_sticks_L_ask rfl rfl rfl nVL_ask hR) rfl hsz rfl (Nat.le_of_ble_eq_true rfl) dL_sticks_499 ⟨by have := hR.1; omega, by have := hR.1; omega⟩ (fun H locs hP hD hS => ?_)
  refine W.widen (k := C + 5) (n := S + 28) (by omega) (by omega) ?_
  exact kk H locs hP hD hS
set_option maxHeartbeats 4000000 in
set_option maxRecDepth 100000 in
theorem sgL_sticks_505 {p : Program} {l : Launch} {e : Env} {R : Room} {s : State} {m : MethodId} {args : Array Value} {below : List Frame} {meth : Method} {c : Code} {H : Heap} {locs : List Loc} {Q : State → Prop} {ls : Array Slot} {D : va_G} {cy : Nat → ClassId} {b L : Nat} {xs : Nat → Int32} {WO : va_W} {q : Nat → Nat} {σ u : TS} {z : Int32 ⊕ Nat} {C S : Nat} (F : lG p l s m args c cL_sticks 7 wsL_sticks D cy b L xs) (hP : va_P D vwCl (gS 78 q (TX cy q) σ ++ WO) H) (hD : va_D (fun a => s.heap.size ≤ a) (gS 78 q (TX cy q) σ ++ WO)) (hS : va_S (fun a => s.heap.size ≤ a) s.heap H locs) (hsz : ls.size = 7) (l1 : ls[1]? = some (.val (.ref (q 0)))) {x2 : Int32} (l2 : ls[2]? = some (.val (.int x2))) (hp : sX8_test x2 σ = some (z, u)) (hz : okZ z) (hR : rmL_ask.frames + 1 ≤ R.frames ∧ 8 + (4 + 11) + rmL_ask.locals ≤ R.locals) (hC : C + 5 ≤ R.cells) (hSl : S + 28 ≤ R.slots) (kk : ∀ (H1 : Heap) (locs1 : List Loc), va_P D vwCl (gS 78 q (TX cy q) u ++ WO) H1 → va_D (fun a => s.heap.size ≤ a) (gS 78 q (TX cy q) u ++ WO) → va_S (fun a => s.heap.size ≤ a) s.heap H1 locs1 → W p l e R s m args below meth c H1 locs1 (C + 5) (S + 28) Q (F0 m 518 ls [.int (askR (zB z))])) : W p l e R s m args below meth c H locs C S Q (F0 m 505 ls []) := by
  obtain ⟨hx, hb, hml, hown, hts, hK, hX, hNt, hlf, hN8, hXs, hbl⟩ := F
  refine lv_aload_n hx hb dL_sticks_505 rfl l1 ?_
  refine lv_bipush (v := (116 : Int32)) hx hb dL_sticks_506 (by decide) ?_
  refine lv_iconst (v := (1 : Int32)) hx hb dL_sticks_508 (by decide) ?_
  refine ar_new (N' := 1) hx hb (hts _ mwarL_sticks) hK hP hD hS (fun _ h => h) (by decide) rfl (Nat.le_of_ble_eq_true rfl) (by omega) (by omega) dL_sticks_509 (fun a H hP hD hS => ?_)
  refine lv_dup hx hb dL_sticks_511 rfl ?_
  refine lv_iconst (v := (0 : Int32)) hx hb dL_sticks_512 (by decide) ?_
  refine lv_iload_n hx hb dL_sticks_513 rfl l2 ?_
  refine ar_st (j := 0) hx hb hK hP hD hS (by decide) rfl dL_sticks_514 (fun H locs hP hD hS => ?_)
  refine ar_ask (As := [.ref (q 0), .int (116 : Int32), .ref a]) (rest := []) hx hb hml hown hts hK hX hNt hP hD hS (fun hJ ha => mL_ask_test l hlf hJ ha hp hz) (vx_cwSW 3 hts gL_sticks_L_ask rfl rfl rfl nVL_ask hR) rfl hsz rfl (Nat.le_of_ble_eq_true rfl) dL_sticks_515 ⟨by have := hR.1; omega, by have := hR.1; omega⟩ (fun H locs hP hD hS => ?_)
  refine W.widen (k := C + 5) (n := S + 28) (by omega) (by omega) ?_
  exact kk H locs hP hD hS
set_option maxHeartbeats 4000000 in
set_option maxRecDepth 100000 in
theorem sgL_sticks_522 {p : Program} {l : Launch} {e : Env} {R : Room} {s : State} {m : MethodId} {args : Array Value} {below : List Frame} {meth : Method} {c : Code} {H : Heap} {locs : List Loc} {Q : State → Prop} {ls : Array Slot} {D : va_G} {cy : Nat → ClassId} {b L : Nat} {xs : Nat → Int32} {WO : va_W} {q : Nat → Nat} {σ u : TS} {z : Int32 ⊕ Nat} {C S : Nat} (F : lG p l s m args c cL_sticks 7 wsL_sticks D cy b L xs) (hP : va_P D vwCl (gS 78 q (TX cy q) σ ++ WO) H) (hD : va_D (fun a => s.heap.size ≤ a) (gS 78 q (TX cy q) σ ++ WO)) (hS : va_S (fun a => s.heap.size ≤ a) s.heap H locs) (hsz : ls.size = 7) (l1 : ls[1]? = some (.val (.ref (q 0)))) {x2 : Int32} (l2 : ls[2]? = some (.val (.int x2))) (hp : sX8_back x2 σ = some (z, u)) (hz : okZ z) (hR : rmL_ask.frames + 1 ≤ R.frames ∧ 8 + (4 + 11) + rmL_ask.locals ≤ R.locals) (hC : C + 5 ≤ R.cells) (hSl : S + 28 ≤ R.slots) (kk : ∀ (H1 : Heap) (locs1 : List Loc), va_P D vwCl (gS 78 q (TX cy q) u ++ WO) H1 → va_D (fun a => s.heap.size ≤ a) (gS 78 q (TX cy q) u ++ WO) → va_S (fun a => s.heap.size ≤ a) s.heap H1 locs1 → W p l e R s m args below meth c H1 locs1 (C + 5) (S + 28) Q (F0 m 535 ls [.int (askR z)])) : W p l e R s m args below meth c H locs C S Q (F0 m 522 ls []) := by
  obtain ⟨hx, hb, hml, hown, hts, hK, hX, hNt, hlf, hN8, hXs, hbl⟩ := F
  refine lv_aload_n hx hb dL_sticks_522 rfl l1 ?_
  refine lv_bipush (v := (98 : Int32)) hx hb dL_sticks_523 (by decide) ?_
  refine lv_iconst (v := (1 : Int32)) hx hb dL_sticks_525 (by decide) ?_
  refine ar_new (N' := 1) hx hb (hts _ mwarL_sticks) hK hP hD hS (fun _ h => h) (by decide) rfl (Nat.le_of_ble_eq_true rfl) (by omega) (by omega) dL_sticks_526 (fun a H hP hD hS => ?_)
  refine lv_dup hx hb dL_sticks_528 rfl ?_
  refine lv_iconst (v := (0 : Int32)) hx hb dL_sticks_529 (by decide) ?_
  refine lv_iload_n hx hb dL_sticks_530 rfl l2 ?_
  refine ar_st (j := 0) hx hb hK hP hD hS (by decide) rfl dL_sticks_531 (fun H locs hP hD hS => ?_)
  refine ar_ask (As := [.ref (q 0), .int (98 : Int32), .ref a]) (rest := []) hx hb hml hown hts hK hX hNt hP hD hS (fun hJ ha => mL_ask_back l hlf hJ ha hp hz) (vx_cwSW 3 hts gL_sticks_L_ask rfl rfl rfl nVL_ask hR) rfl hsz rfl (Nat.le_of_ble_eq_true rfl) dL_sticks_532 ⟨by have := hR.1; omega, by have := hR.1; omega⟩ (fun H locs hP hD hS => ?_)
  refine W.widen (k := C + 5) (n := S + 28) (by omega) (by omega) ?_
  exact kk H locs hP hD hS
set_option maxHeartbeats 4000000 in
set_option maxRecDepth 100000 in
theorem sgL_sticks_541 {p : Program} {l : Launch} {e : Env} {R : Room} {s : State} {m : MethodId} {args : Array Value} {below : List Frame} {meth : Method} {c : Code} {H : Heap} {locs : List Loc} {Q : State → Prop} {ls : Array Slot} {D : va_G} {cy : Nat → ClassId} {b L : Nat} {xs : Nat → Int32} {WO : va_W} {q : Nat → Nat} {σ u : TS} {z : Int32 ⊕ Nat} {C S : Nat} (F : lG p l s m args c cL_sticks 7 wsL_sticks D cy b L xs) (hP : va_P D vwCl (gS 78 q (TX cy q) σ ++ WO) H) (hD : va_D (fun a => s.heap.size ≤ a) (gS 78 q (TX cy q) σ ++ WO)) (hS : va_S (fun a => s.heap.size ≤ a) s.heap H locs) (hsz : ls.size = 7) (l1 : ls[1]? = some (.val (.ref (q 0)))) {x2 : Int32} (l2 : ls[2]? = some (.val (.int x2))) (hp : sX8_strikes x2 σ = some (z, u)) (hz : okZ z) (hR : rmL_ask.frames + 1 ≤ R.frames ∧ 8 + (4 + 11) + rmL_ask.locals ≤ R.locals) (hC : C + 5 ≤ R.cells) (hSl : S + 28 ≤ R.slots) (kk : ∀ (H1 : Heap) (locs1 : List Loc), va_P D vwCl (gS 78 q (TX cy q) u ++ WO) H1 → va_D (fun a => s.heap.size ≤ a) (gS 78 q (TX cy q) u ++ WO) → va_S (fun a => s.heap.size ≤ a) s.heap H1 locs1 → W p l e R s m args below meth c H1 locs1 (C + 5) (S + 28) Q (F0 m 554 ls [.int (askR z)])) : W p l e R s m args below meth c H locs C S Q (F0 m 541 ls []) := by
  obtain ⟨hx, hb, hml, hown, hts, hK, hX, hNt, hlf, hN8, hXs, hbl⟩ := F
  refine lv_aload_n hx hb dL_sticks_541 rfl l1 ?_
  refine lv_bipush (v := (115 : Int32)) hx hb dL_sticks_542 (by decide) ?_
  refine lv_iconst (v := (1 : Int32)) hx hb dL_sticks_544 (by decide) ?_
  refine ar_new (N' := 1) hx hb (hts _ mwarL_sticks) hK hP hD hS (fun _ h => h) (by decide) rfl (Nat.le_of_ble_eq_true rfl) (by omega) (by omega) dL_sticks_545 (fun a H hP hD hS => ?_)
  refine lv_dup hx hb dL_sticks_547 rfl ?_
  refine lv_iconst (v := (0 : Int32)) hx hb dL_sticks_548 (by decide) ?_
  refine lv_iload_n hx hb dL_sticks_549 rfl l2 ?_
  refine ar_st (j := 0) hx hb hK hP hD hS (by decide) rfl dL_sticks_550 (fun H locs hP hD hS => ?_)
  refine ar_ask (As := [.ref (q 0), .int (115 : Int32), .ref a]) (rest := []) hx hb hml hown hts hK hX hNt hP hD hS (fun hJ ha => mL_ask_strikes l hlf hJ ha hp hz) (vx_cwSW 3 hts gL_sticks_L_ask rfl rfl rfl nVL_ask hR) rfl hsz rfl (Nat.le_of_ble_eq_true rfl) dL_sticks_551 ⟨by have := hR.1; omega, by have := hR.1; omega⟩ (fun H locs hP hD hS => ?_)
  refine W.widen (k := C + 5) (n := S + 28) (by omega) (by omega) ?_
  exact kk H locs hP hD hS
set_option maxHeartbeats 4000000 in
set_option maxRecDepth 100000 in
theorem sgL_sticks_557 {p : Program} {l : Launch} {e : Env} {R : Room} {s : State} {m : MethodId} {args : Array Value} {below : List Frame} {meth : Method} {c : Code} {H : Heap} {locs : List Loc} {Q : State → Prop} {ls : Array Slot} {D : va_G} {cy : Nat → ClassId} {b L : Nat} {xs : Nat → Int32} {WO : va_W} {q : Nat → Nat} {σ u : TS} {z : Int32 ⊕ Nat} {C S : Nat} (F : lG p l s m args c cL_sticks 7 wsL_sticks D cy b L xs) (hP : va_P D vwCl (gS 78 q (TX cy q) σ ++ WO) H) (hD : va_D (fun a => s.heap.size ≤ a) (gS 78 q (TX cy q) σ ++ WO)) (hS : va_S (fun a => s.heap.size ≤ a) s.heap H locs) (hsz : ls.size = 7) (l1 : ls[1]? = some (.val (.ref (q 0)))) {x2 : Int32} (l2 : ls[2]? = some (.val (.int x2))) (hp : sX8_word x2 ((2 : Int32)) ((5 : Int32)) σ = some (z, u)) (hz : okZ z) (hR : rmL_ask.frames + 1 ≤ R.frames ∧ 8 + (4 + 11) + rmL_ask.locals ≤ R.locals) (hC : C + 5 ≤ R.cells) (hSl : S + 28 ≤ R.slots) (kk : ∀ (H1 : Heap) (locs1 : List Loc), va_P D vwCl (gS 78 q (TX cy q) u ++ WO) H1 → va_D (fun a => s.heap.size ≤ a) (gS 78 q (TX cy q) u ++ WO) → va_S (fun a => s.heap.size ≤ a) s.heap H1 locs1 → W p l e R s m args below meth c H1 locs1 (C + 5) (S + 28) Q (F0 m 578 ls [.int (askR z)])) : W p l e R s m args below meth c H locs C S Q (F0 m 557 ls []) := by
  obtain ⟨hx, hb, hml, hown, hts, hK, hX, hNt, hlf, hN8, hXs, hbl⟩ := F
  refine lv_aload_n hx hb dL_sticks_557 rfl l1 ?_
  refine lv_bipush (v := (119 : Int32)) hx hb dL_sticks_558 (by decide) ?_
  refine lv_iconst (v := (3 : Int32)) hx hb dL_sticks_560 (by decide) ?_
  refine ar_new (N' := 3) hx hb (hts _ mwarL_sticks) hK hP hD hS (fun _ h => h) (by decide) rfl (Nat.le_of_ble_eq_true rfl) (by omega) (by omega) dL_sticks_561 (fun a H hP hD hS => ?_)
  refine lv_dup hx hb dL_sticks_563 rfl ?_
  refine lv_iconst (v := (0 : Int32)) hx hb dL_sticks_564 (by decide) ?_
  refine lv_iload_n hx hb dL_sticks_565 rfl l2 ?_
  refine ar_st (j := 0) hx hb hK hP hD hS (by decide) rfl dL_sticks_566 (fun H locs hP hD hS => ?_)
  refine lv_dup hx hb dL_sticks_567 rfl ?_
  refine lv_iconst (v := (1 : Int32)) hx hb dL_sticks_568 (by decide) ?_
  refine lv_iconst (v := (2 : Int32)) hx hb dL_sticks_569 (by decide) ?_
  refine ar_st (j := 1) hx hb hK hP hD hS (by decide) rfl dL_sticks_570 (fun H locs hP hD hS => ?_)
  refine lv_dup hx hb dL_sticks_571 rfl ?_
  refine lv_iconst (v := (2 : Int32)) hx hb dL_sticks_572 (by decide) ?_
  refine lv_iconst (v := (5 : Int32)) hx hb dL_sticks_573 (by decide) ?_
  refine ar_st (j := 2) hx hb hK hP hD hS (by decide) rfl dL_sticks_574 (fun H locs hP hD hS => ?_)
  refine ar_ask (As := [.ref (q 0), .int (119 : Int32), .ref a]) (rest := []) hx hb hml hown hts hK hX hNt hP hD hS (fun hJ ha => mL_ask_word l hlf hJ ha hp hz) (vx_cwSW 3 hts gL_sticks_L_ask rfl rfl rfl nVL_ask hR) rfl hsz rfl (Nat.le_of_ble_eq_true rfl) dL_sticks_575 ⟨by have := hR.1; omega, by have := hR.1; omega⟩ (fun H locs hP hD hS => ?_)
  refine W.widen (k := C + 5) (n := S + 28) (by omega) (by omega) ?_
  exact kk H locs hP hD hS
set_option maxHeartbeats 4000000 in
set_option maxRecDepth 100000 in
theorem sgL_sticks_591 {p : Program} {l : Launch} {e : Env} {R : Room} {s : State} {m : MethodId} {args : Array Value} {below : List Frame} {meth : Method} {c : Code} {H : Heap} {locs : List Loc} {Q : State → Prop} {ls : Array Slot} {D : va_G} {cy : Nat → ClassId} {b L : Nat} {xs : Nat → Int32} {WO : va_W} {q : Nat → Nat} {σ u : TS} {z : Int32 ⊕ Nat} {C S : Nat} (F : lG p l s m args c cL_sticks 7 wsL_sticks D cy b L xs) (hP : va_P D vwCl (gS 78 q (TX cy q) σ ++ WO) H) (hD : va_D (fun a => s.heap.size ≤ a) (gS 78 q (TX cy q) σ ++ WO)) (hS : va_S (fun a => s.heap.size ≤ a) s.heap H locs) (hsz : ls.size = 7) (l1 : ls[1]? = some (.val (.ref (q 0)))) {x2 : Int32} (l2 : ls[2]? = some (.val (.int x2))) (hp : sX8_strikes x2 σ = some (z, u)) (hz : okZ z) (hR : rmL_ask.frames + 1 ≤ R.frames ∧ 8 + (4 + 11) + rmL_ask.locals ≤ R.locals) (hC : C + 5 ≤ R.cells) (hSl : S + 28 ≤ R.slots) (kk : ∀ (H1 : Heap) (locs1 : List Loc), va_P D vwCl (gS 78 q (TX cy q) u ++ WO) H1 → va_D (fun a => s.heap.size ≤ a) (gS 78 q (TX cy q) u ++ WO) → va_S (fun a => s.heap.size ≤ a) s.heap H1 locs1 → W p l e R s m args below meth c H1 locs1 (C + 5) (S + 28) Q (F0 m 604 ls [.int (askR z)])) : W p l e R s m args below meth c H locs C S Q (F0 m 591 ls []) := by
  obtain ⟨hx, hb, hml, hown, hts, hK, hX, hNt, hlf, hN8, hXs, hbl⟩ := F
  refine lv_aload_n hx hb dL_sticks_591 rfl l1 ?_
  refine lv_bipush (v := (115 : Int32)) hx hb dL_sticks_592 (by decide) ?_
  refine lv_iconst (v := (1 : Int32)) hx hb dL_sticks_594 (by decide) ?_
  refine ar_new (N' := 1) hx hb (hts _ mwarL_sticks) hK hP hD hS (fun _ h => h) (by decide) rfl (Nat.le_of_ble_eq_true rfl) (by omega) (by omega) dL_sticks_595 (fun a H hP hD hS => ?_)
  refine lv_dup hx hb dL_sticks_597 rfl ?_
  refine lv_iconst (v := (0 : Int32)) hx hb dL_sticks_598 (by decide) ?_
  refine lv_iload_n hx hb dL_sticks_599 rfl l2 ?_
  refine ar_st (j := 0) hx hb hK hP hD hS (by decide) rfl dL_sticks_600 (fun H locs hP hD hS => ?_)
  refine ar_ask (As := [.ref (q 0), .int (115 : Int32), .ref a]) (rest := []) hx hb hml hown hts hK hX hNt hP hD hS (fun hJ ha => mL_ask_strikes l hlf hJ ha hp hz) (vx_cwSW 3 hts gL_sticks_L_ask rfl rfl rfl nVL_ask hR) rfl hsz rfl (Nat.le_of_ble_eq_true rfl) dL_sticks_601 ⟨by have := hR.1; omega, by have := hR.1; omega⟩ (fun H locs hP hD hS => ?_)
  refine W.widen (k := C + 5) (n := S + 28) (by omega) (by omega) ?_
  exact kk H locs hP hD hS
set_option maxHeartbeats 4000000 in
set_option maxRecDepth 100000 in
theorem sgL_sticks_607 {p : Program} {l : Launch} {e : Env} {R : Room} {s : State} {m : MethodId} {args : Array Value} {below : List Frame} {meth : Method} {c : Code} {H : Heap} {locs : List Loc} {Q : State → Prop} {ls : Array Slot} {D : va_G} {cy : Nat → ClassId} {b L : Nat} {xs : Nat → Int32} {WO : va_W} {q : Nat → Nat} {σ u : TS} {z : Int32 ⊕ Nat} {C S : Nat} (F : lG p l s m args c cL_sticks 7 wsL_sticks D cy b L xs) (hP : va_P D vwCl (gS 78 q (TX cy q) σ ++ WO) H) (hD : va_D (fun a => s.heap.size ≤ a) (gS 78 q (TX cy q) σ ++ WO)) (hS : va_S (fun a => s.heap.size ≤ a) s.heap H locs) (hsz : ls.size = 7) (l1 : ls[1]? = some (.val (.ref (q 0)))) (hp : sX8_output ((1 : Int32)) σ = some (z, u)) (hz : okZ z) (hR : rmL_ask.frames + 1 ≤ R.frames ∧ 8 + (4 + 11) + rmL_ask.locals ≤ R.locals) (hC : C + 5 ≤ R.cells) (hSl : S + 28 ≤ R.slots) (kk : ∀ (H1 : Heap) (locs1 : List Loc), va_P D vwCl (gS 78 q (TX cy q) u ++ WO) H1 → va_D (fun a => s.heap.size ≤ a) (gS 78 q (TX cy q) u ++ WO) → va_S (fun a => s.heap.size ≤ a) s.heap H1 locs1 → W p l e R s m args below meth c H1 locs1 (C + 5) (S + 28) Q (F0 m 620 ls [.int (askR z)])) : W p l e R s m args below meth c H locs C S Q (F0 m 607 ls []) := by
  obtain ⟨hx, hb, hml, hown, hts, hK, hX, hNt, hlf, hN8, hXs, hbl⟩ := F
  refine lv_aload_n hx hb dL_sticks_607 rfl l1 ?_
  refine lv_bipush (v := (111 : Int32)) hx hb dL_sticks_608 (by decide) ?_
  refine lv_iconst (v := (1 : Int32)) hx hb dL_sticks_610 (by decide) ?_
  refine ar_new (N' := 1) hx hb (hts _ mwarL_sticks) hK hP hD hS (fun _ h => h) (by decide) rfl (Nat.le_of_ble_eq_true rfl) (by omega) (by omega) dL_sticks_611 (fun a H hP hD hS => ?_)
  refine lv_dup hx hb dL_sticks_613 rfl ?_
  refine lv_iconst (v := (0 : Int32)) hx hb dL_sticks_614 (by decide) ?_
  refine lv_iconst (v := (1 : Int32)) hx hb dL_sticks_615 (by decide) ?_
  refine ar_st (j := 0) hx hb hK hP hD hS (by decide) rfl dL_sticks_616 (fun H locs hP hD hS => ?_)
  refine ar_ask (As := [.ref (q 0), .int (111 : Int32), .ref a]) (rest := []) hx hb hml hown hts hK hX hNt hP hD hS (fun hJ ha => mL_ask_output l hlf hJ ha hp hz) (vx_cwSW 3 hts gL_sticks_L_ask rfl rfl rfl nVL_ask hR) rfl hsz rfl (Nat.le_of_ble_eq_true rfl) dL_sticks_617 ⟨by have := hR.1; omega, by have := hR.1; omega⟩ (fun H locs hP hD hS => ?_)
  refine W.widen (k := C + 5) (n := S + 28) (by omega) (by omega) ?_
  exact kk H locs hP hD hS

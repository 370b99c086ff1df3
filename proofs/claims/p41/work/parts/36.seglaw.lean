theorem mwarL_law : Cond.arrayClass .int ∈ wsL_law := by decide +kernel
theorem mwcL_law_164 : Cond.constant RL 164 (32768) ∈ wsL_law := by decide +kernel
theorem mwcL_law_165 : Cond.constant RL 165 (40000) ∈ wsL_law := by decide +kernel
set_option maxHeartbeats 4000000 in
set_option maxRecDepth 100000 in
theorem sgL_law_54 {p : Program} {l : Launch} {e : Env} {R : Room} {s : State} {m : MethodId} {args : Array Value} {below : List Frame} {meth : Method} {c : Code} {H : Heap} {locs : List Loc} {Q : State → Prop} {ls : Array Slot} {D : va_G} {cy : Nat → ClassId} {b L : Nat} {xs : Nat → Int32} {WO : va_W} {q : Nat → Nat} {σ u : TS} {z : Int32 ⊕ Nat} {C S : Nat} (F : lG p l s m args c cL_law 2 wsL_law D cy b L xs) (hP : va_P D vwCl (gS 78 q (TX cy q) σ ++ WO) H) (hD : va_D (fun a => s.heap.size ≤ a) (gS 78 q (TX cy q) σ ++ WO)) (hS : va_S (fun a => s.heap.size ≤ a) s.heap H locs) (hsz : ls.size = 2) (l1 : ls[1]? = some (.val (.ref (q 0)))) (hp : sX8_code ((3 : Int32)) (lchr ((108 : Int32))) ((0 : Int32)) ((0 : Int32)) σ = some (z, u)) (hz : okZ z) (hR : rmL_ask.frames + 1 ≤ R.frames ∧ 8 + (4 + 11) + rmL_ask.locals ≤ R.locals) (hC : C + 5 ≤ R.cells) (hSl : S + 28 ≤ R.slots) (kk : ∀ (H1 : Heap) (locs1 : List Loc), va_P D vwCl (gS 78 q (TX cy q) u ++ WO) H1 → va_D (fun a => s.heap.size ≤ a) (gS 78 q (TX cy q) u ++ WO) → va_S (fun a => s.heap.size ≤ a) s.heap H1 locs1 → W p l e R s m args below meth c H1 locs1 (C + 5) (S + 28) Q (F0 m 80 ls [.int (askR z)])) : W p l e R s m args below meth c H locs C S Q (F0 m 54 ls []) := by
  obtain ⟨hx, hb, hml, hown, hts, hK, hX, hNt, hlf, hN8, hXs, hbl⟩ := F
  refine lv_aload_n hx hb dL_law_54 rfl l1 ?_
  refine lv_bipush (v := (67 : Int32)) hx hb dL_law_55 (by decide) ?_
  refine lv_iconst (v := (4 : Int32)) hx hb dL_law_57 (by decide) ?_
  refine ar_new (N' := 4) hx hb (hts _ mwarL_law) hK hP hD hS (fun _ h => h) (by decide) rfl (Nat.le_of_ble_eq_true rfl) (by omega) (by omega) dL_law_58 (fun a H hP hD hS => ?_)
  refine lv_dup hx hb dL_law_60 rfl ?_
  refine lv_iconst (v := (0 : Int32)) hx hb dL_law_61 (by decide) ?_
  refine lv_iconst (v := (3 : Int32)) hx hb dL_law_62 (by decide) ?_
  refine ar_st (j := 0) hx hb hK hP hD hS (by decide) rfl dL_law_63 (fun H locs hP hD hS => ?_)
  refine lv_dup hx hb dL_law_64 rfl ?_
  refine lv_iconst (v := (1 : Int32)) hx hb dL_law_65 (by decide) ?_
  refine lv_bipush (v := (108 : Int32)) hx hb dL_law_66 (by decide) ?_
  refine ar_st (j := 1) hx hb hK hP hD hS (by decide) rfl dL_law_68 (fun H locs hP hD hS => ?_)
  refine lv_dup hx hb dL_law_69 rfl ?_
  refine lv_iconst (v := (2 : Int32)) hx hb dL_law_70 (by decide) ?_
  refine lv_iconst (v := (0 : Int32)) hx hb dL_law_71 (by decide) ?_
  refine ar_st (j := 2) hx hb hK hP hD hS (by decide) rfl dL_law_72 (fun H locs hP hD hS => ?_)
  refine lv_dup hx hb dL_law_73 rfl ?_
  refine lv_iconst (v := (3 : Int32)) hx hb dL_law_74 (by decide) ?_
  refine lv_iconst (v := (0 : Int32)) hx hb dL_law_75 (by decide) ?_
  refine ar_st (j := 3) hx hb hK hP hD hS (by decide) rfl dL_law_76 (fun H locs hP hD hS => ?_)
  refine ar_ask (As := [.ref (q 0), .int (67 : Int32), .ref a]) (rest := []) hx hb hml hown hts hK hX hNt hP hD hS (fun hJ ha => mL_ask_code l hlf hJ ha hp hz) (vx_cwSW 3 hts gL_law_L_ask rfl rfl rfl nVL_ask hR) rfl hsz rfl (Nat.le_of_ble_eq_true rfl) dL_law_77 ⟨by have := hR.1; omega, by have := hR.1; omega⟩ (fun H locs hP hD hS => ?_)
  refine W.widen (k := C + 5) (n := S + 28) (by omega) (by omega) ?_
  exact kk H locs hP hD hS
set_option maxHeartbeats 4000000 in
set_option maxRecDepth 100000 in
theorem sgL_law_85 {p : Program} {l : Launch} {e : Env} {R : Room} {s : State} {m : MethodId} {args : Array Value} {below : List Frame} {meth : Method} {c : Code} {H : Heap} {locs : List Loc} {Q : State → Prop} {ls : Array Slot} {D : va_G} {cy : Nat → ClassId} {b L : Nat} {xs : Nat → Int32} {WO : va_W} {q : Nat → Nat} {σ u : TS} {z : Int32 ⊕ Nat} {C S : Nat} (F : lG p l s m args c cL_law 2 wsL_law D cy b L xs) (hP : va_P D vwCl (gS 78 q (TX cy q) σ ++ WO) H) (hD : va_D (fun a => s.heap.size ≤ a) (gS 78 q (TX cy q) σ ++ WO)) (hS : va_S (fun a => s.heap.size ≤ a) s.heap H locs) (hsz : ls.size = 2) (l1 : ls[1]? = some (.val (.ref (q 0)))) (hp : sX8_code ((0 : Int32)) (lchr ((120 : Int32))) ((0 : Int32)) ((0 : Int32)) σ = some (z, u)) (hz : okZ z) (hR : rmL_ask.frames + 1 ≤ R.frames ∧ 8 + (4 + 11) + rmL_ask.locals ≤ R.locals) (hC : C + 5 ≤ R.cells) (hSl : S + 28 ≤ R.slots) (kk : ∀ (H1 : Heap) (locs1 : List Loc), va_P D vwCl (gS 78 q (TX cy q) u ++ WO) H1 → va_D (fun a => s.heap.size ≤ a) (gS 78 q (TX cy q) u ++ WO) → va_S (fun a => s.heap.size ≤ a) s.heap H1 locs1 → W p l e R s m args below meth c H1 locs1 (C + 5) (S + 28) Q (F0 m 111 ls [.int (askR z)])) : W p l e R s m args below meth c H locs C S Q (F0 m 85 ls []) := by
  obtain ⟨hx, hb, hml, hown, hts, hK, hX, hNt, hlf, hN8, hXs, hbl⟩ := F
  refine lv_aload_n hx hb dL_law_85 rfl l1 ?_
  refine lv_bipush (v := (67 : Int32)) hx hb dL_law_86 (by decide) ?_
  refine lv_iconst (v := (4 : Int32)) hx hb dL_law_88 (by decide) ?_
  refine ar_new (N' := 4) hx hb (hts _ mwarL_law) hK hP hD hS (fun _ h => h) (by decide) rfl (Nat.le_of_ble_eq_true rfl) (by omega) (by omega) dL_law_89 (fun a H hP hD hS => ?_)
  refine lv_dup hx hb dL_law_91 rfl ?_
  refine lv_iconst (v := (0 : Int32)) hx hb dL_law_92 (by decide) ?_
  refine lv_iconst (v := (0 : Int32)) hx hb dL_law_93 (by decide) ?_
  refine ar_st (j := 0) hx hb hK hP hD hS (by decide) rfl dL_law_94 (fun H locs hP hD hS => ?_)
  refine lv_dup hx hb dL_law_95 rfl ?_
  refine lv_iconst (v := (1 : Int32)) hx hb dL_law_96 (by decide) ?_
  refine lv_bipush (v := (120 : Int32)) hx hb dL_law_97 (by decide) ?_
  refine ar_st (j := 1) hx hb hK hP hD hS (by decide) rfl dL_law_99 (fun H locs hP hD hS => ?_)
  refine lv_dup hx hb dL_law_100 rfl ?_
  refine lv_iconst (v := (2 : Int32)) hx hb dL_law_101 (by decide) ?_
  refine lv_iconst (v := (0 : Int32)) hx hb dL_law_102 (by decide) ?_
  refine ar_st (j := 2) hx hb hK hP hD hS (by decide) rfl dL_law_103 (fun H locs hP hD hS => ?_)
  refine lv_dup hx hb dL_law_104 rfl ?_
  refine lv_iconst (v := (3 : Int32)) hx hb dL_law_105 (by decide) ?_
  refine lv_iconst (v := (0 : Int32)) hx hb dL_law_106 (by decide) ?_
  refine ar_st (j := 3) hx hb hK hP hD hS (by decide) rfl dL_law_107 (fun H locs hP hD hS => ?_)
  refine ar_ask (As := [.ref (q 0), .int (67 : Int32), .ref a]) (rest := []) hx hb hml hown hts hK hX hNt hP hD hS (fun hJ ha => mL_ask_code l hlf hJ ha hp hz) (vx_cwSW 3 hts gL_law_L_ask rfl rfl rfl nVL_ask hR) rfl hsz rfl (Nat.le_of_ble_eq_true rfl) dL_law_108 ⟨by have := hR.1; omega, by have := hR.1; omega⟩ (fun H locs hP hD hS => ?_)
  refine W.widen (k := C + 5) (n := S + 28) (by omega) (by omega) ?_
  exact kk H locs hP hD hS
set_option maxHeartbeats 4000000 in
set_option maxRecDepth 100000 in
theorem sgL_law_116 {p : Program} {l : Launch} {e : Env} {R : Room} {s : State} {m : MethodId} {args : Array Value} {below : List Frame} {meth : Method} {c : Code} {H : Heap} {locs : List Loc} {Q : State → Prop} {ls : Array Slot} {D : va_G} {cy : Nat → ClassId} {b L : Nat} {xs : Nat → Int32} {WO : va_W} {q : Nat → Nat} {σ u : TS} {z : Int32 ⊕ Nat} {C S : Nat} (F : lG p l s m args c cL_law 2 wsL_law D cy b L xs) (hP : va_P D vwCl (gS 78 q (TX cy q) σ ++ WO) H) (hD : va_D (fun a => s.heap.size ≤ a) (gS 78 q (TX cy q) σ ++ WO)) (hS : va_S (fun a => s.heap.size ≤ a) s.heap H locs) (hsz : ls.size = 2) (l1 : ls[1]? = some (.val (.ref (q 0)))) (hp : sX8_code ((0 : Int32)) (lchr ((108 : Int32))) ((0 : Int32)) ((32768 : Int32)) σ = some (z, u)) (hz : okZ z) (hR : rmL_ask.frames + 1 ≤ R.frames ∧ 8 + (4 + 11) + rmL_ask.locals ≤ R.locals) (hC : C + 5 ≤ R.cells) (hSl : S + 28 ≤ R.slots) (kk : ∀ (H1 : Heap) (locs1 : List Loc), va_P D vwCl (gS 78 q (TX cy q) u ++ WO) H1 → va_D (fun a => s.heap.size ≤ a) (gS 78 q (TX cy q) u ++ WO) → va_S (fun a => s.heap.size ≤ a) s.heap H1 locs1 → W p l e R s m args below meth c H1 locs1 (C + 5) (S + 28) Q (F0 m 143 ls [.int (askR z)])) : W p l e R s m args below meth c H locs C S Q (F0 m 116 ls []) := by
  obtain ⟨hx, hb, hml, hown, hts, hK, hX, hNt, hlf, hN8, hXs, hbl⟩ := F
  refine lv_aload_n hx hb dL_law_116 rfl l1 ?_
  refine lv_bipush (v := (67 : Int32)) hx hb dL_law_117 (by decide) ?_
  refine lv_iconst (v := (4 : Int32)) hx hb dL_law_119 (by decide) ?_
  refine ar_new (N' := 4) hx hb (hts _ mwarL_law) hK hP hD hS (fun _ h => h) (by decide) rfl (Nat.le_of_ble_eq_true rfl) (by omega) (by omega) dL_law_120 (fun a H hP hD hS => ?_)
  refine lv_dup hx hb dL_law_122 rfl ?_
  refine lv_iconst (v := (0 : Int32)) hx hb dL_law_123 (by decide) ?_
  refine lv_iconst (v := (0 : Int32)) hx hb dL_law_124 (by decide) ?_
  refine ar_st (j := 0) hx hb hK hP hD hS (by decide) rfl dL_law_125 (fun H locs hP hD hS => ?_)
  refine lv_dup hx hb dL_law_126 rfl ?_
  refine lv_iconst (v := (1 : Int32)) hx hb dL_law_127 (by decide) ?_
  refine lv_bipush (v := (108 : Int32)) hx hb dL_law_128 (by decide) ?_
  refine ar_st (j := 1) hx hb hK hP hD hS (by decide) rfl dL_law_130 (fun H locs hP hD hS => ?_)
  refine lv_dup hx hb dL_law_131 rfl ?_
  refine lv_iconst (v := (2 : Int32)) hx hb dL_law_132 (by decide) ?_
  refine lv_iconst (v := (0 : Int32)) hx hb dL_law_133 (by decide) ?_
  refine ar_st (j := 2) hx hb hK hP hD hS (by decide) rfl dL_law_134 (fun H locs hP hD hS => ?_)
  refine lv_dup hx hb dL_law_135 rfl ?_
  refine lv_iconst (v := (3 : Int32)) hx hb dL_law_136 (by decide) ?_
  refine lv_ldc (v := (32768 : Int32)) hx hb hown (hts _ mwcL_law_164) dL_law_137 ?_
  refine ar_st (j := 3) hx hb hK hP hD hS (by decide) rfl dL_law_139 (fun H locs hP hD hS => ?_)
  refine ar_ask (As := [.ref (q 0), .int (67 : Int32), .ref a]) (rest := []) hx hb hml hown hts hK hX hNt hP hD hS (fun hJ ha => mL_ask_code l hlf hJ ha hp hz) (vx_cwSW 3 hts gL_law_L_ask rfl rfl rfl nVL_ask hR) rfl hsz rfl (Nat.le_of_ble_eq_true rfl) dL_law_140 ⟨by have := hR.1; omega, by have := hR.1; omega⟩ (fun H locs hP hD hS => ?_)
  refine W.widen (k := C + 5) (n := S + 28) (by omega) (by omega) ?_
  exact kk H locs hP hD hS
set_option maxHeartbeats 4000000 in
set_option maxRecDepth 100000 in
theorem sgL_law_148 {p : Program} {l : Launch} {e : Env} {R : Room} {s : State} {m : MethodId} {args : Array Value} {below : List Frame} {meth : Method} {c : Code} {H : Heap} {locs : List Loc} {Q : State → Prop} {ls : Array Slot} {D : va_G} {cy : Nat → ClassId} {b L : Nat} {xs : Nat → Int32} {WO : va_W} {q : Nat → Nat} {σ u : TS} {z : Int32 ⊕ Nat} {C S : Nat} (F : lG p l s m args c cL_law 2 wsL_law D cy b L xs) (hP : va_P D vwCl (gS 78 q (TX cy q) σ ++ WO) H) (hD : va_D (fun a => s.heap.size ≤ a) (gS 78 q (TX cy q) σ ++ WO)) (hS : va_S (fun a => s.heap.size ≤ a) s.heap H locs) (hsz : ls.size = 2) (l1 : ls[1]? = some (.val (.ref (q 0)))) (hp : sX8_code ((0 : Int32)) (lchr ((114 : Int32))) ((0 : Int32)) ((6 : Int32)) σ = some (z, u)) (hz : okZ z) (hR : rmL_ask.frames + 1 ≤ R.frames ∧ 8 + (4 + 11) + rmL_ask.locals ≤ R.locals) (hC : C + 5 ≤ R.cells) (hSl : S + 28 ≤ R.slots) (kk : ∀ (H1 : Heap) (locs1 : List Loc), va_P D vwCl (gS 78 q (TX cy q) u ++ WO) H1 → va_D (fun a => s.heap.size ≤ a) (gS 78 q (TX cy q) u ++ WO) → va_S (fun a => s.heap.size ≤ a) s.heap H1 locs1 → W p l e R s m args below meth c H1 locs1 (C + 5) (S + 28) Q (F0 m 175 ls [.int (askR z)])) : W p l e R s m args below meth c H locs C S Q (F0 m 148 ls []) := by
  obtain ⟨hx, hb, hml, hown, hts, hK, hX, hNt, hlf, hN8, hXs, hbl⟩ := F
  refine lv_aload_n hx hb dL_law_148 rfl l1 ?_
  refine lv_bipush (v := (67 : Int32)) hx hb dL_law_149 (by decide) ?_
  refine lv_iconst (v := (4 : Int32)) hx hb dL_law_151 (by decide) ?_
  refine ar_new (N' := 4) hx hb (hts _ mwarL_law) hK hP hD hS (fun _ h => h) (by decide) rfl (Nat.le_of_ble_eq_true rfl) (by omega) (by omega) dL_law_152 (fun a H hP hD hS => ?_)
  refine lv_dup hx hb dL_law_154 rfl ?_
  refine lv_iconst (v := (0 : Int32)) hx hb dL_law_155 (by decide) ?_
  refine lv_iconst (v := (0 : Int32)) hx hb dL_law_156 (by decide) ?_
  refine ar_st (j := 0) hx hb hK hP hD hS (by decide) rfl dL_law_157 (fun H locs hP hD hS => ?_)
  refine lv_dup hx hb dL_law_158 rfl ?_
  refine lv_iconst (v := (1 : Int32)) hx hb dL_law_159 (by decide) ?_
  refine lv_bipush (v := (114 : Int32)) hx hb dL_law_160 (by decide) ?_
  refine ar_st (j := 1) hx hb hK hP hD hS (by decide) rfl dL_law_162 (fun H locs hP hD hS => ?_)
  refine lv_dup hx hb dL_law_163 rfl ?_
  refine lv_iconst (v := (2 : Int32)) hx hb dL_law_164 (by decide) ?_
  refine lv_iconst (v := (0 : Int32)) hx hb dL_law_165 (by decide) ?_
  refine ar_st (j := 2) hx hb hK hP hD hS (by decide) rfl dL_law_166 (fun H locs hP hD hS => ?_)
  refine lv_dup hx hb dL_law_167 rfl ?_
  refine lv_iconst (v := (3 : Int32)) hx hb dL_law_168 (by decide) ?_
  refine lv_bipush (v := (6 : Int32)) hx hb dL_law_169 (by decide) ?_
  refine ar_st (j := 3) hx hb hK hP hD hS (by decide) rfl dL_law_171 (fun H locs hP hD hS => ?_)
  refine ar_ask (As := [.ref (q 0), .int (67 : Int32), .ref a]) (rest := []) hx hb hml hown hts hK hX hNt hP hD hS (fun hJ ha => mL_ask_code l hlf hJ ha hp hz) (vx_cwSW 3 hts gL_law_L_ask rfl rfl rfl nVL_ask hR) rfl hsz rfl (Nat.le_of_ble_eq_true rfl) dL_law_172 ⟨by have := hR.1; omega, by have := hR.1; omega⟩ (fun H locs hP hD hS => ?_)
  refine W.widen (k := C + 5) (n := S + 28) (by omega) (by omega) ?_
  exact kk H locs hP hD hS
set_option maxHeartbeats 4000000 in
set_option maxRecDepth 100000 in
theorem sgL_law_180 {p : Program} {l : Launch} {e : Env} {R : Room} {s : State} {m : MethodId} {args : Array Value} {below : List Frame} {meth : Method} {c : Code} {H : Heap} {locs : List Loc} {Q : State → Prop} {ls : Array Slot} {D : va_G} {cy : Nat → ClassId} {b L : Nat} {xs : Nat → Int32} {WO : va_W} {q : Nat → Nat} {σ u : TS} {z : Int32 ⊕ Nat} {C S : Nat} (F : lG p l s m args c cL_law 2 wsL_law D cy b L xs) (hP : va_P D vwCl (gS 78 q (TX cy q) σ ++ WO) H) (hD : va_D (fun a => s.heap.size ≤ a) (gS 78 q (TX cy q) σ ++ WO)) (hS : va_S (fun a => s.heap.size ≤ a) s.heap H locs) (hsz : ls.size = 2) (l1 : ls[1]? = some (.val (.ref (q 0)))) (hp : sX8_code ((0 : Int32)) (lchr ((111 : Int32))) ((4 : Int32)) ((0 : Int32)) σ = some (z, u)) (hz : okZ z) (hR : rmL_ask.frames + 1 ≤ R.frames ∧ 8 + (4 + 11) + rmL_ask.locals ≤ R.locals) (hC : C + 5 ≤ R.cells) (hSl : S + 28 ≤ R.slots) (kk : ∀ (H1 : Heap) (locs1 : List Loc), va_P D vwCl (gS 78 q (TX cy q) u ++ WO) H1 → va_D (fun a => s.heap.size ≤ a) (gS 78 q (TX cy q) u ++ WO) → va_S (fun a => s.heap.size ≤ a) s.heap H1 locs1 → W p l e R s m args below meth c H1 locs1 (C + 5) (S + 28) Q (F0 m 206 ls [.int (askR z)])) : W p l e R s m args below meth c H locs C S Q (F0 m 180 ls []) := by
  obtain ⟨hx, hb, hml, hown, hts, hK, hX, hNt, hlf, hN8, hXs, hbl⟩ := F
  refine lv_aload_n hx hb dL_law_180 rfl l1 ?_
  refine lv_bipush (v := (67 : Int32)) hx hb dL_law_181 (by decide) ?_
  refine lv_iconst (v := (4 : Int32)) hx hb dL_law_183 (by decide) ?_
  refine ar_new (N' := 4) hx hb (hts _ mwarL_law) hK hP hD hS (fun _ h => h) (by decide) rfl (Nat.le_of_ble_eq_true rfl) (by omega) (by omega) dL_law_184 (fun a H hP hD hS => ?_)
  refine lv_dup hx hb dL_law_186 rfl ?_
  refine lv_iconst (v := (0 : Int32)) hx hb dL_law_187 (by decide) ?_
  refine lv_iconst (v := (0 : Int32)) hx hb dL_law_188 (by decide) ?_
  refine ar_st (j := 0) hx hb hK hP hD hS (by decide) rfl dL_law_189 (fun H locs hP hD hS => ?_)
  refine lv_dup hx hb dL_law_190 rfl ?_
  refine lv_iconst (v := (1 : Int32)) hx hb dL_law_191 (by decide) ?_
  refine lv_bipush (v := (111 : Int32)) hx hb dL_law_192 (by decide) ?_
  refine ar_st (j := 1) hx hb hK hP hD hS (by decide) rfl dL_law_194 (fun H locs hP hD hS => ?_)
  refine lv_dup hx hb dL_law_195 rfl ?_
  refine lv_iconst (v := (2 : Int32)) hx hb dL_law_196 (by decide) ?_
  refine lv_iconst (v := (4 : Int32)) hx hb dL_law_197 (by decide) ?_
  refine ar_st (j := 2) hx hb hK hP hD hS (by decide) rfl dL_law_198 (fun H locs hP hD hS => ?_)
  refine lv_dup hx hb dL_law_199 rfl ?_
  refine lv_iconst (v := (3 : Int32)) hx hb dL_law_200 (by decide) ?_
  refine lv_iconst (v := (0 : Int32)) hx hb dL_law_201 (by decide) ?_
  refine ar_st (j := 3) hx hb hK hP hD hS (by decide) rfl dL_law_202 (fun H locs hP hD hS => ?_)
  refine ar_ask (As := [.ref (q 0), .int (67 : Int32), .ref a]) (rest := []) hx hb hml hown hts hK hX hNt hP hD hS (fun hJ ha => mL_ask_code l hlf hJ ha hp hz) (vx_cwSW 3 hts gL_law_L_ask rfl rfl rfl nVL_ask hR) rfl hsz rfl (Nat.le_of_ble_eq_true rfl) dL_law_203 ⟨by have := hR.1; omega, by have := hR.1; omega⟩ (fun H locs hP hD hS => ?_)
  refine W.widen (k := C + 5) (n := S + 28) (by omega) (by omega) ?_
  exact kk H locs hP hD hS
set_option maxHeartbeats 4000000 in
set_option maxRecDepth 100000 in
theorem sgL_law_211 {p : Program} {l : Launch} {e : Env} {R : Room} {s : State} {m : MethodId} {args : Array Value} {below : List Frame} {meth : Method} {c : Code} {H : Heap} {locs : List Loc} {Q : State → Prop} {ls : Array Slot} {D : va_G} {cy : Nat → ClassId} {b L : Nat} {xs : Nat → Int32} {WO : va_W} {q : Nat → Nat} {σ u : TS} {z : Int32 ⊕ Nat} {C S : Nat} (F : lG p l s m args c cL_law 2 wsL_law D cy b L xs) (hP : va_P D vwCl (gS 78 q (TX cy q) σ ++ WO) H) (hD : va_D (fun a => s.heap.size ≤ a) (gS 78 q (TX cy q) σ ++ WO)) (hS : va_S (fun a => s.heap.size ≤ a) s.heap H locs) (hsz : ls.size = 2) (l1 : ls[1]? = some (.val (.ref (q 0)))) (hp : sX8_clear ((-1 : Int32)) σ = some (z, u)) (hz : okZ z) (hR : rmL_ask.frames + 1 ≤ R.frames ∧ 8 + (4 + 11) + rmL_ask.locals ≤ R.locals) (hC : C + 5 ≤ R.cells) (hSl : S + 28 ≤ R.slots) (kk : ∀ (H1 : Heap) (locs1 : List Loc), va_P D vwCl (gS 78 q (TX cy q) u ++ WO) H1 → va_D (fun a => s.heap.size ≤ a) (gS 78 q (TX cy q) u ++ WO) → va_S (fun a => s.heap.size ≤ a) s.heap H1 locs1 → W p l e R s m args below meth c H1 locs1 (C + 5) (S + 28) Q (F0 m 224 ls [.int (askR z)])) : W p l e R s m args below meth c H locs C S Q (F0 m 211 ls []) := by
  obtain ⟨hx, hb, hml, hown, hts, hK, hX, hNt, hlf, hN8, hXs, hbl⟩ := F
  refine lv_aload_n hx hb dL_law_211 rfl l1 ?_
  refine lv_bipush (v := (99 : Int32)) hx hb dL_law_212 (by decide) ?_
  refine lv_iconst (v := (1 : Int32)) hx hb dL_law_214 (by decide) ?_
  refine ar_new (N' := 1) hx hb (hts _ mwarL_law) hK hP hD hS (fun _ h => h) (by decide) rfl (Nat.le_of_ble_eq_true rfl) (by omega) (by omega) dL_law_215 (fun a H hP hD hS => ?_)
  refine lv_dup hx hb dL_law_217 rfl ?_
  refine lv_iconst (v := (0 : Int32)) hx hb dL_law_218 (by decide) ?_
  refine lv_iconst (v := (-1 : Int32)) hx hb dL_law_219 (by decide) ?_
  refine ar_st (j := 0) hx hb hK hP hD hS (by decide) rfl dL_law_220 (fun H locs hP hD hS => ?_)
  refine ar_ask (As := [.ref (q 0), .int (99 : Int32), .ref a]) (rest := []) hx hb hml hown hts hK hX hNt hP hD hS (fun hJ ha => mL_ask_clear l hlf hJ ha hp hz) (vx_cwSW 3 hts gL_law_L_ask rfl rfl rfl nVL_ask hR) rfl hsz rfl (Nat.le_of_ble_eq_true rfl) dL_law_221 ⟨by have := hR.1; omega, by have := hR.1; omega⟩ (fun H locs hP hD hS => ?_)
  refine W.widen (k := C + 5) (n := S + 28) (by omega) (by omega) ?_
  exact kk H locs hP hD hS
set_option maxHeartbeats 4000000 in
set_option maxRecDepth 100000 in
theorem sgL_law_229 {p : Program} {l : Launch} {e : Env} {R : Room} {s : State} {m : MethodId} {args : Array Value} {below : List Frame} {meth : Method} {c : Code} {H : Heap} {locs : List Loc} {Q : State → Prop} {ls : Array Slot} {D : va_G} {cy : Nat → ClassId} {b L : Nat} {xs : Nat → Int32} {WO : va_W} {q : Nat → Nat} {σ u : TS} {z : Int32 ⊕ Nat} {C S : Nat} (F : lG p l s m args c cL_law 2 wsL_law D cy b L xs) (hP : va_P D vwCl (gS 78 q (TX cy q) σ ++ WO) H) (hD : va_D (fun a => s.heap.size ≤ a) (gS 78 q (TX cy q) σ ++ WO)) (hS : va_S (fun a => s.heap.size ≤ a) s.heap H locs) (hsz : ls.size = 2) (l1 : ls[1]? = some (.val (.ref (q 0)))) (hp : sX8_slot ((2 : Int32)) ((0 : Int32)) ((0 : Int32)) σ = some (z, u)) (hz : okZ z) (hR : rmL_ask.frames + 1 ≤ R.frames ∧ 8 + (4 + 11) + rmL_ask.locals ≤ R.locals) (hC : C + 5 ≤ R.cells) (hSl : S + 28 ≤ R.slots) (kk : ∀ (H1 : Heap) (locs1 : List Loc), va_P D vwCl (gS 78 q (TX cy q) u ++ WO) H1 → va_D (fun a => s.heap.size ≤ a) (gS 78 q (TX cy q) u ++ WO) → va_S (fun a => s.heap.size ≤ a) s.heap H1 locs1 → W p l e R s m args below meth c H1 locs1 (C + 5) (S + 28) Q (F0 m 250 ls [.int (askR z)])) : W p l e R s m args below meth c H locs C S Q (F0 m 229 ls []) := by
  obtain ⟨hx, hb, hml, hown, hts, hK, hX, hNt, hlf, hN8, hXs, hbl⟩ := F
  refine lv_aload_n hx hb dL_law_229 rfl l1 ?_
  refine lv_bipush (v := (83 : Int32)) hx hb dL_law_230 (by decide) ?_
  refine lv_iconst (v := (3 : Int32)) hx hb dL_law_232 (by decide) ?_
  refine ar_new (N' := 3) hx hb (hts _ mwarL_law) hK hP hD hS (fun _ h => h) (by decide) rfl (Nat.le_of_ble_eq_true rfl) (by omega) (by omega) dL_law_233 (fun a H hP hD hS => ?_)
  refine lv_dup hx hb dL_law_235 rfl ?_
  refine lv_iconst (v := (0 : Int32)) hx hb dL_law_236 (by decide) ?_
  refine lv_iconst (v := (2 : Int32)) hx hb dL_law_237 (by decide) ?_
  refine ar_st (j := 0) hx hb hK hP hD hS (by decide) rfl dL_law_238 (fun H locs hP hD hS => ?_)
  refine lv_dup hx hb dL_law_239 rfl ?_
  refine lv_iconst (v := (1 : Int32)) hx hb dL_law_240 (by decide) ?_
  refine lv_iconst (v := (0 : Int32)) hx hb dL_law_241 (by decide) ?_
  refine ar_st (j := 1) hx hb hK hP hD hS (by decide) rfl dL_law_242 (fun H locs hP hD hS => ?_)
  refine lv_dup hx hb dL_law_243 rfl ?_
  refine lv_iconst (v := (2 : Int32)) hx hb dL_law_244 (by decide) ?_
  refine lv_iconst (v := (0 : Int32)) hx hb dL_law_245 (by decide) ?_
  refine ar_st (j := 2) hx hb hK hP hD hS (by decide) rfl dL_law_246 (fun H locs hP hD hS => ?_)
  refine ar_ask (As := [.ref (q 0), .int (83 : Int32), .ref a]) (rest := []) hx hb hml hown hts hK hX hNt hP hD hS (fun hJ ha => mL_ask_slot l hlf hJ ha hp hz) (vx_cwSW 3 hts gL_law_L_ask rfl rfl rfl nVL_ask hR) rfl hsz rfl (Nat.le_of_ble_eq_true rfl) dL_law_247 ⟨by have := hR.1; omega, by have := hR.1; omega⟩ (fun H locs hP hD hS => ?_)
  refine W.widen (k := C + 5) (n := S + 28) (by omega) (by omega) ?_
  exact kk H locs hP hD hS
set_option maxHeartbeats 4000000 in
set_option maxRecDepth 100000 in
theorem sgL_law_255 {p : Program} {l : Launch} {e : Env} {R : Room} {s : State} {m : MethodId} {args : Array Value} {below : List Frame} {meth : Method} {c : Code} {H : Heap} {locs : List Loc} {Q : State → Prop} {ls : Array Slot} {D : va_G} {cy : Nat → ClassId} {b L : Nat} {xs : Nat → Int32} {WO : va_W} {q : Nat → Nat} {σ u : TS} {z : Int32 ⊕ Nat} {C S : Nat} (F : lG p l s m args c cL_law 2 wsL_law D cy b L xs) (hP : va_P D vwCl (gS 78 q (TX cy q) σ ++ WO) H) (hD : va_D (fun a => s.heap.size ≤ a) (gS 78 q (TX cy q) σ ++ WO)) (hS : va_S (fun a => s.heap.size ≤ a) s.heap H locs) (hsz : ls.size = 2) (l1 : ls[1]? = some (.val (.ref (q 0)))) (hp : sX8_slot ((0 : Int32)) ((3 : Int32)) ((0 : Int32)) σ = some (z, u)) (hz : okZ z) (hR : rmL_ask.frames + 1 ≤ R.frames ∧ 8 + (4 + 11) + rmL_ask.locals ≤ R.locals) (hC : C + 5 ≤ R.cells) (hSl : S + 28 ≤ R.slots) (kk : ∀ (H1 : Heap) (locs1 : List Loc), va_P D vwCl (gS 78 q (TX cy q) u ++ WO) H1 → va_D (fun a => s.heap.size ≤ a) (gS 78 q (TX cy q) u ++ WO) → va_S (fun a => s.heap.size ≤ a) s.heap H1 locs1 → W p l e R s m args below meth c H1 locs1 (C + 5) (S + 28) Q (F0 m 276 ls [.int (askR z)])) : W p l e R s m args below meth c H locs C S Q (F0 m 255 ls []) := by
  obtain ⟨hx, hb, hml, hown, hts, hK, hX, hNt, hlf, hN8, hXs, hbl⟩ := F
  refine lv_aload_n hx hb dL_law_255 rfl l1 ?_
  refine lv_bipush (v := (83 : Int32)) hx hb dL_law_256 (by decide) ?_
  refine lv_iconst (v := (3 : Int32)) hx hb dL_law_258 (by decide) ?_
  refine ar_new (N' := 3) hx hb (hts _ mwarL_law) hK hP hD hS (fun _ h => h) (by decide) rfl (Nat.le_of_ble_eq_true rfl) (by omega) (by omega) dL_law_259 (fun a H hP hD hS => ?_)
  refine lv_dup hx hb dL_law_261 rfl ?_
  refine lv_iconst (v := (0 : Int32)) hx hb dL_law_262 (by decide) ?_
  refine lv_iconst (v := (0 : Int32)) hx hb dL_law_263 (by decide) ?_
  refine ar_st (j := 0) hx hb hK hP hD hS (by decide) rfl dL_law_264 (fun H locs hP hD hS => ?_)
  refine lv_dup hx hb dL_law_265 rfl ?_
  refine lv_iconst (v := (1 : Int32)) hx hb dL_law_266 (by decide) ?_
  refine lv_iconst (v := (3 : Int32)) hx hb dL_law_267 (by decide) ?_
  refine ar_st (j := 1) hx hb hK hP hD hS (by decide) rfl dL_law_268 (fun H locs hP hD hS => ?_)
  refine lv_dup hx hb dL_law_269 rfl ?_
  refine lv_iconst (v := (2 : Int32)) hx hb dL_law_270 (by decide) ?_
  refine lv_iconst (v := (0 : Int32)) hx hb dL_law_271 (by decide) ?_
  refine ar_st (j := 2) hx hb hK hP hD hS (by decide) rfl dL_law_272 (fun H locs hP hD hS => ?_)
  refine ar_ask (As := [.ref (q 0), .int (83 : Int32), .ref a]) (rest := []) hx hb hml hown hts hK hX hNt hP hD hS (fun hJ ha => mL_ask_slot l hlf hJ ha hp hz) (vx_cwSW 3 hts gL_law_L_ask rfl rfl rfl nVL_ask hR) rfl hsz rfl (Nat.le_of_ble_eq_true rfl) dL_law_273 ⟨by have := hR.1; omega, by have := hR.1; omega⟩ (fun H locs hP hD hS => ?_)
  refine W.widen (k := C + 5) (n := S + 28) (by omega) (by omega) ?_
  exact kk H locs hP hD hS
set_option maxHeartbeats 4000000 in
set_option maxRecDepth 100000 in
theorem sgL_law_281 {p : Program} {l : Launch} {e : Env} {R : Room} {s : State} {m : MethodId} {args : Array Value} {below : List Frame} {meth : Method} {c : Code} {H : Heap} {locs : List Loc} {Q : State → Prop} {ls : Array Slot} {D : va_G} {cy : Nat → ClassId} {b L : Nat} {xs : Nat → Int32} {WO : va_W} {q : Nat → Nat} {σ u : TS} {z : Int32 ⊕ Nat} {C S : Nat} (F : lG p l s m args c cL_law 2 wsL_law D cy b L xs) (hP : va_P D vwCl (gS 78 q (TX cy q) σ ++ WO) H) (hD : va_D (fun a => s.heap.size ≤ a) (gS 78 q (TX cy q) σ ++ WO)) (hS : va_S (fun a => s.heap.size ≤ a) s.heap H locs) (hsz : ls.size = 2) (l1 : ls[1]? = some (.val (.ref (q 0)))) (hp : sX8_slot ((0 : Int32)) ((0 : Int32)) ((3 : Int32)) σ = some (z, u)) (hz : okZ z) (hR : rmL_ask.frames + 1 ≤ R.frames ∧ 8 + (4 + 11) + rmL_ask.locals ≤ R.locals) (hC : C + 5 ≤ R.cells) (hSl : S + 28 ≤ R.slots) (kk : ∀ (H1 : Heap) (locs1 : List Loc), va_P D vwCl (gS 78 q (TX cy q) u ++ WO) H1 → va_D (fun a => s.heap.size ≤ a) (gS 78 q (TX cy q) u ++ WO) → va_S (fun a => s.heap.size ≤ a) s.heap H1 locs1 → W p l e R s m args below meth c H1 locs1 (C + 5) (S + 28) Q (F0 m 302 ls [.int (askR z)])) : W p l e R s m args below meth c H locs C S Q (F0 m 281 ls []) := by
  obtain ⟨hx, hb, hml, hown, hts, hK, hX, hNt, hlf, hN8, hXs, hbl⟩ := F
  refine lv_aload_n hx hb dL_law_281 rfl l1 ?_
  refine lv_bipush (v := (83 : Int32)) hx hb dL_law_282 (by decide) ?_
  refine lv_iconst (v := (3 : Int32)) hx hb dL_law_284 (by decide) ?_
  refine ar_new (N' := 3) hx hb (hts _ mwarL_law) hK hP hD hS (fun _ h => h) (by decide) rfl (Nat.le_of_ble_eq_true rfl) (by omega) (by omega) dL_law_285 (fun a H hP hD hS => ?_)
  refine lv_dup hx hb dL_law_287 rfl ?_
  refine lv_iconst (v := (0 : Int32)) hx hb dL_law_288 (by decide) ?_
  refine lv_iconst (v := (0 : Int32)) hx hb dL_law_289 (by decide) ?_
  refine ar_st (j := 0) hx hb hK hP hD hS (by decide) rfl dL_law_290 (fun H locs hP hD hS => ?_)
  refine lv_dup hx hb dL_law_291 rfl ?_
  refine lv_iconst (v := (1 : Int32)) hx hb dL_law_292 (by decide) ?_
  refine lv_iconst (v := (0 : Int32)) hx hb dL_law_293 (by decide) ?_
  refine ar_st (j := 1) hx hb hK hP hD hS (by decide) rfl dL_law_294 (fun H locs hP hD hS => ?_)
  refine lv_dup hx hb dL_law_295 rfl ?_
  refine lv_iconst (v := (2 : Int32)) hx hb dL_law_296 (by decide) ?_
  refine lv_iconst (v := (3 : Int32)) hx hb dL_law_297 (by decide) ?_
  refine ar_st (j := 2) hx hb hK hP hD hS (by decide) rfl dL_law_298 (fun H locs hP hD hS => ?_)
  refine ar_ask (As := [.ref (q 0), .int (83 : Int32), .ref a]) (rest := []) hx hb hml hown hts hK hX hNt hP hD hS (fun hJ ha => mL_ask_slot l hlf hJ ha hp hz) (vx_cwSW 3 hts gL_law_L_ask rfl rfl rfl nVL_ask hR) rfl hsz rfl (Nat.le_of_ble_eq_true rfl) dL_law_299 ⟨by have := hR.1; omega, by have := hR.1; omega⟩ (fun H locs hP hD hS => ?_)
  refine W.widen (k := C + 5) (n := S + 28) (by omega) (by omega) ?_
  exact kk H locs hP hD hS
set_option maxHeartbeats 4000000 in
set_option maxRecDepth 100000 in
theorem sgL_law_307 {p : Program} {l : Launch} {e : Env} {R : Room} {s : State} {m : MethodId} {args : Array Value} {below : List Frame} {meth : Method} {c : Code} {H : Heap} {locs : List Loc} {Q : State → Prop} {ls : Array Slot} {D : va_G} {cy : Nat → ClassId} {b L : Nat} {xs : Nat → Int32} {WO : va_W} {q : Nat → Nat} {σ u : TS} {z : Int32 ⊕ Nat} {C S : Nat} (F : lG p l s m args c cL_law 2 wsL_law D cy b L xs) (hP : va_P D vwCl (gS 78 q (TX cy q) σ ++ WO) H) (hD : va_D (fun a => s.heap.size ≤ a) (gS 78 q (TX cy q) σ ++ WO)) (hS : va_S (fun a => s.heap.size ≤ a) s.heap H locs) (hsz : ls.size = 2) (l1 : ls[1]? = some (.val (.ref (q 0)))) (hp : sX8_output ((4 : Int32)) σ = some (z, u)) (hz : okZ z) (hR : rmL_ask.frames + 1 ≤ R.frames ∧ 8 + (4 + 11) + rmL_ask.locals ≤ R.locals) (hC : C + 5 ≤ R.cells) (hSl : S + 28 ≤ R.slots) (kk : ∀ (H1 : Heap) (locs1 : List Loc), va_P D vwCl (gS 78 q (TX cy q) u ++ WO) H1 → va_D (fun a => s.heap.size ≤ a) (gS 78 q (TX cy q) u ++ WO) → va_S (fun a => s.heap.size ≤ a) s.heap H1 locs1 → W p l e R s m args below meth c H1 locs1 (C + 5) (S + 28) Q (F0 m 320 ls [.int (askR z)])) : W p l e R s m args below meth c H locs C S Q (F0 m 307 ls []) := by
  obtain ⟨hx, hb, hml, hown, hts, hK, hX, hNt, hlf, hN8, hXs, hbl⟩ := F
  refine lv_aload_n hx hb dL_law_307 rfl l1 ?_
  refine lv_bipush (v := (111 : Int32)) hx hb dL_law_308 (by decide) ?_
  refine lv_iconst (v := (1 : Int32)) hx hb dL_law_310 (by decide) ?_
  refine ar_new (N' := 1) hx hb (hts _ mwarL_law) hK hP hD hS (fun _ h => h) (by decide) rfl (Nat.le_of_ble_eq_true rfl) (by omega) (by omega) dL_law_311 (fun a H hP hD hS => ?_)
  refine lv_dup hx hb dL_law_313 rfl ?_
  refine lv_iconst (v := (0 : Int32)) hx hb dL_law_314 (by decide) ?_
  refine lv_iconst (v := (4 : Int32)) hx hb dL_law_315 (by decide) ?_
  refine ar_st (j := 0) hx hb hK hP hD hS (by decide) rfl dL_law_316 (fun H locs hP hD hS => ?_)
  refine ar_ask (As := [.ref (q 0), .int (111 : Int32), .ref a]) (rest := []) hx hb hml hown hts hK hX hNt hP hD hS (fun hJ ha => mL_ask_output l hlf hJ ha hp hz) (vx_cwSW 3 hts gL_law_L_ask rfl rfl rfl nVL_ask hR) rfl hsz rfl (Nat.le_of_ble_eq_true rfl) dL_law_317 ⟨by have := hR.1; omega, by have := hR.1; omega⟩ (fun H locs hP hD hS => ?_)
  refine W.widen (k := C + 5) (n := S + 28) (by omega) (by omega) ?_
  exact kk H locs hP hD hS
set_option maxHeartbeats 4000000 in
set_option maxRecDepth 100000 in
theorem sgL_law_325 {p : Program} {l : Launch} {e : Env} {R : Room} {s : State} {m : MethodId} {args : Array Value} {below : List Frame} {meth : Method} {c : Code} {H : Heap} {locs : List Loc} {Q : State → Prop} {ls : Array Slot} {D : va_G} {cy : Nat → ClassId} {b L : Nat} {xs : Nat → Int32} {WO : va_W} {q : Nat → Nat} {σ u : TS} {z : Int32 ⊕ Nat} {C S : Nat} (F : lG p l s m args c cL_law 2 wsL_law D cy b L xs) (hP : va_P D vwCl (gS 78 q (TX cy q) σ ++ WO) H) (hD : va_D (fun a => s.heap.size ≤ a) (gS 78 q (TX cy q) σ ++ WO)) (hS : va_S (fun a => s.heap.size ≤ a) s.heap H locs) (hsz : ls.size = 2) (l1 : ls[1]? = some (.val (.ref (q 0)))) (hp : sX8_plain ((-1 : Int32)) σ = some (z, u)) (hz : okZ z) (hR : rmL_ask.frames + 1 ≤ R.frames ∧ 8 + (4 + 11) + rmL_ask.locals ≤ R.locals) (hC : C + 5 ≤ R.cells) (hSl : S + 28 ≤ R.slots) (kk : ∀ (H1 : Heap) (locs1 : List Loc), va_P D vwCl (gS 78 q (TX cy q) u ++ WO) H1 → va_D (fun a => s.heap.size ≤ a) (gS 78 q (TX cy q) u ++ WO) → va_S (fun a => s.heap.size ≤ a) s.heap H1 locs1 → W p l e R s m args below meth c H1 locs1 (C + 5) (S + 28) Q (F0 m 338 ls [.int (askR z)])) : W p l e R s m args below meth c H locs C S Q (F0 m 325 ls []) := by
  obtain ⟨hx, hb, hml, hown, hts, hK, hX, hNt, hlf, hN8, hXs, hbl⟩ := F
  refine lv_aload_n hx hb dL_law_325 rfl l1 ?_
  refine lv_bipush (v := (112 : Int32)) hx hb dL_law_326 (by decide) ?_
  refine lv_iconst (v := (1 : Int32)) hx hb dL_law_328 (by decide) ?_
  refine ar_new (N' := 1) hx hb (hts _ mwarL_law) hK hP hD hS (fun _ h => h) (by decide) rfl (Nat.le_of_ble_eq_true rfl) (by omega) (by omega) dL_law_329 (fun a H hP hD hS => ?_)
  refine lv_dup hx hb dL_law_331 rfl ?_
  refine lv_iconst (v := (0 : Int32)) hx hb dL_law_332 (by decide) ?_
  refine lv_iconst (v := (-1 : Int32)) hx hb dL_law_333 (by decide) ?_
  refine ar_st (j := 0) hx hb hK hP hD hS (by decide) rfl dL_law_334 (fun H locs hP hD hS => ?_)
  refine ar_ask (As := [.ref (q 0), .int (112 : Int32), .ref a]) (rest := []) hx hb hml hown hts hK hX hNt hP hD hS (fun hJ ha => mL_ask_plain l hlf hJ ha hp hz) (vx_cwSW 3 hts gL_law_L_ask rfl rfl rfl nVL_ask hR) rfl hsz rfl (Nat.le_of_ble_eq_true rfl) dL_law_335 ⟨by have := hR.1; omega, by have := hR.1; omega⟩ (fun H locs hP hD hS => ?_)
  refine W.widen (k := C + 5) (n := S + 28) (by omega) (by omega) ?_
  exact kk H locs hP hD hS
set_option maxHeartbeats 4000000 in
set_option maxRecDepth 100000 in
theorem sgL_law_343 {p : Program} {l : Launch} {e : Env} {R : Room} {s : State} {m : MethodId} {args : Array Value} {below : List Frame} {meth : Method} {c : Code} {H : Heap} {locs : List Loc} {Q : State → Prop} {ls : Array Slot} {D : va_G} {cy : Nat → ClassId} {b L : Nat} {xs : Nat → Int32} {WO : va_W} {q : Nat → Nat} {σ u : TS} {z : Int32 ⊕ Nat} {C S : Nat} (F : lG p l s m args c cL_law 2 wsL_law D cy b L xs) (hP : va_P D vwCl (gS 78 q (TX cy q) σ ++ WO) H) (hD : va_D (fun a => s.heap.size ≤ a) (gS 78 q (TX cy q) σ ++ WO)) (hS : va_S (fun a => s.heap.size ≤ a) s.heap H locs) (hsz : ls.size = 2) (l1 : ls[1]? = some (.val (.ref (q 0)))) (hp : sX8_word ((0 : Int32)) ((0 : Int32)) ((6 : Int32)) σ = some (z, u)) (hz : okZ z) (hR : rmL_ask.frames + 1 ≤ R.frames ∧ 8 + (4 + 11) + rmL_ask.locals ≤ R.locals) (hC : C + 5 ≤ R.cells) (hSl : S + 28 ≤ R.slots) (kk : ∀ (H1 : Heap) (locs1 : List Loc), va_P D vwCl (gS 78 q (TX cy q) u ++ WO) H1 → va_D (fun a => s.heap.size ≤ a) (gS 78 q (TX cy q) u ++ WO) → va_S (fun a => s.heap.size ≤ a) s.heap H1 locs1 → W p l e R s m args below meth c H1 locs1 (C + 5) (S + 28) Q (F0 m 365 ls [.int (askR z)])) : W p l e R s m args below meth c H locs C S Q (F0 m 343 ls []) := by
  obtain ⟨hx, hb, hml, hown, hts, hK, hX, hNt, hlf, hN8, hXs, hbl⟩ := F
  refine lv_aload_n hx hb dL_law_343 rfl l1 ?_
  refine lv_bipush (v := (119 : Int32)) hx hb dL_law_344 (by decide) ?_
  refine lv_iconst (v := (3 : Int32)) hx hb dL_law_346 (by decide) ?_
  refine ar_new (N' := 3) hx hb (hts _ mwarL_law) hK hP hD hS (fun _ h => h) (by decide) rfl (Nat.le_of_ble_eq_true rfl) (by omega) (by omega) dL_law_347 (fun a H hP hD hS => ?_)
  refine lv_dup hx hb dL_law_349 rfl ?_
  refine lv_iconst (v := (0 : Int32)) hx hb dL_law_350 (by decide) ?_
  refine lv_iconst (v := (0 : Int32)) hx hb dL_law_351 (by decide) ?_
  refine ar_st (j := 0) hx hb hK hP hD hS (by decide) rfl dL_law_352 (fun H locs hP hD hS => ?_)
  refine lv_dup hx hb dL_law_353 rfl ?_
  refine lv_iconst (v := (1 : Int32)) hx hb dL_law_354 (by decide) ?_
  refine lv_iconst (v := (0 : Int32)) hx hb dL_law_355 (by decide) ?_
  refine ar_st (j := 1) hx hb hK hP hD hS (by decide) rfl dL_law_356 (fun H locs hP hD hS => ?_)
  refine lv_dup hx hb dL_law_357 rfl ?_
  refine lv_iconst (v := (2 : Int32)) hx hb dL_law_358 (by decide) ?_
  refine lv_bipush (v := (6 : Int32)) hx hb dL_law_359 (by decide) ?_
  refine ar_st (j := 2) hx hb hK hP hD hS (by decide) rfl dL_law_361 (fun H locs hP hD hS => ?_)
  refine ar_ask (As := [.ref (q 0), .int (119 : Int32), .ref a]) (rest := []) hx hb hml hown hts hK hX hNt hP hD hS (fun hJ ha => mL_ask_word l hlf hJ ha hp hz) (vx_cwSW 3 hts gL_law_L_ask rfl rfl rfl nVL_ask hR) rfl hsz rfl (Nat.le_of_ble_eq_true rfl) dL_law_362 ⟨by have := hR.1; omega, by have := hR.1; omega⟩ (fun H locs hP hD hS => ?_)
  refine W.widen (k := C + 5) (n := S + 28) (by omega) (by omega) ?_
  exact kk H locs hP hD hS
set_option maxHeartbeats 4000000 in
set_option maxRecDepth 100000 in
theorem sgL_law_370 {p : Program} {l : Launch} {e : Env} {R : Room} {s : State} {m : MethodId} {args : Array Value} {below : List Frame} {meth : Method} {c : Code} {H : Heap} {locs : List Loc} {Q : State → Prop} {ls : Array Slot} {D : va_G} {cy : Nat → ClassId} {b L : Nat} {xs : Nat → Int32} {WO : va_W} {q : Nat → Nat} {σ u : TS} {z : Int32 ⊕ Nat} {C S : Nat} (F : lG p l s m args c cL_law 2 wsL_law D cy b L xs) (hP : va_P D vwCl (gS 78 q (TX cy q) σ ++ WO) H) (hD : va_D (fun a => s.heap.size ≤ a) (gS 78 q (TX cy q) σ ++ WO)) (hS : va_S (fun a => s.heap.size ≤ a) s.heap H locs) (hsz : ls.size = 2) (l1 : ls[1]? = some (.val (.ref (q 0)))) (hp : sX8_flip ((0 : Int32)) ((0 : Int32)) ((0 : Int32)) ((16 : Int32)) σ = some (z, u)) (hz : okZ z) (hR : rmL_ask.frames + 1 ≤ R.frames ∧ 8 + (4 + 11) + rmL_ask.locals ≤ R.locals) (hC : C + 5 ≤ R.cells) (hSl : S + 28 ≤ R.slots) (kk : ∀ (H1 : Heap) (locs1 : List Loc), va_P D vwCl (gS 78 q (TX cy q) u ++ WO) H1 → va_D (fun a => s.heap.size ≤ a) (gS 78 q (TX cy q) u ++ WO) → va_S (fun a => s.heap.size ≤ a) s.heap H1 locs1 → W p l e R s m args below meth c H1 locs1 (C + 5) (S + 28) Q (F0 m 396 ls [.int (askR z)])) : W p l e R s m args below meth c H locs C S Q (F0 m 370 ls []) := by
  obtain ⟨hx, hb, hml, hown, hts, hK, hX, hNt, hlf, hN8, hXs, hbl⟩ := F
  refine lv_aload_n hx hb dL_law_370 rfl l1 ?_
  refine lv_bipush (v := (102 : Int32)) hx hb dL_law_371 (by decide) ?_
  refine lv_iconst (v := (4 : Int32)) hx hb dL_law_373 (by decide) ?_
  refine ar_new (N' := 4) hx hb (hts _ mwarL_law) hK hP hD hS (fun _ h => h) (by decide) rfl (Nat.le_of_ble_eq_true rfl) (by omega) (by omega) dL_law_374 (fun a H hP hD hS => ?_)
  refine lv_dup hx hb dL_law_376 rfl ?_
  refine lv_iconst (v := (0 : Int32)) hx hb dL_law_377 (by decide) ?_
  refine lv_iconst (v := (0 : Int32)) hx hb dL_law_378 (by decide) ?_
  refine ar_st (j := 0) hx hb hK hP hD hS (by decide) rfl dL_law_379 (fun H locs hP hD hS => ?_)
  refine lv_dup hx hb dL_law_380 rfl ?_
  refine lv_iconst (v := (1 : Int32)) hx hb dL_law_381 (by decide) ?_
  refine lv_iconst (v := (0 : Int32)) hx hb dL_law_382 (by decide) ?_
  refine ar_st (j := 1) hx hb hK hP hD hS (by decide) rfl dL_law_383 (fun H locs hP hD hS => ?_)
  refine lv_dup hx hb dL_law_384 rfl ?_
  refine lv_iconst (v := (2 : Int32)) hx hb dL_law_385 (by decide) ?_
  refine lv_iconst (v := (0 : Int32)) hx hb dL_law_386 (by decide) ?_
  refine ar_st (j := 2) hx hb hK hP hD hS (by decide) rfl dL_law_387 (fun H locs hP hD hS => ?_)
  refine lv_dup hx hb dL_law_388 rfl ?_
  refine lv_iconst (v := (3 : Int32)) hx hb dL_law_389 (by decide) ?_
  refine lv_bipush (v := (16 : Int32)) hx hb dL_law_390 (by decide) ?_
  refine ar_st (j := 3) hx hb hK hP hD hS (by decide) rfl dL_law_392 (fun H locs hP hD hS => ?_)
  refine ar_ask (As := [.ref (q 0), .int (102 : Int32), .ref a]) (rest := []) hx hb hml hown hts hK hX hNt hP hD hS (fun hJ ha => mL_ask_flip l hlf hJ ha hp hz) (vx_cwSW 3 hts gL_law_L_ask rfl rfl rfl nVL_ask hR) rfl hsz rfl (Nat.le_of_ble_eq_true rfl) dL_law_393 ⟨by have := hR.1; omega, by have := hR.1; omega⟩ (fun H locs hP hD hS => ?_)
  refine W.widen (k := C + 5) (n := S + 28) (by omega) (by omega) ?_
  exact kk H locs hP hD hS
set_option maxHeartbeats 4000000 in
set_option maxRecDepth 100000 in
theorem sgL_law_401 {p : Program} {l : Launch} {e : Env} {R : Room} {s : State} {m : MethodId} {args : Array Value} {below : List Frame} {meth : Method} {c : Code} {H : Heap} {locs : List Loc} {Q : State → Prop} {ls : Array Slot} {D : va_G} {cy : Nat → ClassId} {b L : Nat} {xs : Nat → Int32} {WO : va_W} {q : Nat → Nat} {σ u : TS} {z : Int32 ⊕ Nat} {C S : Nat} (F : lG p l s m args c cL_law 2 wsL_law D cy b L xs) (hP : va_P D vwCl (gS 78 q (TX cy q) σ ++ WO) H) (hD : va_D (fun a => s.heap.size ≤ a) (gS 78 q (TX cy q) σ ++ WO)) (hS : va_S (fun a => s.heap.size ≤ a) s.heap H locs) (hsz : ls.size = 2) (l1 : ls[1]? = some (.val (.ref (q 0)))) (hp : sX8_stick ((0 : Int32)) ((4 : Int32)) ((0 : Int32)) (if ((0 : Int32)) = 1 then 1 else 0) σ = some (z, u)) (hz : okZ z) (hR : rmL_ask.frames + 1 ≤ R.frames ∧ 8 + (4 + 11) + rmL_ask.locals ≤ R.locals) (hC : C + 5 ≤ R.cells) (hSl : S + 28 ≤ R.slots) (kk : ∀ (H1 : Heap) (locs1 : List Loc), va_P D vwCl (gS 78 q (TX cy q) u ++ WO) H1 → va_D (fun a => s.heap.size ≤ a) (gS 78 q (TX cy q) u ++ WO) → va_S (fun a => s.heap.size ≤ a) s.heap H1 locs1 → W p l e R s m args below meth c H1 locs1 (C + 5) (S + 28) Q (F0 m 426 ls [.int (askR (zB z))])) : W p l e R s m args below meth c H locs C S Q (F0 m 401 ls []) := by
  obtain ⟨hx, hb, hml, hown, hts, hK, hX, hNt, hlf, hN8, hXs, hbl⟩ := F
  refine lv_aload_n hx hb dL_law_401 rfl l1 ?_
  refine lv_bipush (v := (107 : Int32)) hx hb dL_law_402 (by decide) ?_
  refine lv_iconst (v := (4 : Int32)) hx hb dL_law_404 (by decide) ?_
  refine ar_new (N' := 4) hx hb (hts _ mwarL_law) hK hP hD hS (fun _ h => h) (by decide) rfl (Nat.le_of_ble_eq_true rfl) (by omega) (by omega) dL_law_405 (fun a H hP hD hS => ?_)
  refine lv_dup hx hb dL_law_407 rfl ?_
  refine lv_iconst (v := (0 : Int32)) hx hb dL_law_408 (by decide) ?_
  refine lv_iconst (v := (0 : Int32)) hx hb dL_law_409 (by decide) ?_
  refine ar_st (j := 0) hx hb hK hP hD hS (by decide) rfl dL_law_410 (fun H locs hP hD hS => ?_)
  refine lv_dup hx hb dL_law_411 rfl ?_
  refine lv_iconst (v := (1 : Int32)) hx hb dL_law_412 (by decide) ?_
  refine lv_iconst (v := (4 : Int32)) hx hb dL_law_413 (by decide) ?_
  refine ar_st (j := 1) hx hb hK hP hD hS (by decide) rfl dL_law_414 (fun H locs hP hD hS => ?_)
  refine lv_dup hx hb dL_law_415 rfl ?_
  refine lv_iconst (v := (2 : Int32)) hx hb dL_law_416 (by decide) ?_
  refine lv_iconst (v := (0 : Int32)) hx hb dL_law_417 (by decide) ?_
  refine ar_st (j := 2) hx hb hK hP hD hS (by decide) rfl dL_law_418 (fun H locs hP hD hS => ?_)
  refine lv_dup hx hb dL_law_419 rfl ?_
  refine lv_iconst (v := (3 : Int32)) hx hb dL_law_420 (by decide) ?_
  refine lv_iconst (v := (0 : Int32)) hx hb dL_law_421 (by decide) ?_
  refine ar_st (j := 3) hx hb hK hP hD hS (by decide) rfl dL_law_422 (fun H locs hP hD hS => ?_)
  refine ar_ask (As := [.ref (q 0), .int (107 : Int32), .ref a]) (rest := []) hx hb hml hown hts hK hX hNt hP hD hS (fun hJ ha => mL_ask_stick l hlf hJ ha hp hz) (vx_cwSW 3 hts gL_law_L_ask rfl rfl rfl nVL_ask hR) rfl hsz rfl (Nat.le_of_ble_eq_true rfl) dL_law_423 ⟨by have := hR.1; omega, by have := hR.1; omega⟩ (fun H locs hP hD hS => ?_)
  refine W.widen (k := C + 5) (n := S + 28) (by omega) (by omega) ?_
  exact kk H locs hP hD hS
set_option maxHeartbeats 4000000 in
set_option maxRecDepth 100000 in
theorem sgL_law_431 {p : Program} {l : Launch} {e : Env} {R : Room} {s : State} {m : MethodId} {args : Array Value} {below : List Frame} {meth : Method} {c : Code} {H : Heap} {locs : List Loc} {Q : State → Prop} {ls : Array Slot} {D : va_G} {cy : Nat → ClassId} {b L : Nat} {xs : Nat → Int32} {WO : va_W} {q : Nat → Nat} {σ u : TS} {z : Int32 ⊕ Nat} {C S : Nat} (F : lG p l s m args c cL_law 2 wsL_law D cy b L xs) (hP : va_P D vwCl (gS 78 q (TX cy q) σ ++ WO) H) (hD : va_D (fun a => s.heap.size ≤ a) (gS 78 q (TX cy q) σ ++ WO)) (hS : va_S (fun a => s.heap.size ≤ a) s.heap H locs) (hsz : ls.size = 2) (l1 : ls[1]? = some (.val (.ref (q 0)))) (hp : sX8_fix ((3 : Int32)) σ = some (z, u)) (hz : okZ z) (hR : rmL_ask.frames + 1 ≤ R.frames ∧ 8 + (4 + 11) + rmL_ask.locals ≤ R.locals) (hC : C + 5 ≤ R.cells) (hSl : S + 28 ≤ R.slots) (kk : ∀ (H1 : Heap) (locs1 : List Loc), va_P D vwCl (gS 78 q (TX cy q) u ++ WO) H1 → va_D (fun a => s.heap.size ≤ a) (gS 78 q (TX cy q) u ++ WO) → va_S (fun a => s.heap.size ≤ a) s.heap H1 locs1 → W p l e R s m args below meth c H1 locs1 (C + 5) (S + 28) Q (F0 m 444 ls [.int (askR (zB z))])) : W p l e R s m args below meth c H locs C S Q (F0 m 431 ls []) := by
  obtain ⟨hx, hb, hml, hown, hts, hK, hX, hNt, hlf, hN8, hXs, hbl⟩ := F
  refine lv_aload_n hx hb dL_law_431 rfl l1 ?_
  refine lv_bipush (v := (120 : Int32)) hx hb dL_law_432 (by decide) ?_
  refine lv_iconst (v := (1 : Int32)) hx hb dL_law_434 (by decide) ?_
  refine ar_new (N' := 1) hx hb (hts _ mwarL_law) hK hP hD hS (fun _ h => h) (by decide) rfl (Nat.le_of_ble_eq_true rfl) (by omega) (by omega) dL_law_435 (fun a H hP hD hS => ?_)
  refine lv_dup hx hb dL_law_437 rfl ?_
  refine lv_iconst (v := (0 : Int32)) hx hb dL_law_438 (by decide) ?_
  refine lv_iconst (v := (3 : Int32)) hx hb dL_law_439 (by decide) ?_
  refine ar_st (j := 0) hx hb hK hP hD hS (by decide) rfl dL_law_440 (fun H locs hP hD hS => ?_)
  refine ar_ask (As := [.ref (q 0), .int (120 : Int32), .ref a]) (rest := []) hx hb hml hown hts hK hX hNt hP hD hS (fun hJ ha => mL_ask_fix l hlf hJ ha hp hz) (vx_cwSW 3 hts gL_law_L_ask rfl rfl rfl nVL_ask hR) rfl hsz rfl (Nat.le_of_ble_eq_true rfl) dL_law_441 ⟨by have := hR.1; omega, by have := hR.1; omega⟩ (fun H locs hP hD hS => ?_)
  refine W.widen (k := C + 5) (n := S + 28) (by omega) (by omega) ?_
  exact kk H locs hP hD hS
set_option maxHeartbeats 4000000 in
set_option maxRecDepth 100000 in
theorem sgL_law_449 {p : Program} {l : Launch} {e : Env} {R : Room} {s : State} {m : MethodId} {args : Array Value} {below : List Frame} {meth : Method} {c : Code} {H : Heap} {locs : List Loc} {Q : State → Prop} {ls : Array Slot} {D : va_G} {cy : Nat → ClassId} {b L : Nat} {xs : Nat → Int32} {WO : va_W} {q : Nat → Nat} {σ u : TS} {z : Int32 ⊕ Nat} {C S : Nat} (F : lG p l s m args c cL_law 2 wsL_law D cy b L xs) (hP : va_P D vwCl (gS 78 q (TX cy q) σ ++ WO) H) (hD : va_D (fun a => s.heap.size ≤ a) (gS 78 q (TX cy q) σ ++ WO)) (hS : va_S (fun a => s.heap.size ≤ a) s.heap H locs) (hsz : ls.size = 2) (l1 : ls[1]? = some (.val (.ref (q 0)))) (hp : sX8_isOn ((3 : Int32)) σ = some (z, u)) (hz : okZ z) (hR : rmL_ask.frames + 1 ≤ R.frames ∧ 8 + (4 + 11) + rmL_ask.locals ≤ R.locals) (hC : C + 5 ≤ R.cells) (hSl : S + 28 ≤ R.slots) (kk : ∀ (H1 : Heap) (locs1 : List Loc), va_P D vwCl (gS 78 q (TX cy q) u ++ WO) H1 → va_D (fun a => s.heap.size ≤ a) (gS 78 q (TX cy q) u ++ WO) → va_S (fun a => s.heap.size ≤ a) s.heap H1 locs1 → W p l e R s m args below meth c H1 locs1 (C + 5) (S + 28) Q (F0 m 462 ls [.int (askR (zB z))])) : W p l e R s m args below meth c H locs C S Q (F0 m 449 ls []) := by
  obtain ⟨hx, hb, hml, hown, hts, hK, hX, hNt, hlf, hN8, hXs, hbl⟩ := F
  refine lv_aload_n hx hb dL_law_449 rfl l1 ?_
  refine lv_bipush (v := (110 : Int32)) hx hb dL_law_450 (by decide) ?_
  refine lv_iconst (v := (1 : Int32)) hx hb dL_law_452 (by decide) ?_
  refine ar_new (N' := 1) hx hb (hts _ mwarL_law) hK hP hD hS (fun _ h => h) (by decide) rfl (Nat.le_of_ble_eq_true rfl) (by omega) (by omega) dL_law_453 (fun a H hP hD hS => ?_)
  refine lv_dup hx hb dL_law_455 rfl ?_
  refine lv_iconst (v := (0 : Int32)) hx hb dL_law_456 (by decide) ?_
  refine lv_iconst (v := (3 : Int32)) hx hb dL_law_457 (by decide) ?_
  refine ar_st (j := 0) hx hb hK hP hD hS (by decide) rfl dL_law_458 (fun H locs hP hD hS => ?_)
  refine ar_ask (As := [.ref (q 0), .int (110 : Int32), .ref a]) (rest := []) hx hb hml hown hts hK hX hNt hP hD hS (fun hJ ha => mL_ask_isOn l hlf hJ ha hp hz) (vx_cwSW 3 hts gL_law_L_ask rfl rfl rfl nVL_ask hR) rfl hsz rfl (Nat.le_of_ble_eq_true rfl) dL_law_459 ⟨by have := hR.1; omega, by have := hR.1; omega⟩ (fun H locs hP hD hS => ?_)
  refine W.widen (k := C + 5) (n := S + 28) (by omega) (by omega) ?_
  exact kk H locs hP hD hS
set_option maxHeartbeats 4000000 in
set_option maxRecDepth 100000 in
theorem sgL_law_467 {p : Program} {l : Launch} {e : Env} {R : Room} {s : State} {m : MethodId} {args : Array Value} {below : List Frame} {meth : Method} {c : Code} {H : Heap} {locs : List Loc} {Q : State → Prop} {ls : Array Slot} {D : va_G} {cy : Nat → ClassId} {b L : Nat} {xs : Nat → Int32} {WO : va_W} {q : Nat → Nat} {σ u : TS} {z : Int32 ⊕ Nat} {C S : Nat} (F : lG p l s m args c cL_law 2 wsL_law D cy b L xs) (hP : va_P D vwCl (gS 78 q (TX cy q) σ ++ WO) H) (hD : va_D (fun a => s.heap.size ≤ a) (gS 78 q (TX cy q) σ ++ WO)) (hS : va_S (fun a => s.heap.size ≤ a) s.heap H locs) (hsz : ls.size = 2) (l1 : ls[1]? = some (.val (.ref (q 0)))) (hp : sX8_strikes ((3 : Int32)) σ = some (z, u)) (hz : okZ z) (hR : rmL_ask.frames + 1 ≤ R.frames ∧ 8 + (4 + 11) + rmL_ask.locals ≤ R.locals) (hC : C + 5 ≤ R.cells) (hSl : S + 28 ≤ R.slots) (kk : ∀ (H1 : Heap) (locs1 : List Loc), va_P D vwCl (gS 78 q (TX cy q) u ++ WO) H1 → va_D (fun a => s.heap.size ≤ a) (gS 78 q (TX cy q) u ++ WO) → va_S (fun a => s.heap.size ≤ a) s.heap H1 locs1 → W p l e R s m args below meth c H1 locs1 (C + 5) (S + 28) Q (F0 m 480 ls [.int (askR z)])) : W p l e R s m args below meth c H locs C S Q (F0 m 467 ls []) := by
  obtain ⟨hx, hb, hml, hown, hts, hK, hX, hNt, hlf, hN8, hXs, hbl⟩ := F
  refine lv_aload_n hx hb dL_law_467 rfl l1 ?_
  refine lv_bipush (v := (115 : Int32)) hx hb dL_law_468 (by decide) ?_
  refine lv_iconst (v := (1 : Int32)) hx hb dL_law_470 (by decide) ?_
  refine ar_new (N' := 1) hx hb (hts _ mwarL_law) hK hP hD hS (fun _ h => h) (by decide) rfl (Nat.le_of_ble_eq_true rfl) (by omega) (by omega) dL_law_471 (fun a H hP hD hS => ?_)
  refine lv_dup hx hb dL_law_473 rfl ?_
  refine lv_iconst (v := (0 : Int32)) hx hb dL_law_474 (by decide) ?_
  refine lv_iconst (v := (3 : Int32)) hx hb dL_law_475 (by decide) ?_
  refine ar_st (j := 0) hx hb hK hP hD hS (by decide) rfl dL_law_476 (fun H locs hP hD hS => ?_)
  refine ar_ask (As := [.ref (q 0), .int (115 : Int32), .ref a]) (rest := []) hx hb hml hown hts hK hX hNt hP hD hS (fun hJ ha => mL_ask_strikes l hlf hJ ha hp hz) (vx_cwSW 3 hts gL_law_L_ask rfl rfl rfl nVL_ask hR) rfl hsz rfl (Nat.le_of_ble_eq_true rfl) dL_law_477 ⟨by have := hR.1; omega, by have := hR.1; omega⟩ (fun H locs hP hD hS => ?_)
  refine W.widen (k := C + 5) (n := S + 28) (by omega) (by omega) ?_
  exact kk H locs hP hD hS
set_option maxHeartbeats 4000000 in
set_option maxRecDepth 100000 in
theorem sgL_law_485 {p : Program} {l : Launch} {e : Env} {R : Room} {s : State} {m : MethodId} {args : Array Value} {below : List Frame} {meth : Method} {c : Code} {H : Heap} {locs : List Loc} {Q : State → Prop} {ls : Array Slot} {D : va_G} {cy : Nat → ClassId} {b L : Nat} {xs : Nat → Int32} {WO : va_W} {q : Nat → Nat} {σ u : TS} {z : Int32 ⊕ Nat} {C S : Nat} (F : lG p l s m args c cL_law 2 wsL_law D cy b L xs) (hP : va_P D vwCl (gS 78 q (TX cy q) σ ++ WO) H) (hD : va_D (fun a => s.heap.size ≤ a) (gS 78 q (TX cy q) σ ++ WO)) (hS : va_S (fun a => s.heap.size ≤ a) s.heap H locs) (hsz : ls.size = 2) (l1 : ls[1]? = some (.val (.ref (q 0)))) (hp : sX8_shut ((3 : Int32)) σ = some (z, u)) (hz : okZ z) (hR : rmL_ask.frames + 1 ≤ R.frames ∧ 8 + (4 + 11) + rmL_ask.locals ≤ R.locals) (hC : C + 5 ≤ R.cells) (hSl : S + 28 ≤ R.slots) (kk : ∀ (H1 : Heap) (locs1 : List Loc), va_P D vwCl (gS 78 q (TX cy q) u ++ WO) H1 → va_D (fun a => s.heap.size ≤ a) (gS 78 q (TX cy q) u ++ WO) → va_S (fun a => s.heap.size ≤ a) s.heap H1 locs1 → W p l e R s m args below meth c H1 locs1 (C + 5) (S + 28) Q (F0 m 498 ls [.int (askR z)])) : W p l e R s m args below meth c H locs C S Q (F0 m 485 ls []) := by
  obtain ⟨hx, hb, hml, hown, hts, hK, hX, hNt, hlf, hN8, hXs, hbl⟩ := F
  refine lv_aload_n hx hb dL_law_485 rfl l1 ?_
  refine lv_bipush (v := (104 : Int32)) hx hb dL_law_486 (by decide) ?_
  refine lv_iconst (v := (1 : Int32)) hx hb dL_law_488 (by decide) ?_
  refine ar_new (N' := 1) hx hb (hts _ mwarL_law) hK hP hD hS (fun _ h => h) (by decide) rfl (Nat.le_of_ble_eq_true rfl) (by omega) (by omega) dL_law_489 (fun a H hP hD hS => ?_)
  refine lv_dup hx hb dL_law_491 rfl ?_
  refine lv_iconst (v := (0 : Int32)) hx hb dL_law_492 (by decide) ?_
  refine lv_iconst (v := (3 : Int32)) hx hb dL_law_493 (by decide) ?_
  refine ar_st (j := 0) hx hb hK hP hD hS (by decide) rfl dL_law_494 (fun H locs hP hD hS => ?_)
  refine ar_ask (As := [.ref (q 0), .int (104 : Int32), .ref a]) (rest := []) hx hb hml hown hts hK hX hNt hP hD hS (fun hJ ha => mL_ask_shut l hlf hJ ha hp hz) (vx_cwSW 3 hts gL_law_L_ask rfl rfl rfl nVL_ask hR) rfl hsz rfl (Nat.le_of_ble_eq_true rfl) dL_law_495 ⟨by have := hR.1; omega, by have := hR.1; omega⟩ (fun H locs hP hD hS => ?_)
  refine W.widen (k := C + 5) (n := S + 28) (by omega) (by omega) ?_
  exact kk H locs hP hD hS
set_option maxHeartbeats 4000000 in
set_option maxRecDepth 100000 in
theorem sgL_law_503 {p : Program} {l : Launch} {e : Env} {R : Room} {s : State} {m : MethodId} {args : Array Value} {below : List Frame} {meth : Method} {c : Code} {H : Heap} {locs : List Loc} {Q : State → Prop} {ls : Array Slot} {D : va_G} {cy : Nat → ClassId} {b L : Nat} {xs : Nat → Int32} {WO : va_W} {q : Nat → Nat} {σ u : TS} {z : Int32 ⊕ Nat} {C S : Nat} (F : lG p l s m args c cL_law 2 wsL_law D cy b L xs) (hP : va_P D vwCl (gS 78 q (TX cy q) σ ++ WO) H) (hD : va_D (fun a => s.heap.size ≤ a) (gS 78 q (TX cy q) σ ++ WO)) (hS : va_S (fun a => s.heap.size ≤ a) s.heap H locs) (hsz : ls.size = 2) (l1 : ls[1]? = some (.val (.ref (q 0)))) (hp : sX8_test ((3 : Int32)) σ = some (z, u)) (hz : okZ z) (hR : rmL_ask.frames + 1 ≤ R.frames ∧ 8 + (4 + 11) + rmL_ask.locals ≤ R.locals) (hC : C + 5 ≤ R.cells) (hSl : S + 28 ≤ R.slots) (kk : ∀ (H1 : Heap) (locs1 : List Loc), va_P D vwCl (gS 78 q (TX cy q) u ++ WO) H1 → va_D (fun a => s.heap.size ≤ a) (gS 78 q (TX cy q) u ++ WO) → va_S (fun a => s.heap.size ≤ a) s.heap H1 locs1 → W p l e R s m args below meth c H1 locs1 (C + 5) (S + 28) Q (F0 m 516 ls [.int (askR (zB z))])) : W p l e R s m args below meth c H locs C S Q (F0 m 503 ls []) := by
  obtain ⟨hx, hb, hml, hown, hts, hK, hX, hNt, hlf, hN8, hXs, hbl⟩ := F
  refine lv_aload_n hx hb dL_law_503 rfl l1 ?_
  refine lv_bipush (v := (116 : Int32)) hx hb dL_law_504 (by decide) ?_
  refine lv_iconst (v := (1 : Int32)) hx hb dL_law_506 (by decide) ?_
  refine ar_new (N' := 1) hx hb (hts _ mwarL_law) hK hP hD hS (fun _ h => h) (by decide) rfl (Nat.le_of_ble_eq_true rfl) (by omega) (by omega) dL_law_507 (fun a H hP hD hS => ?_)
  refine lv_dup hx hb dL_law_509 rfl ?_
  refine lv_iconst (v := (0 : Int32)) hx hb dL_law_510 (by decide) ?_
  refine lv_iconst (v := (3 : Int32)) hx hb dL_law_511 (by decide) ?_
  refine ar_st (j := 0) hx hb hK hP hD hS (by decide) rfl dL_law_512 (fun H locs hP hD hS => ?_)
  refine ar_ask (As := [.ref (q 0), .int (116 : Int32), .ref a]) (rest := []) hx hb hml hown hts hK hX hNt hP hD hS (fun hJ ha => mL_ask_test l hlf hJ ha hp hz) (vx_cwSW 3 hts gL_law_L_ask rfl rfl rfl nVL_ask hR) rfl hsz rfl (Nat.le_of_ble_eq_true rfl) dL_law_513 ⟨by have := hR.1; omega, by have := hR.1; omega⟩ (fun H locs hP hD hS => ?_)
  refine W.widen (k := C + 5) (n := S + 28) (by omega) (by omega) ?_
  exact kk H locs hP hD hS
set_option maxHeartbeats 4000000 in
set_option maxRecDepth 100000 in
theorem sgL_law_521 {p : Program} {l : Launch} {e : Env} {R : Room} {s : State} {m : MethodId} {args : Array Value} {below : List Frame} {meth : Method} {c : Code} {H : Heap} {locs : List Loc} {Q : State → Prop} {ls : Array Slot} {D : va_G} {cy : Nat → ClassId} {b L : Nat} {xs : Nat → Int32} {WO : va_W} {q : Nat → Nat} {σ u : TS} {z : Int32 ⊕ Nat} {C S : Nat} (F : lG p l s m args c cL_law 2 wsL_law D cy b L xs) (hP : va_P D vwCl (gS 78 q (TX cy q) σ ++ WO) H) (hD : va_D (fun a => s.heap.size ≤ a) (gS 78 q (TX cy q) σ ++ WO)) (hS : va_S (fun a => s.heap.size ≤ a) s.heap H locs) (hsz : ls.size = 2) (l1 : ls[1]? = some (.val (.ref (q 0)))) (hp : sX8_test ((0 : Int32)) σ = some (z, u)) (hz : okZ z) (hR : rmL_ask.frames + 1 ≤ R.frames ∧ 8 + (4 + 11) + rmL_ask.locals ≤ R.locals) (hC : C + 5 ≤ R.cells) (hSl : S + 28 ≤ R.slots) (kk : ∀ (H1 : Heap) (locs1 : List Loc), va_P D vwCl (gS 78 q (TX cy q) u ++ WO) H1 → va_D (fun a => s.heap.size ≤ a) (gS 78 q (TX cy q) u ++ WO) → va_S (fun a => s.heap.size ≤ a) s.heap H1 locs1 → W p l e R s m args below meth c H1 locs1 (C + 5) (S + 28) Q (F0 m 534 ls [.int (askR (zB z))])) : W p l e R s m args below meth c H locs C S Q (F0 m 521 ls []) := by
  obtain ⟨hx, hb, hml, hown, hts, hK, hX, hNt, hlf, hN8, hXs, hbl⟩ := F
  refine lv_aload_n hx hb dL_law_521 rfl l1 ?_
  refine lv_bipush (v := (116 : Int32)) hx hb dL_law_522 (by decide) ?_
  refine lv_iconst (v := (1 : Int32)) hx hb dL_law_524 (by decide) ?_
  refine ar_new (N' := 1) hx hb (hts _ mwarL_law) hK hP hD hS (fun _ h => h) (by decide) rfl (Nat.le_of_ble_eq_true rfl) (by omega) (by omega) dL_law_525 (fun a H hP hD hS => ?_)
  refine lv_dup hx hb dL_law_527 rfl ?_
  refine lv_iconst (v := (0 : Int32)) hx hb dL_law_528 (by decide) ?_
  refine lv_iconst (v := (0 : Int32)) hx hb dL_law_529 (by decide) ?_
  refine ar_st (j := 0) hx hb hK hP hD hS (by decide) rfl dL_law_530 (fun H locs hP hD hS => ?_)
  refine ar_ask (As := [.ref (q 0), .int (116 : Int32), .ref a]) (rest := []) hx hb hml hown hts hK hX hNt hP hD hS (fun hJ ha => mL_ask_test l hlf hJ ha hp hz) (vx_cwSW 3 hts gL_law_L_ask rfl rfl rfl nVL_ask hR) rfl hsz rfl (Nat.le_of_ble_eq_true rfl) dL_law_531 ⟨by have := hR.1; omega, by have := hR.1; omega⟩ (fun H locs hP hD hS => ?_)
  refine W.widen (k := C + 5) (n := S + 28) (by omega) (by omega) ?_
  exact kk H locs hP hD hS
set_option maxHeartbeats 4000000 in
set_option maxRecDepth 100000 in
theorem sgL_law_539 {p : Program} {l : Launch} {e : Env} {R : Room} {s : State} {m : MethodId} {args : Array Value} {below : List Frame} {meth : Method} {c : Code} {H : Heap} {locs : List Loc} {Q : State → Prop} {ls : Array Slot} {D : va_G} {cy : Nat → ClassId} {b L : Nat} {xs : Nat → Int32} {WO : va_W} {q : Nat → Nat} {σ u : TS} {z : Int32 ⊕ Nat} {C S : Nat} (F : lG p l s m args c cL_law 2 wsL_law D cy b L xs) (hP : va_P D vwCl (gS 78 q (TX cy q) σ ++ WO) H) (hD : va_D (fun a => s.heap.size ≤ a) (gS 78 q (TX cy q) σ ++ WO)) (hS : va_S (fun a => s.heap.size ≤ a) s.heap H locs) (hsz : ls.size = 2) (l1 : ls[1]? = some (.val (.ref (q 0)))) (hp : sX8_back ((0 : Int32)) σ = some (z, u)) (hz : okZ z) (hR : rmL_ask.frames + 1 ≤ R.frames ∧ 8 + (4 + 11) + rmL_ask.locals ≤ R.locals) (hC : C + 5 ≤ R.cells) (hSl : S + 28 ≤ R.slots) (kk : ∀ (H1 : Heap) (locs1 : List Loc), va_P D vwCl (gS 78 q (TX cy q) u ++ WO) H1 → va_D (fun a => s.heap.size ≤ a) (gS 78 q (TX cy q) u ++ WO) → va_S (fun a => s.heap.size ≤ a) s.heap H1 locs1 → W p l e R s m args below meth c H1 locs1 (C + 5) (S + 28) Q (F0 m 552 ls [.int (askR z)])) : W p l e R s m args below meth c H locs C S Q (F0 m 539 ls []) := by
  obtain ⟨hx, hb, hml, hown, hts, hK, hX, hNt, hlf, hN8, hXs, hbl⟩ := F
  refine lv_aload_n hx hb dL_law_539 rfl l1 ?_
  refine lv_bipush (v := (98 : Int32)) hx hb dL_law_540 (by decide) ?_
  refine lv_iconst (v := (1 : Int32)) hx hb dL_law_542 (by decide) ?_
  refine ar_new (N' := 1) hx hb (hts _ mwarL_law) hK hP hD hS (fun _ h => h) (by decide) rfl (Nat.le_of_ble_eq_true rfl) (by omega) (by omega) dL_law_543 (fun a H hP hD hS => ?_)
  refine lv_dup hx hb dL_law_545 rfl ?_
  refine lv_iconst (v := (0 : Int32)) hx hb dL_law_546 (by decide) ?_
  refine lv_iconst (v := (0 : Int32)) hx hb dL_law_547 (by decide) ?_
  refine ar_st (j := 0) hx hb hK hP hD hS (by decide) rfl dL_law_548 (fun H locs hP hD hS => ?_)
  refine ar_ask (As := [.ref (q 0), .int (98 : Int32), .ref a]) (rest := []) hx hb hml hown hts hK hX hNt hP hD hS (fun hJ ha => mL_ask_back l hlf hJ ha hp hz) (vx_cwSW 3 hts gL_law_L_ask rfl rfl rfl nVL_ask hR) rfl hsz rfl (Nat.le_of_ble_eq_true rfl) dL_law_549 ⟨by have := hR.1; omega, by have := hR.1; omega⟩ (fun H locs hP hD hS => ?_)
  refine W.widen (k := C + 5) (n := S + 28) (by omega) (by omega) ?_
  exact kk H locs hP hD hS
set_option maxHeartbeats 4000000 in
set_option maxRecDepth 100000 in
theorem sgL_law_557 {p : Program} {l : Launch} {e : Env} {R : Room} {s : State} {m : MethodId} {args : Array Value} {below : List Frame} {meth : Method} {c : Code} {H : Heap} {locs : List Loc} {Q : State → Prop} {ls : Array Slot} {D : va_G} {cy : Nat → ClassId} {b L : Nat} {xs : Nat → Int32} {WO : va_W} {q : Nat → Nat} {σ u : TS} {z : Int32 ⊕ Nat} {C S : Nat} (F : lG p l s m args c cL_law 2 wsL_law D cy b L xs) (hP : va_P D vwCl (gS 78 q (TX cy q) σ ++ WO) H) (hD : va_D (fun a => s.heap.size ≤ a) (gS 78 q (TX cy q) σ ++ WO)) (hS : va_S (fun a => s.heap.size ≤ a) s.heap H locs) (hsz : ls.size = 2) (l1 : ls[1]? = some (.val (.ref (q 0)))) (hp : sX8_mended ((3 : Int32)) σ = some (z, u)) (hz : okZ z) (hR : rmL_ask.frames + 1 ≤ R.frames ∧ 8 + (4 + 11) + rmL_ask.locals ≤ R.locals) (hC : C + 5 ≤ R.cells) (hSl : S + 28 ≤ R.slots) (kk : ∀ (H1 : Heap) (locs1 : List Loc), va_P D vwCl (gS 78 q (TX cy q) u ++ WO) H1 → va_D (fun a => s.heap.size ≤ a) (gS 78 q (TX cy q) u ++ WO) → va_S (fun a => s.heap.size ≤ a) s.heap H1 locs1 → W p l e R s m args below meth c H1 locs1 (C + 5) (S + 28) Q (F0 m 570 ls [.int (askR z)])) : W p l e R s m args below meth c H locs C S Q (F0 m 557 ls []) := by
  obtain ⟨hx, hb, hml, hown, hts, hK, hX, hNt, hlf, hN8, hXs, hbl⟩ := F
  refine lv_aload_n hx hb dL_law_557 rfl l1 ?_
  refine lv_bipush (v := (109 : Int32)) hx hb dL_law_558 (by decide) ?_
  refine lv_iconst (v := (1 : Int32)) hx hb dL_law_560 (by decide) ?_
  refine ar_new (N' := 1) hx hb (hts _ mwarL_law) hK hP hD hS (fun _ h => h) (by decide) rfl (Nat.le_of_ble_eq_true rfl) (by omega) (by omega) dL_law_561 (fun a H hP hD hS => ?_)
  refine lv_dup hx hb dL_law_563 rfl ?_
  refine lv_iconst (v := (0 : Int32)) hx hb dL_law_564 (by decide) ?_
  refine lv_iconst (v := (3 : Int32)) hx hb dL_law_565 (by decide) ?_
  refine ar_st (j := 0) hx hb hK hP hD hS (by decide) rfl dL_law_566 (fun H locs hP hD hS => ?_)
  refine ar_ask (As := [.ref (q 0), .int (109 : Int32), .ref a]) (rest := []) hx hb hml hown hts hK hX hNt hP hD hS (fun hJ ha => mL_ask_mended l hlf hJ ha hp hz) (vx_cwSW 3 hts gL_law_L_ask rfl rfl rfl nVL_ask hR) rfl hsz rfl (Nat.le_of_ble_eq_true rfl) dL_law_567 ⟨by have := hR.1; omega, by have := hR.1; omega⟩ (fun H locs hP hD hS => ?_)
  refine W.widen (k := C + 5) (n := S + 28) (by omega) (by omega) ?_
  exact kk H locs hP hD hS
set_option maxHeartbeats 4000000 in
set_option maxRecDepth 100000 in
theorem sgL_law_575 {p : Program} {l : Launch} {e : Env} {R : Room} {s : State} {m : MethodId} {args : Array Value} {below : List Frame} {meth : Method} {c : Code} {H : Heap} {locs : List Loc} {Q : State → Prop} {ls : Array Slot} {D : va_G} {cy : Nat → ClassId} {b L : Nat} {xs : Nat → Int32} {WO : va_W} {q : Nat → Nat} {σ u : TS} {z : Int32 ⊕ Nat} {C S : Nat} (F : lG p l s m args c cL_law 2 wsL_law D cy b L xs) (hP : va_P D vwCl (gS 78 q (TX cy q) σ ++ WO) H) (hD : va_D (fun a => s.heap.size ≤ a) (gS 78 q (TX cy q) σ ++ WO)) (hS : va_S (fun a => s.heap.size ≤ a) s.heap H locs) (hsz : ls.size = 2) (l1 : ls[1]? = some (.val (.ref (q 0)))) (hp : sX8_overruns ((3 : Int32)) σ = some (z, u)) (hz : okZ z) (hR : rmL_ask.frames + 1 ≤ R.frames ∧ 8 + (4 + 11) + rmL_ask.locals ≤ R.locals) (hC : C + 5 ≤ R.cells) (hSl : S + 28 ≤ R.slots) (kk : ∀ (H1 : Heap) (locs1 : List Loc), va_P D vwCl (gS 78 q (TX cy q) u ++ WO) H1 → va_D (fun a => s.heap.size ≤ a) (gS 78 q (TX cy q) u ++ WO) → va_S (fun a => s.heap.size ≤ a) s.heap H1 locs1 → W p l e R s m args below meth c H1 locs1 (C + 5) (S + 28) Q (F0 m 588 ls [.int (askR z)])) : W p l e R s m args below meth c H locs C S Q (F0 m 575 ls []) := by
  obtain ⟨hx, hb, hml, hown, hts, hK, hX, hNt, hlf, hN8, hXs, hbl⟩ := F
  refine lv_aload_n hx hb dL_law_575 rfl l1 ?_
  refine lv_bipush (v := (118 : Int32)) hx hb dL_law_576 (by decide) ?_
  refine lv_iconst (v := (1 : Int32)) hx hb dL_law_578 (by decide) ?_
  refine ar_new (N' := 1) hx hb (hts _ mwarL_law) hK hP hD hS (fun _ h => h) (by decide) rfl (Nat.le_of_ble_eq_true rfl) (by omega) (by omega) dL_law_579 (fun a H hP hD hS => ?_)
  refine lv_dup hx hb dL_law_581 rfl ?_
  refine lv_iconst (v := (0 : Int32)) hx hb dL_law_582 (by decide) ?_
  refine lv_iconst (v := (3 : Int32)) hx hb dL_law_583 (by decide) ?_
  refine ar_st (j := 0) hx hb hK hP hD hS (by decide) rfl dL_law_584 (fun H locs hP hD hS => ?_)
  refine ar_ask (As := [.ref (q 0), .int (118 : Int32), .ref a]) (rest := []) hx hb hml hown hts hK hX hNt hP hD hS (fun hJ ha => mL_ask_overruns l hlf hJ ha hp hz) (vx_cwSW 3 hts gL_law_L_ask rfl rfl rfl nVL_ask hR) rfl hsz rfl (Nat.le_of_ble_eq_true rfl) dL_law_585 ⟨by have := hR.1; omega, by have := hR.1; omega⟩ (fun H locs hP hD hS => ?_)
  refine W.widen (k := C + 5) (n := S + 28) (by omega) (by omega) ?_
  exact kk H locs hP hD hS
set_option maxHeartbeats 4000000 in
set_option maxRecDepth 100000 in
theorem sgL_law_593 {p : Program} {l : Launch} {e : Env} {R : Room} {s : State} {m : MethodId} {args : Array Value} {below : List Frame} {meth : Method} {c : Code} {H : Heap} {locs : List Loc} {Q : State → Prop} {ls : Array Slot} {D : va_G} {cy : Nat → ClassId} {b L : Nat} {xs : Nat → Int32} {WO : va_W} {q : Nat → Nat} {σ u : TS} {z : Int32 ⊕ Nat} {C S : Nat} (F : lG p l s m args c cL_law 2 wsL_law D cy b L xs) (hP : va_P D vwCl (gS 78 q (TX cy q) σ ++ WO) H) (hD : va_D (fun a => s.heap.size ≤ a) (gS 78 q (TX cy q) σ ++ WO)) (hS : va_S (fun a => s.heap.size ≤ a) s.heap H locs) (hsz : ls.size = 2) (l1 : ls[1]? = some (.val (.ref (q 0)))) (hp : sX8_read ((4 : Int32)) ((0 : Int32)) ((0 : Int32)) ((0 : Int32)) σ = some (z, u)) (hz : okZ z) (hR : rmL_ask.frames + 1 ≤ R.frames ∧ 8 + (4 + 11) + rmL_ask.locals ≤ R.locals) (hC : C + 5 ≤ R.cells) (hSl : S + 28 ≤ R.slots) (kk : ∀ (H1 : Heap) (locs1 : List Loc), va_P D vwCl (gS 78 q (TX cy q) u ++ WO) H1 → va_D (fun a => s.heap.size ≤ a) (gS 78 q (TX cy q) u ++ WO) → va_S (fun a => s.heap.size ≤ a) s.heap H1 locs1 → W p l e R s m args below meth c H1 locs1 (C + 5) (S + 28) Q (F0 m 618 ls [.int (askR z)])) : W p l e R s m args below meth c H locs C S Q (F0 m 593 ls []) := by
  obtain ⟨hx, hb, hml, hown, hts, hK, hX, hNt, hlf, hN8, hXs, hbl⟩ := F
  refine lv_aload_n hx hb dL_law_593 rfl l1 ?_
  refine lv_bipush (v := (114 : Int32)) hx hb dL_law_594 (by decide) ?_
  refine lv_iconst (v := (4 : Int32)) hx hb dL_law_596 (by decide) ?_
  refine ar_new (N' := 4) hx hb (hts _ mwarL_law) hK hP hD hS (fun _ h => h) (by decide) rfl (Nat.le_of_ble_eq_true rfl) (by omega) (by omega) dL_law_597 (fun a H hP hD hS => ?_)
  refine lv_dup hx hb dL_law_599 rfl ?_
  refine lv_iconst (v := (0 : Int32)) hx hb dL_law_600 (by decide) ?_
  refine lv_iconst (v := (4 : Int32)) hx hb dL_law_601 (by decide) ?_
  refine ar_st (j := 0) hx hb hK hP hD hS (by decide) rfl dL_law_602 (fun H locs hP hD hS => ?_)
  refine lv_dup hx hb dL_law_603 rfl ?_
  refine lv_iconst (v := (1 : Int32)) hx hb dL_law_604 (by decide) ?_
  refine lv_iconst (v := (0 : Int32)) hx hb dL_law_605 (by decide) ?_
  refine ar_st (j := 1) hx hb hK hP hD hS (by decide) rfl dL_law_606 (fun H locs hP hD hS => ?_)
  refine lv_dup hx hb dL_law_607 rfl ?_
  refine lv_iconst (v := (2 : Int32)) hx hb dL_law_608 (by decide) ?_
  refine lv_iconst (v := (0 : Int32)) hx hb dL_law_609 (by decide) ?_
  refine ar_st (j := 2) hx hb hK hP hD hS (by decide) rfl dL_law_610 (fun H locs hP hD hS => ?_)
  refine lv_dup hx hb dL_law_611 rfl ?_
  refine lv_iconst (v := (3 : Int32)) hx hb dL_law_612 (by decide) ?_
  refine lv_iconst (v := (0 : Int32)) hx hb dL_law_613 (by decide) ?_
  refine ar_st (j := 3) hx hb hK hP hD hS (by decide) rfl dL_law_614 (fun H locs hP hD hS => ?_)
  refine ar_ask (As := [.ref (q 0), .int (114 : Int32), .ref a]) (rest := []) hx hb hml hown hts hK hX hNt hP hD hS (fun hJ ha => mL_ask_read l hlf hJ ha hp hz) (vx_cwSW 3 hts gL_law_L_ask rfl rfl rfl nVL_ask hR) rfl hsz rfl (Nat.le_of_ble_eq_true rfl) dL_law_615 ⟨by have := hR.1; omega, by have := hR.1; omega⟩ (fun H locs hP hD hS => ?_)
  refine W.widen (k := C + 5) (n := S + 28) (by omega) (by omega) ?_
  exact kk H locs hP hD hS
set_option maxHeartbeats 4000000 in
set_option maxRecDepth 100000 in
theorem sgL_law_623 {p : Program} {l : Launch} {e : Env} {R : Room} {s : State} {m : MethodId} {args : Array Value} {below : List Frame} {meth : Method} {c : Code} {H : Heap} {locs : List Loc} {Q : State → Prop} {ls : Array Slot} {D : va_G} {cy : Nat → ClassId} {b L : Nat} {xs : Nat → Int32} {WO : va_W} {q : Nat → Nat} {σ u : TS} {z : Int32 ⊕ Nat} {C S : Nat} (F : lG p l s m args c cL_law 2 wsL_law D cy b L xs) (hP : va_P D vwCl (gS 78 q (TX cy q) σ ++ WO) H) (hD : va_D (fun a => s.heap.size ≤ a) (gS 78 q (TX cy q) σ ++ WO)) (hS : va_S (fun a => s.heap.size ≤ a) s.heap H locs) (hsz : ls.size = 2) (l1 : ls[1]? = some (.val (.ref (q 0)))) (hp : sX8_read ((0 : Int32)) ((0 : Int32)) ((0 : Int32)) ((40000 : Int32)) σ = some (z, u)) (hz : okZ z) (hR : rmL_ask.frames + 1 ≤ R.frames ∧ 8 + (4 + 11) + rmL_ask.locals ≤ R.locals) (hC : C + 5 ≤ R.cells) (hSl : S + 28 ≤ R.slots) (kk : ∀ (H1 : Heap) (locs1 : List Loc), va_P D vwCl (gS 78 q (TX cy q) u ++ WO) H1 → va_D (fun a => s.heap.size ≤ a) (gS 78 q (TX cy q) u ++ WO) → va_S (fun a => s.heap.size ≤ a) s.heap H1 locs1 → W p l e R s m args below meth c H1 locs1 (C + 5) (S + 28) Q (F0 m 649 ls [.int (askR z)])) : W p l e R s m args below meth c H locs C S Q (F0 m 623 ls []) := by
  obtain ⟨hx, hb, hml, hown, hts, hK, hX, hNt, hlf, hN8, hXs, hbl⟩ := F
  refine lv_aload_n hx hb dL_law_623 rfl l1 ?_
  refine lv_bipush (v := (114 : Int32)) hx hb dL_law_624 (by decide) ?_
  refine lv_iconst (v := (4 : Int32)) hx hb dL_law_626 (by decide) ?_
  refine ar_new (N' := 4) hx hb (hts _ mwarL_law) hK hP hD hS (fun _ h => h) (by decide) rfl (Nat.le_of_ble_eq_true rfl) (by omega) (by omega) dL_law_627 (fun a H hP hD hS => ?_)
  refine lv_dup hx hb dL_law_629 rfl ?_
  refine lv_iconst (v := (0 : Int32)) hx hb dL_law_630 (by decide) ?_
  refine lv_iconst (v := (0 : Int32)) hx hb dL_law_631 (by decide) ?_
  refine ar_st (j := 0) hx hb hK hP hD hS (by decide) rfl dL_law_632 (fun H locs hP hD hS => ?_)
  refine lv_dup hx hb dL_law_633 rfl ?_
  refine lv_iconst (v := (1 : Int32)) hx hb dL_law_634 (by decide) ?_
  refine lv_iconst (v := (0 : Int32)) hx hb dL_law_635 (by decide) ?_
  refine ar_st (j := 1) hx hb hK hP hD hS (by decide) rfl dL_law_636 (fun H locs hP hD hS => ?_)
  refine lv_dup hx hb dL_law_637 rfl ?_
  refine lv_iconst (v := (2 : Int32)) hx hb dL_law_638 (by decide) ?_
  refine lv_iconst (v := (0 : Int32)) hx hb dL_law_639 (by decide) ?_
  refine ar_st (j := 2) hx hb hK hP hD hS (by decide) rfl dL_law_640 (fun H locs hP hD hS => ?_)
  refine lv_dup hx hb dL_law_641 rfl ?_
  refine lv_iconst (v := (3 : Int32)) hx hb dL_law_642 (by decide) ?_
  refine lv_ldc (v := (40000 : Int32)) hx hb hown (hts _ mwcL_law_165) dL_law_643 ?_
  refine ar_st (j := 3) hx hb hK hP hD hS (by decide) rfl dL_law_645 (fun H locs hP hD hS => ?_)
  refine ar_ask (As := [.ref (q 0), .int (114 : Int32), .ref a]) (rest := []) hx hb hml hown hts hK hX hNt hP hD hS (fun hJ ha => mL_ask_read l hlf hJ ha hp hz) (vx_cwSW 3 hts gL_law_L_ask rfl rfl rfl nVL_ask hR) rfl hsz rfl (Nat.le_of_ble_eq_true rfl) dL_law_646 ⟨by have := hR.1; omega, by have := hR.1; omega⟩ (fun H locs hP hD hS => ?_)
  refine W.widen (k := C + 5) (n := S + 28) (by omega) (by omega) ?_
  exact kk H locs hP hD hS
set_option maxHeartbeats 4000000 in
set_option maxRecDepth 100000 in
theorem sgL_law_654 {p : Program} {l : Launch} {e : Env} {R : Room} {s : State} {m : MethodId} {args : Array Value} {below : List Frame} {meth : Method} {c : Code} {H : Heap} {locs : List Loc} {Q : State → Prop} {ls : Array Slot} {D : va_G} {cy : Nat → ClassId} {b L : Nat} {xs : Nat → Int32} {WO : va_W} {q : Nat → Nat} {σ u : TS} {z : Int32 ⊕ Nat} {C S : Nat} (F : lG p l s m args c cL_law 2 wsL_law D cy b L xs) (hP : va_P D vwCl (gS 78 q (TX cy q) σ ++ WO) H) (hD : va_D (fun a => s.heap.size ≤ a) (gS 78 q (TX cy q) σ ++ WO)) (hS : va_S (fun a => s.heap.size ≤ a) s.heap H locs) (hsz : ls.size = 2) (l1 : ls[1]? = some (.val (.ref (q 0)))) (hp : sX8_limit ((0 : Int32)) ((-1 : Int32)) σ = some (z, u)) (hz : okZ z) (hR : rmL_ask.frames + 1 ≤ R.frames ∧ 8 + (4 + 11) + rmL_ask.locals ≤ R.locals) (hC : C + 5 ≤ R.cells) (hSl : S + 28 ≤ R.slots) (kk : ∀ (H1 : Heap) (locs1 : List Loc), va_P D vwCl (gS 78 q (TX cy q) u ++ WO) H1 → va_D (fun a => s.heap.size ≤ a) (gS 78 q (TX cy q) u ++ WO) → va_S (fun a => s.heap.size ≤ a) s.heap H1 locs1 → W p l e R s m args below meth c H1 locs1 (C + 5) (S + 28) Q (F0 m 671 ls [.int (askR z)])) : W p l e R s m args below meth c H locs C S Q (F0 m 654 ls []) := by
  obtain ⟨hx, hb, hml, hown, hts, hK, hX, hNt, hlf, hN8, hXs, hbl⟩ := F
  refine lv_aload_n hx hb dL_law_654 rfl l1 ?_
  refine lv_bipush (v := (108 : Int32)) hx hb dL_law_655 (by decide) ?_
  refine lv_iconst (v := (2 : Int32)) hx hb dL_law_657 (by decide) ?_
  refine ar_new (N' := 2) hx hb (hts _ mwarL_law) hK hP hD hS (fun _ h => h) (by decide) rfl (Nat.le_of_ble_eq_true rfl) (by omega) (by omega) dL_law_658 (fun a H hP hD hS => ?_)
  refine lv_dup hx hb dL_law_660 rfl ?_
  refine lv_iconst (v := (0 : Int32)) hx hb dL_law_661 (by decide) ?_
  refine lv_iconst (v := (0 : Int32)) hx hb dL_law_662 (by decide) ?_
  refine ar_st (j := 0) hx hb hK hP hD hS (by decide) rfl dL_law_663 (fun H locs hP hD hS => ?_)
  refine lv_dup hx hb dL_law_664 rfl ?_
  refine lv_iconst (v := (1 : Int32)) hx hb dL_law_665 (by decide) ?_
  refine lv_iconst (v := (-1 : Int32)) hx hb dL_law_666 (by decide) ?_
  refine ar_st (j := 1) hx hb hK hP hD hS (by decide) rfl dL_law_667 (fun H locs hP hD hS => ?_)
  refine ar_ask (As := [.ref (q 0), .int (108 : Int32), .ref a]) (rest := []) hx hb hml hown hts hK hX hNt hP hD hS (fun hJ ha => mL_ask_limit l hlf hJ ha hp hz) (vx_cwSW 3 hts gL_law_L_ask rfl rfl rfl nVL_ask hR) rfl hsz rfl (Nat.le_of_ble_eq_true rfl) dL_law_668 ⟨by have := hR.1; omega, by have := hR.1; omega⟩ (fun H locs hP hD hS => ?_)
  refine W.widen (k := C + 5) (n := S + 28) (by omega) (by omega) ?_
  exact kk H locs hP hD hS
set_option maxHeartbeats 4000000 in
set_option maxRecDepth 100000 in
theorem sgL_law_676 {p : Program} {l : Launch} {e : Env} {R : Room} {s : State} {m : MethodId} {args : Array Value} {below : List Frame} {meth : Method} {c : Code} {H : Heap} {locs : List Loc} {Q : State → Prop} {ls : Array Slot} {D : va_G} {cy : Nat → ClassId} {b L : Nat} {xs : Nat → Int32} {WO : va_W} {q : Nat → Nat} {σ u : TS} {z : Int32 ⊕ Nat} {C S : Nat} (F : lG p l s m args c cL_law 2 wsL_law D cy b L xs) (hP : va_P D vwCl (gS 78 q (TX cy q) σ ++ WO) H) (hD : va_D (fun a => s.heap.size ≤ a) (gS 78 q (TX cy q) σ ++ WO)) (hS : va_S (fun a => s.heap.size ≤ a) s.heap H locs) (hsz : ls.size = 2) (l1 : ls[1]? = some (.val (.ref (q 0)))) (hp : sX8_agreed ((4 : Int32)) σ = some (z, u)) (hz : okZ z) (hR : rmL_ask.frames + 1 ≤ R.frames ∧ 8 + (4 + 11) + rmL_ask.locals ≤ R.locals) (hC : C + 5 ≤ R.cells) (hSl : S + 28 ≤ R.slots) (kk : ∀ (H1 : Heap) (locs1 : List Loc), va_P D vwCl (gS 78 q (TX cy q) u ++ WO) H1 → va_D (fun a => s.heap.size ≤ a) (gS 78 q (TX cy q) u ++ WO) → va_S (fun a => s.heap.size ≤ a) s.heap H1 locs1 → W p l e R s m args below meth c H1 locs1 (C + 5) (S + 28) Q (F0 m 689 ls [.int (askR z)])) : W p l e R s m args below meth c H locs C S Q (F0 m 676 ls []) := by
  obtain ⟨hx, hb, hml, hown, hts, hK, hX, hNt, hlf, hN8, hXs, hbl⟩ := F
  refine lv_aload_n hx hb dL_law_676 rfl l1 ?_
  refine lv_bipush (v := (97 : Int32)) hx hb dL_law_677 (by decide) ?_
  refine lv_iconst (v := (1 : Int32)) hx hb dL_law_679 (by decide) ?_
  refine ar_new (N' := 1) hx hb (hts _ mwarL_law) hK hP hD hS (fun _ h => h) (by decide) rfl (Nat.le_of_ble_eq_true rfl) (by omega) (by omega) dL_law_680 (fun a H hP hD hS => ?_)
  refine lv_dup hx hb dL_law_682 rfl ?_
  refine lv_iconst (v := (0 : Int32)) hx hb dL_law_683 (by decide) ?_
  refine lv_iconst (v := (4 : Int32)) hx hb dL_law_684 (by decide) ?_
  refine ar_st (j := 0) hx hb hK hP hD hS (by decide) rfl dL_law_685 (fun H locs hP hD hS => ?_)
  refine ar_ask (As := [.ref (q 0), .int (97 : Int32), .ref a]) (rest := []) hx hb hml hown hts hK hX hNt hP hD hS (fun hJ ha => mL_ask_agreed l hlf hJ ha hp hz) (vx_cwSW 3 hts gL_law_L_ask rfl rfl rfl nVL_ask hR) rfl hsz rfl (Nat.le_of_ble_eq_true rfl) dL_law_686 ⟨by have := hR.1; omega, by have := hR.1; omega⟩ (fun H locs hP hD hS => ?_)
  refine W.widen (k := C + 5) (n := S + 28) (by omega) (by omega) ?_
  exact kk H locs hP hD hS
set_option maxHeartbeats 4000000 in
set_option maxRecDepth 100000 in
theorem sgL_law_694 {p : Program} {l : Launch} {e : Env} {R : Room} {s : State} {m : MethodId} {args : Array Value} {below : List Frame} {meth : Method} {c : Code} {H : Heap} {locs : List Loc} {Q : State → Prop} {ls : Array Slot} {D : va_G} {cy : Nat → ClassId} {b L : Nat} {xs : Nat → Int32} {WO : va_W} {q : Nat → Nat} {σ u : TS} {z : Int32 ⊕ Nat} {C S : Nat} (F : lG p l s m args c cL_law 2 wsL_law D cy b L xs) (hP : va_P D vwCl (gS 78 q (TX cy q) σ ++ WO) H) (hD : va_D (fun a => s.heap.size ≤ a) (gS 78 q (TX cy q) σ ++ WO)) (hS : va_S (fun a => s.heap.size ≤ a) s.heap H locs) (hsz : ls.size = 2) (l1 : ls[1]? = some (.val (.ref (q 0)))) (hp : sX8_lie ((0 : Int32)) ((0 : Int32)) ((0 : Int32)) σ = some (z, u)) (hz : okZ z) (hR : rmL_ask.frames + 1 ≤ R.frames ∧ 8 + (4 + 11) + rmL_ask.locals ≤ R.locals) (hC : C + 5 ≤ R.cells) (hSl : S + 28 ≤ R.slots) (kk : ∀ (H1 : Heap) (locs1 : List Loc), va_P D vwCl (gS 78 q (TX cy q) u ++ WO) H1 → va_D (fun a => s.heap.size ≤ a) (gS 78 q (TX cy q) u ++ WO) → va_S (fun a => s.heap.size ≤ a) s.heap H1 locs1 → W p l e R s m args below meth c H1 locs1 (C + 5) (S + 28) Q (F0 m 715 ls [.int (askR z)])) : W p l e R s m args below meth c H locs C S Q (F0 m 694 ls []) := by
  obtain ⟨hx, hb, hml, hown, hts, hK, hX, hNt, hlf, hN8, hXs, hbl⟩ := F
  refine lv_aload_n hx hb dL_law_694 rfl l1 ?_
  refine lv_bipush (v := (105 : Int32)) hx hb dL_law_695 (by decide) ?_
  refine lv_iconst (v := (3 : Int32)) hx hb dL_law_697 (by decide) ?_
  refine ar_new (N' := 3) hx hb (hts _ mwarL_law) hK hP hD hS (fun _ h => h) (by decide) rfl (Nat.le_of_ble_eq_true rfl) (by omega) (by omega) dL_law_698 (fun a H hP hD hS => ?_)
  refine lv_dup hx hb dL_law_700 rfl ?_
  refine lv_iconst (v := (0 : Int32)) hx hb dL_law_701 (by decide) ?_
  refine lv_iconst (v := (0 : Int32)) hx hb dL_law_702 (by decide) ?_
  refine ar_st (j := 0) hx hb hK hP hD hS (by decide) rfl dL_law_703 (fun H locs hP hD hS => ?_)
  refine lv_dup hx hb dL_law_704 rfl ?_
  refine lv_iconst (v := (1 : Int32)) hx hb dL_law_705 (by decide) ?_
  refine lv_iconst (v := (0 : Int32)) hx hb dL_law_706 (by decide) ?_
  refine ar_st (j := 1) hx hb hK hP hD hS (by decide) rfl dL_law_707 (fun H locs hP hD hS => ?_)
  refine lv_dup hx hb dL_law_708 rfl ?_
  refine lv_iconst (v := (2 : Int32)) hx hb dL_law_709 (by decide) ?_
  refine lv_iconst (v := (0 : Int32)) hx hb dL_law_710 (by decide) ?_
  refine ar_st (j := 2) hx hb hK hP hD hS (by decide) rfl dL_law_711 (fun H locs hP hD hS => ?_)
  refine ar_ask (As := [.ref (q 0), .int (105 : Int32), .ref a]) (rest := []) hx hb hml hown hts hK hX hNt hP hD hS (fun hJ ha => mL_ask_lie l hlf hJ ha hp hz) (vx_cwSW 3 hts gL_law_L_ask rfl rfl rfl nVL_ask hR) rfl hsz rfl (Nat.le_of_ble_eq_true rfl) dL_law_712 ⟨by have := hR.1; omega, by have := hR.1; omega⟩ (fun H locs hP hD hS => ?_)
  refine W.widen (k := C + 5) (n := S + 28) (by omega) (by omega) ?_
  exact kk H locs hP hD hS
set_option maxHeartbeats 4000000 in
set_option maxRecDepth 100000 in
theorem sgL_law_720 {p : Program} {l : Launch} {e : Env} {R : Room} {s : State} {m : MethodId} {args : Array Value} {below : List Frame} {meth : Method} {c : Code} {H : Heap} {locs : List Loc} {Q : State → Prop} {ls : Array Slot} {D : va_G} {cy : Nat → ClassId} {b L : Nat} {xs : Nat → Int32} {WO : va_W} {q : Nat → Nat} {σ u : TS} {z : Int32 ⊕ Nat} {C S : Nat} (F : lG p l s m args c cL_law 2 wsL_law D cy b L xs) (hP : va_P D vwCl (gS 78 q (TX cy q) σ ++ WO) H) (hD : va_D (fun a => s.heap.size ≤ a) (gS 78 q (TX cy q) σ ++ WO)) (hS : va_S (fun a => s.heap.size ≤ a) s.heap H locs) (hsz : ls.size = 2) (l1 : ls[1]? = some (.val (.ref (q 0)))) (hp : sX8_lie ((0 : Int32)) ((3 : Int32)) ((0 : Int32)) σ = some (z, u)) (hz : okZ z) (hR : rmL_ask.frames + 1 ≤ R.frames ∧ 8 + (4 + 11) + rmL_ask.locals ≤ R.locals) (hC : C + 5 ≤ R.cells) (hSl : S + 28 ≤ R.slots) (kk : ∀ (H1 : Heap) (locs1 : List Loc), va_P D vwCl (gS 78 q (TX cy q) u ++ WO) H1 → va_D (fun a => s.heap.size ≤ a) (gS 78 q (TX cy q) u ++ WO) → va_S (fun a => s.heap.size ≤ a) s.heap H1 locs1 → W p l e R s m args below meth c H1 locs1 (C + 5) (S + 28) Q (F0 m 741 ls [.int (askR z)])) : W p l e R s m args below meth c H locs C S Q (F0 m 720 ls []) := by
  obtain ⟨hx, hb, hml, hown, hts, hK, hX, hNt, hlf, hN8, hXs, hbl⟩ := F
  refine lv_aload_n hx hb dL_law_720 rfl l1 ?_
  refine lv_bipush (v := (105 : Int32)) hx hb dL_law_721 (by decide) ?_
  refine lv_iconst (v := (3 : Int32)) hx hb dL_law_723 (by decide) ?_
  refine ar_new (N' := 3) hx hb (hts _ mwarL_law) hK hP hD hS (fun _ h => h) (by decide) rfl (Nat.le_of_ble_eq_true rfl) (by omega) (by omega) dL_law_724 (fun a H hP hD hS => ?_)
  refine lv_dup hx hb dL_law_726 rfl ?_
  refine lv_iconst (v := (0 : Int32)) hx hb dL_law_727 (by decide) ?_
  refine lv_iconst (v := (0 : Int32)) hx hb dL_law_728 (by decide) ?_
  refine ar_st (j := 0) hx hb hK hP hD hS (by decide) rfl dL_law_729 (fun H locs hP hD hS => ?_)
  refine lv_dup hx hb dL_law_730 rfl ?_
  refine lv_iconst (v := (1 : Int32)) hx hb dL_law_731 (by decide) ?_
  refine lv_iconst (v := (3 : Int32)) hx hb dL_law_732 (by decide) ?_
  refine ar_st (j := 1) hx hb hK hP hD hS (by decide) rfl dL_law_733 (fun H locs hP hD hS => ?_)
  refine lv_dup hx hb dL_law_734 rfl ?_
  refine lv_iconst (v := (2 : Int32)) hx hb dL_law_735 (by decide) ?_
  refine lv_iconst (v := (0 : Int32)) hx hb dL_law_736 (by decide) ?_
  refine ar_st (j := 2) hx hb hK hP hD hS (by decide) rfl dL_law_737 (fun H locs hP hD hS => ?_)
  refine ar_ask (As := [.ref (q 0), .int (105 : Int32), .ref a]) (rest := []) hx hb hml hown hts hK hX hNt hP hD hS (fun hJ ha => mL_ask_lie l hlf hJ ha hp hz) (vx_cwSW 3 hts gL_law_L_ask rfl rfl rfl nVL_ask hR) rfl hsz rfl (Nat.le_of_ble_eq_true rfl) dL_law_738 ⟨by have := hR.1; omega, by have := hR.1; omega⟩ (fun H locs hP hD hS => ?_)
  refine W.widen (k := C + 5) (n := S + 28) (by omega) (by omega) ?_
  exact kk H locs hP hD hS
set_option maxHeartbeats 4000000 in
set_option maxRecDepth 100000 in
theorem sgL_law_746 {p : Program} {l : Launch} {e : Env} {R : Room} {s : State} {m : MethodId} {args : Array Value} {below : List Frame} {meth : Method} {c : Code} {H : Heap} {locs : List Loc} {Q : State → Prop} {ls : Array Slot} {D : va_G} {cy : Nat → ClassId} {b L : Nat} {xs : Nat → Int32} {WO : va_W} {q : Nat → Nat} {σ u : TS} {z : Int32 ⊕ Nat} {C S : Nat} (F : lG p l s m args c cL_law 2 wsL_law D cy b L xs) (hP : va_P D vwCl (gS 78 q (TX cy q) σ ++ WO) H) (hD : va_D (fun a => s.heap.size ≤ a) (gS 78 q (TX cy q) σ ++ WO)) (hS : va_S (fun a => s.heap.size ≤ a) s.heap H locs) (hsz : ls.size = 2) (l1 : ls[1]? = some (.val (.ref (q 0)))) (hp : sX8_clock ((3 : Int32)) σ = some (z, u)) (hz : okZ z) (hR : rmL_ask.frames + 1 ≤ R.frames ∧ 8 + (4 + 11) + rmL_ask.locals ≤ R.locals) (hC : C + 5 ≤ R.cells) (hSl : S + 28 ≤ R.slots) (kk : ∀ (H1 : Heap) (locs1 : List Loc), va_P D vwCl (gS 78 q (TX cy q) u ++ WO) H1 → va_D (fun a => s.heap.size ≤ a) (gS 78 q (TX cy q) u ++ WO) → va_S (fun a => s.heap.size ≤ a) s.heap H1 locs1 → W p l e R s m args below meth c H1 locs1 (C + 5) (S + 28) Q (F0 m 759 ls [.int (askR z)])) : W p l e R s m args below meth c H locs C S Q (F0 m 746 ls []) := by
  obtain ⟨hx, hb, hml, hown, hts, hK, hX, hNt, hlf, hN8, hXs, hbl⟩ := F
  refine lv_aload_n hx hb dL_law_746 rfl l1 ?_
  refine lv_bipush (v := (75 : Int32)) hx hb dL_law_747 (by decide) ?_
  refine lv_iconst (v := (1 : Int32)) hx hb dL_law_749 (by decide) ?_
  refine ar_new (N' := 1) hx hb (hts _ mwarL_law) hK hP hD hS (fun _ h => h) (by decide) rfl (Nat.le_of_ble_eq_true rfl) (by omega) (by omega) dL_law_750 (fun a H hP hD hS => ?_)
  refine lv_dup hx hb dL_law_752 rfl ?_
  refine lv_iconst (v := (0 : Int32)) hx hb dL_law_753 (by decide) ?_
  refine lv_iconst (v := (3 : Int32)) hx hb dL_law_754 (by decide) ?_
  refine ar_st (j := 0) hx hb hK hP hD hS (by decide) rfl dL_law_755 (fun H locs hP hD hS => ?_)
  refine ar_ask (As := [.ref (q 0), .int (75 : Int32), .ref a]) (rest := []) hx hb hml hown hts hK hX hNt hP hD hS (fun hJ ha => mL_ask_clock l hlf hJ ha hp hz) (vx_cwSW 3 hts gL_law_L_ask rfl rfl rfl nVL_ask hR) rfl hsz rfl (Nat.le_of_ble_eq_true rfl) dL_law_756 ⟨by have := hR.1; omega, by have := hR.1; omega⟩ (fun H locs hP hD hS => ?_)
  refine W.widen (k := C + 5) (n := S + 28) (by omega) (by omega) ?_
  exact kk H locs hP hD hS
set_option maxHeartbeats 4000000 in
set_option maxRecDepth 100000 in
theorem sgL_law_764 {p : Program} {l : Launch} {e : Env} {R : Room} {s : State} {m : MethodId} {args : Array Value} {below : List Frame} {meth : Method} {c : Code} {H : Heap} {locs : List Loc} {Q : State → Prop} {ls : Array Slot} {D : va_G} {cy : Nat → ClassId} {b L : Nat} {xs : Nat → Int32} {WO : va_W} {q : Nat → Nat} {σ u : TS} {z : Int32 ⊕ Nat} {C S : Nat} (F : lG p l s m args c cL_law 2 wsL_law D cy b L xs) (hP : va_P D vwCl (gS 78 q (TX cy q) σ ++ WO) H) (hD : va_D (fun a => s.heap.size ≤ a) (gS 78 q (TX cy q) σ ++ WO)) (hS : va_S (fun a => s.heap.size ≤ a) s.heap H locs) (hsz : ls.size = 2) (l1 : ls[1]? = some (.val (.ref (q 0)))) (hp : sX8_save ((3 : Int32)) (if ((0 : Int32)) = 1 then 1 else 0) σ = some (z, u)) (hz : okZ z) (hR : rmL_ask.frames + 1 ≤ R.frames ∧ 8 + (4 + 11) + rmL_ask.locals ≤ R.locals) (hC : C + 5 ≤ R.cells) (hSl : S + 28 ≤ R.slots) (kk : ∀ (H1 : Heap) (locs1 : List Loc), va_P D vwCl (gS 78 q (TX cy q) u ++ WO) H1 → va_D (fun a => s.heap.size ≤ a) (gS 78 q (TX cy q) u ++ WO) → va_S (fun a => s.heap.size ≤ a) s.heap H1 locs1 → W p l e R s m args below meth c H1 locs1 (C + 5) (S + 28) Q (F0 m 781 ls [.int (askR z)])) : W p l e R s m args below meth c H locs C S Q (F0 m 764 ls []) := by
  obtain ⟨hx, hb, hml, hown, hts, hK, hX, hNt, hlf, hN8, hXs, hbl⟩ := F
  refine lv_aload_n hx hb dL_law_764 rfl l1 ?_
  refine lv_bipush (v := (86 : Int32)) hx hb dL_law_765 (by decide) ?_
  refine lv_iconst (v := (2 : Int32)) hx hb dL_law_767 (by decide) ?_
  refine ar_new (N' := 2) hx hb (hts _ mwarL_law) hK hP hD hS (fun _ h => h) (by decide) rfl (Nat.le_of_ble_eq_true rfl) (by omega) (by omega) dL_law_768 (fun a H hP hD hS => ?_)
  refine lv_dup hx hb dL_law_770 rfl ?_
  refine lv_iconst (v := (0 : Int32)) hx hb dL_law_771 (by decide) ?_
  refine lv_iconst (v := (3 : Int32)) hx hb dL_law_772 (by decide) ?_
  refine ar_st (j := 0) hx hb hK hP hD hS (by decide) rfl dL_law_773 (fun H locs hP hD hS => ?_)
  refine lv_dup hx hb dL_law_774 rfl ?_
  refine lv_iconst (v := (1 : Int32)) hx hb dL_law_775 (by decide) ?_
  refine lv_iconst (v := (0 : Int32)) hx hb dL_law_776 (by decide) ?_
  refine ar_st (j := 1) hx hb hK hP hD hS (by decide) rfl dL_law_777 (fun H locs hP hD hS => ?_)
  refine ar_ask (As := [.ref (q 0), .int (86 : Int32), .ref a]) (rest := []) hx hb hml hown hts hK hX hNt hP hD hS (fun hJ ha => mL_ask_save l hlf hJ ha hp hz) (vx_cwSW 3 hts gL_law_L_ask rfl rfl rfl nVL_ask hR) rfl hsz rfl (Nat.le_of_ble_eq_true rfl) dL_law_778 ⟨by have := hR.1; omega, by have := hR.1; omega⟩ (fun H locs hP hD hS => ?_)
  refine W.widen (k := C + 5) (n := S + 28) (by omega) (by omega) ?_
  exact kk H locs hP hD hS
set_option maxHeartbeats 4000000 in
set_option maxRecDepth 100000 in
theorem sgL_law_786 {p : Program} {l : Launch} {e : Env} {R : Room} {s : State} {m : MethodId} {args : Array Value} {below : List Frame} {meth : Method} {c : Code} {H : Heap} {locs : List Loc} {Q : State → Prop} {ls : Array Slot} {D : va_G} {cy : Nat → ClassId} {b L : Nat} {xs : Nat → Int32} {WO : va_W} {q : Nat → Nat} {σ u : TS} {z : Int32 ⊕ Nat} {C S : Nat} (F : lG p l s m args c cL_law 2 wsL_law D cy b L xs) (hP : va_P D vwCl (gS 78 q (TX cy q) σ ++ WO) H) (hD : va_D (fun a => s.heap.size ≤ a) (gS 78 q (TX cy q) σ ++ WO)) (hS : va_S (fun a => s.heap.size ≤ a) s.heap H locs) (hsz : ls.size = 2) (l1 : ls[1]? = some (.val (.ref (q 0)))) (hp : sX8_load ((0 : Int32)) σ = some (z, u)) (hz : okZ z) (hR : rmL_ask.frames + 1 ≤ R.frames ∧ 8 + (4 + 11) + rmL_ask.locals ≤ R.locals) (hC : C + 5 ≤ R.cells) (hSl : S + 28 ≤ R.slots) (kk : ∀ (H1 : Heap) (locs1 : List Loc), va_P D vwCl (gS 78 q (TX cy q) u ++ WO) H1 → va_D (fun a => s.heap.size ≤ a) (gS 78 q (TX cy q) u ++ WO) → va_S (fun a => s.heap.size ≤ a) s.heap H1 locs1 → W p l e R s m args below meth c H1 locs1 (C + 5) (S + 28) Q (F0 m 799 ls [.int (askR z)])) : W p l e R s m args below meth c H locs C S Q (F0 m 786 ls []) := by
  obtain ⟨hx, hb, hml, hown, hts, hK, hX, hNt, hlf, hN8, hXs, hbl⟩ := F
  refine lv_aload_n hx hb dL_law_786 rfl l1 ?_
  refine lv_bipush (v := (76 : Int32)) hx hb dL_law_787 (by decide) ?_
  refine lv_iconst (v := (1 : Int32)) hx hb dL_law_789 (by decide) ?_
  refine ar_new (N' := 1) hx hb (hts _ mwarL_law) hK hP hD hS (fun _ h => h) (by decide) rfl (Nat.le_of_ble_eq_true rfl) (by omega) (by omega) dL_law_790 (fun a H hP hD hS => ?_)
  refine lv_dup hx hb dL_law_792 rfl ?_
  refine lv_iconst (v := (0 : Int32)) hx hb dL_law_793 (by decide) ?_
  refine lv_iconst (v := (0 : Int32)) hx hb dL_law_794 (by decide) ?_
  refine ar_st (j := 0) hx hb hK hP hD hS (by decide) rfl dL_law_795 (fun H locs hP hD hS => ?_)
  refine ar_ask (As := [.ref (q 0), .int (76 : Int32), .ref a]) (rest := []) hx hb hml hown hts hK hX hNt hP hD hS (fun hJ ha => mL_ask_load l hlf hJ ha hp hz) (vx_cwSW 3 hts gL_law_L_ask rfl rfl rfl nVL_ask hR) rfl hsz rfl (Nat.le_of_ble_eq_true rfl) dL_law_796 ⟨by have := hR.1; omega, by have := hR.1; omega⟩ (fun H locs hP hD hS => ?_)
  refine W.widen (k := C + 5) (n := S + 28) (by omega) (by omega) ?_
  exact kk H locs hP hD hS
set_option maxHeartbeats 4000000 in
set_option maxRecDepth 100000 in
theorem sgL_law_804 {p : Program} {l : Launch} {e : Env} {R : Room} {s : State} {m : MethodId} {args : Array Value} {below : List Frame} {meth : Method} {c : Code} {H : Heap} {locs : List Loc} {Q : State → Prop} {ls : Array Slot} {D : va_G} {cy : Nat → ClassId} {b L : Nat} {xs : Nat → Int32} {WO : va_W} {q : Nat → Nat} {σ u : TS} {z : Int32 ⊕ Nat} {C S : Nat} (F : lG p l s m args c cL_law 2 wsL_law D cy b L xs) (hP : va_P D vwCl (gS 78 q (TX cy q) σ ++ WO) H) (hD : va_D (fun a => s.heap.size ≤ a) (gS 78 q (TX cy q) σ ++ WO)) (hS : va_S (fun a => s.heap.size ≤ a) s.heap H locs) (hsz : ls.size = 2) (l1 : ls[1]? = some (.val (.ref (q 0)))) (hp : sX8_fault ((0 : Int32)) ((3 : Int32)) ((0 : Int32)) σ = some (z, u)) (hz : okZ z) (hR : rmL_ask.frames + 1 ≤ R.frames ∧ 8 + (4 + 11) + rmL_ask.locals ≤ R.locals) (hC : C + 5 ≤ R.cells) (hSl : S + 28 ≤ R.slots) (kk : ∀ (H1 : Heap) (locs1 : List Loc), va_P D vwCl (gS 78 q (TX cy q) u ++ WO) H1 → va_D (fun a => s.heap.size ≤ a) (gS 78 q (TX cy q) u ++ WO) → va_S (fun a => s.heap.size ≤ a) s.heap H1 locs1 → W p l e R s m args below meth c H1 locs1 (C + 5) (S + 28) Q (F0 m 825 ls [.int (askR z)])) : W p l e R s m args below meth c H locs C S Q (F0 m 804 ls []) := by
  obtain ⟨hx, hb, hml, hown, hts, hK, hX, hNt, hlf, hN8, hXs, hbl⟩ := F
  refine lv_aload_n hx hb dL_law_804 rfl l1 ?_
  refine lv_bipush (v := (70 : Int32)) hx hb dL_law_805 (by decide) ?_
  refine lv_iconst (v := (3 : Int32)) hx hb dL_law_807 (by decide) ?_
  refine ar_new (N' := 3) hx hb (hts _ mwarL_law) hK hP hD hS (fun _ h => h) (by decide) rfl (Nat.le_of_ble_eq_true rfl) (by omega) (by omega) dL_law_808 (fun a H hP hD hS => ?_)
  refine lv_dup hx hb dL_law_810 rfl ?_
  refine lv_iconst (v := (0 : Int32)) hx hb dL_law_811 (by decide) ?_
  refine lv_iconst (v := (0 : Int32)) hx hb dL_law_812 (by decide) ?_
  refine ar_st (j := 0) hx hb hK hP hD hS (by decide) rfl dL_law_813 (fun H locs hP hD hS => ?_)
  refine lv_dup hx hb dL_law_814 rfl ?_
  refine lv_iconst (v := (1 : Int32)) hx hb dL_law_815 (by decide) ?_
  refine lv_iconst (v := (3 : Int32)) hx hb dL_law_816 (by decide) ?_
  refine ar_st (j := 1) hx hb hK hP hD hS (by decide) rfl dL_law_817 (fun H locs hP hD hS => ?_)
  refine lv_dup hx hb dL_law_818 rfl ?_
  refine lv_iconst (v := (2 : Int32)) hx hb dL_law_819 (by decide) ?_
  refine lv_iconst (v := (0 : Int32)) hx hb dL_law_820 (by decide) ?_
  refine ar_st (j := 2) hx hb hK hP hD hS (by decide) rfl dL_law_821 (fun H locs hP hD hS => ?_)
  refine ar_ask (As := [.ref (q 0), .int (70 : Int32), .ref a]) (rest := []) hx hb hml hown hts hK hX hNt hP hD hS (fun hJ ha => mL_ask_fault l hlf hJ ha hp hz) (vx_cwSW 3 hts gL_law_L_ask rfl rfl rfl nVL_ask hR) rfl hsz rfl (Nat.le_of_ble_eq_true rfl) dL_law_822 ⟨by have := hR.1; omega, by have := hR.1; omega⟩ (fun H locs hP hD hS => ?_)
  refine W.widen (k := C + 5) (n := S + 28) (by omega) (by omega) ?_
  exact kk H locs hP hD hS
set_option maxHeartbeats 4000000 in
set_option maxRecDepth 100000 in
theorem sgL_law_830 {p : Program} {l : Launch} {e : Env} {R : Room} {s : State} {m : MethodId} {args : Array Value} {below : List Frame} {meth : Method} {c : Code} {H : Heap} {locs : List Loc} {Q : State → Prop} {ls : Array Slot} {D : va_G} {cy : Nat → ClassId} {b L : Nat} {xs : Nat → Int32} {WO : va_W} {q : Nat → Nat} {σ u : TS} {z : Int32 ⊕ Nat} {C S : Nat} (F : lG p l s m args c cL_law 2 wsL_law D cy b L xs) (hP : va_P D vwCl (gS 78 q (TX cy q) σ ++ WO) H) (hD : va_D (fun a => s.heap.size ≤ a) (gS 78 q (TX cy q) σ ++ WO)) (hS : va_S (fun a => s.heap.size ≤ a) s.heap H locs) (hsz : ls.size = 2) (l1 : ls[1]? = some (.val (.ref (q 0)))) (hp : sX8_position ((4 : Int32)) σ = some (z, u)) (hz : okZ z) (hR : rmL_ask.frames + 1 ≤ R.frames ∧ 8 + (4 + 11) + rmL_ask.locals ≤ R.locals) (hC : C + 5 ≤ R.cells) (hSl : S + 28 ≤ R.slots) (kk : ∀ (H1 : Heap) (locs1 : List Loc), va_P D vwCl (gS 78 q (TX cy q) u ++ WO) H1 → va_D (fun a => s.heap.size ≤ a) (gS 78 q (TX cy q) u ++ WO) → va_S (fun a => s.heap.size ≤ a) s.heap H1 locs1 → W p l e R s m args below meth c H1 locs1 (C + 5) (S + 28) Q (F0 m 843 ls [.int (askR z)])) : W p l e R s m args below meth c H locs C S Q (F0 m 830 ls []) := by
  obtain ⟨hx, hb, hml, hown, hts, hK, hX, hNt, hlf, hN8, hXs, hbl⟩ := F
  refine lv_aload_n hx hb dL_law_830 rfl l1 ?_
  refine lv_bipush (v := (80 : Int32)) hx hb dL_law_831 (by decide) ?_
  refine lv_iconst (v := (1 : Int32)) hx hb dL_law_833 (by decide) ?_
  refine ar_new (N' := 1) hx hb (hts _ mwarL_law) hK hP hD hS (fun _ h => h) (by decide) rfl (Nat.le_of_ble_eq_true rfl) (by omega) (by omega) dL_law_834 (fun a H hP hD hS => ?_)
  refine lv_dup hx hb dL_law_836 rfl ?_
  refine lv_iconst (v := (0 : Int32)) hx hb dL_law_837 (by decide) ?_
  refine lv_iconst (v := (4 : Int32)) hx hb dL_law_838 (by decide) ?_
  refine ar_st (j := 0) hx hb hK hP hD hS (by decide) rfl dL_law_839 (fun H locs hP hD hS => ?_)
  refine ar_ask (As := [.ref (q 0), .int (80 : Int32), .ref a]) (rest := []) hx hb hml hown hts hK hX hNt hP hD hS (fun hJ ha => mL_ask_position l hlf hJ ha hp hz) (vx_cwSW 3 hts gL_law_L_ask rfl rfl rfl nVL_ask hR) rfl hsz rfl (Nat.le_of_ble_eq_true rfl) dL_law_840 ⟨by have := hR.1; omega, by have := hR.1; omega⟩ (fun H locs hP hD hS => ?_)
  refine W.widen (k := C + 5) (n := S + 28) (by omega) (by omega) ?_
  exact kk H locs hP hD hS
set_option maxHeartbeats 4000000 in
set_option maxRecDepth 100000 in
theorem sgL_law_848 {p : Program} {l : Launch} {e : Env} {R : Room} {s : State} {m : MethodId} {args : Array Value} {below : List Frame} {meth : Method} {c : Code} {H : Heap} {locs : List Loc} {Q : State → Prop} {ls : Array Slot} {D : va_G} {cy : Nat → ClassId} {b L : Nat} {xs : Nat → Int32} {WO : va_W} {q : Nat → Nat} {σ u : TS} {z : Int32 ⊕ Nat} {C S : Nat} (F : lG p l s m args c cL_law 2 wsL_law D cy b L xs) (hP : va_P D vwCl (gS 78 q (TX cy q) σ ++ WO) H) (hD : va_D (fun a => s.heap.size ≤ a) (gS 78 q (TX cy q) σ ++ WO)) (hS : va_S (fun a => s.heap.size ≤ a) s.heap H locs) (hsz : ls.size = 2) (l1 : ls[1]? = some (.val (.ref (q 0)))) (hp : sX8_hasLetGo ((4 : Int32)) σ = some (z, u)) (hz : okZ z) (hR : rmL_ask.frames + 1 ≤ R.frames ∧ 8 + (4 + 11) + rmL_ask.locals ≤ R.locals) (hC : C + 5 ≤ R.cells) (hSl : S + 28 ≤ R.slots) (kk : ∀ (H1 : Heap) (locs1 : List Loc), va_P D vwCl (gS 78 q (TX cy q) u ++ WO) H1 → va_D (fun a => s.heap.size ≤ a) (gS 78 q (TX cy q) u ++ WO) → va_S (fun a => s.heap.size ≤ a) s.heap H1 locs1 → W p l e R s m args below meth c H1 locs1 (C + 5) (S + 28) Q (F0 m 861 ls [.int (askR (zB z))])) : W p l e R s m args below meth c H locs C S Q (F0 m 848 ls []) := by
  obtain ⟨hx, hb, hml, hown, hts, hK, hX, hNt, hlf, hN8, hXs, hbl⟩ := F
  refine lv_aload_n hx hb dL_law_848 rfl l1 ?_
  refine lv_bipush (v := (103 : Int32)) hx hb dL_law_849 (by decide) ?_
  refine lv_iconst (v := (1 : Int32)) hx hb dL_law_851 (by decide) ?_
  refine ar_new (N' := 1) hx hb (hts _ mwarL_law) hK hP hD hS (fun _ h => h) (by decide) rfl (Nat.le_of_ble_eq_true rfl) (by omega) (by omega) dL_law_852 (fun a H hP hD hS => ?_)
  refine lv_dup hx hb dL_law_854 rfl ?_
  refine lv_iconst (v := (0 : Int32)) hx hb dL_law_855 (by decide) ?_
  refine lv_iconst (v := (4 : Int32)) hx hb dL_law_856 (by decide) ?_
  refine ar_st (j := 0) hx hb hK hP hD hS (by decide) rfl dL_law_857 (fun H locs hP hD hS => ?_)
  refine ar_ask (As := [.ref (q 0), .int (103 : Int32), .ref a]) (rest := []) hx hb hml hown hts hK hX hNt hP hD hS (fun hJ ha => mL_ask_hasLetGo l hlf hJ ha hp hz) (vx_cwSW 3 hts gL_law_L_ask rfl rfl rfl nVL_ask hR) rfl hsz rfl (Nat.le_of_ble_eq_true rfl) dL_law_858 ⟨by have := hR.1; omega, by have := hR.1; omega⟩ (fun H locs hP hD hS => ?_)
  refine W.widen (k := C + 5) (n := S + 28) (by omega) (by omega) ?_
  exact kk H locs hP hD hS
set_option maxHeartbeats 4000000 in
set_option maxRecDepth 100000 in
theorem sgL_law_866 {p : Program} {l : Launch} {e : Env} {R : Room} {s : State} {m : MethodId} {args : Array Value} {below : List Frame} {meth : Method} {c : Code} {H : Heap} {locs : List Loc} {Q : State → Prop} {ls : Array Slot} {D : va_G} {cy : Nat → ClassId} {b L : Nat} {xs : Nat → Int32} {WO : va_W} {q : Nat → Nat} {σ u : TS} {z : Int32 ⊕ Nat} {C S : Nat} (F : lG p l s m args c cL_law 2 wsL_law D cy b L xs) (hP : va_P D vwCl (gS 78 q (TX cy q) σ ++ WO) H) (hD : va_D (fun a => s.heap.size ≤ a) (gS 78 q (TX cy q) σ ++ WO)) (hS : va_S (fun a => s.heap.size ≤ a) s.heap H locs) (hsz : ls.size = 2) (l1 : ls[1]? = some (.val (.ref (q 0)))) (hp : sX8_arm (lchr ((120 : Int32))) σ = some (z, u)) (hz : okZ z) (hR : rmL_ask.frames + 1 ≤ R.frames ∧ 8 + (4 + 11) + rmL_ask.locals ≤ R.locals) (hC : C + 5 ≤ R.cells) (hSl : S + 28 ≤ R.slots) (kk : ∀ (H1 : Heap) (locs1 : List Loc), va_P D vwCl (gS 78 q (TX cy q) u ++ WO) H1 → va_D (fun a => s.heap.size ≤ a) (gS 78 q (TX cy q) u ++ WO) → va_S (fun a => s.heap.size ≤ a) s.heap H1 locs1 → W p l e R s m args below meth c H1 locs1 (C + 5) (S + 28) Q (F0 m 880 ls [.int (askR z)])) : W p l e R s m args below meth c H locs C S Q (F0 m 866 ls []) := by
  obtain ⟨hx, hb, hml, hown, hts, hK, hX, hNt, hlf, hN8, hXs, hbl⟩ := F
  refine lv_aload_n hx hb dL_law_866 rfl l1 ?_
  refine lv_bipush (v := (65 : Int32)) hx hb dL_law_867 (by decide) ?_
  refine lv_iconst (v := (1 : Int32)) hx hb dL_law_869 (by decide) ?_
  refine ar_new (N' := 1) hx hb (hts _ mwarL_law) hK hP hD hS (fun _ h => h) (by decide) rfl (Nat.le_of_ble_eq_true rfl) (by omega) (by omega) dL_law_870 (fun a H hP hD hS => ?_)
  refine lv_dup hx hb dL_law_872 rfl ?_
  refine lv_iconst (v := (0 : Int32)) hx hb dL_law_873 (by decide) ?_
  refine lv_bipush (v := (120 : Int32)) hx hb dL_law_874 (by decide) ?_
  refine ar_st (j := 0) hx hb hK hP hD hS (by decide) rfl dL_law_876 (fun H locs hP hD hS => ?_)
  refine ar_ask (As := [.ref (q 0), .int (65 : Int32), .ref a]) (rest := []) hx hb hml hown hts hK hX hNt hP hD hS (fun hJ ha => mL_ask_arm l hlf hJ ha hp hz) (vx_cwSW 3 hts gL_law_L_ask rfl rfl rfl nVL_ask hR) rfl hsz rfl (Nat.le_of_ble_eq_true rfl) dL_law_877 ⟨by have := hR.1; omega, by have := hR.1; omega⟩ (fun H locs hP hD hS => ?_)
  refine W.widen (k := C + 5) (n := S + 28) (by omega) (by omega) ?_
  exact kk H locs hP hD hS
set_option maxHeartbeats 4000000 in
set_option maxRecDepth 100000 in
theorem sgL_law_885 {p : Program} {l : Launch} {e : Env} {R : Room} {s : State} {m : MethodId} {args : Array Value} {below : List Frame} {meth : Method} {c : Code} {H : Heap} {locs : List Loc} {Q : State → Prop} {ls : Array Slot} {D : va_G} {cy : Nat → ClassId} {b L : Nat} {xs : Nat → Int32} {WO : va_W} {q : Nat → Nat} {σ u : TS} {z : Int32 ⊕ Nat} {C S : Nat} (F : lG p l s m args c cL_law 2 wsL_law D cy b L xs) (hP : va_P D vwCl (gS 78 q (TX cy q) σ ++ WO) H) (hD : va_D (fun a => s.heap.size ≤ a) (gS 78 q (TX cy q) σ ++ WO)) (hS : va_S (fun a => s.heap.size ≤ a) s.heap H locs) (hsz : ls.size = 2) (l1 : ls[1]? = some (.val (.ref (q 0)))) (hp : sX8_give (lchr ((97 : Int32))) σ = some (z, u)) (hz : okZ z) (hR : rmL_ask.frames + 1 ≤ R.frames ∧ 8 + (4 + 11) + rmL_ask.locals ≤ R.locals) (hC : C + 5 ≤ R.cells) (hSl : S + 28 ≤ R.slots) (kk : ∀ (H1 : Heap) (locs1 : List Loc), va_P D vwCl (gS 78 q (TX cy q) u ++ WO) H1 → va_D (fun a => s.heap.size ≤ a) (gS 78 q (TX cy q) u ++ WO) → va_S (fun a => s.heap.size ≤ a) s.heap H1 locs1 → W p l e R s m args below meth c H1 locs1 (C + 5) (S + 28) Q (F0 m 899 ls [.int (askR z)])) : W p l e R s m args below meth c H locs C S Q (F0 m 885 ls []) := by
  obtain ⟨hx, hb, hml, hown, hts, hK, hX, hNt, hlf, hN8, hXs, hbl⟩ := F
  refine lv_aload_n hx hb dL_law_885 rfl l1 ?_
  refine lv_bipush (v := (71 : Int32)) hx hb dL_law_886 (by decide) ?_
  refine lv_iconst (v := (1 : Int32)) hx hb dL_law_888 (by decide) ?_
  refine ar_new (N' := 1) hx hb (hts _ mwarL_law) hK hP hD hS (fun _ h => h) (by decide) rfl (Nat.le_of_ble_eq_true rfl) (by omega) (by omega) dL_law_889 (fun a H hP hD hS => ?_)
  refine lv_dup hx hb dL_law_891 rfl ?_
  refine lv_iconst (v := (0 : Int32)) hx hb dL_law_892 (by decide) ?_
  refine lv_bipush (v := (97 : Int32)) hx hb dL_law_893 (by decide) ?_
  refine ar_st (j := 0) hx hb hK hP hD hS (by decide) rfl dL_law_895 (fun H locs hP hD hS => ?_)
  refine ar_ask (As := [.ref (q 0), .int (71 : Int32), .ref a]) (rest := []) hx hb hml hown hts hK hX hNt hP hD hS (fun hJ ha => mL_ask_give l hlf hJ ha hp hz) (vx_cwSW 3 hts gL_law_L_ask rfl rfl rfl nVL_ask hR) rfl hsz rfl (Nat.le_of_ble_eq_true rfl) dL_law_896 ⟨by have := hR.1; omega, by have := hR.1; omega⟩ (fun H locs hP hD hS => ?_)
  refine W.widen (k := C + 5) (n := S + 28) (by omega) (by omega) ?_
  exact kk H locs hP hD hS
set_option maxHeartbeats 4000000 in
set_option maxRecDepth 100000 in
theorem sgL_law_904 {p : Program} {l : Launch} {e : Env} {R : Room} {s : State} {m : MethodId} {args : Array Value} {below : List Frame} {meth : Method} {c : Code} {H : Heap} {locs : List Loc} {Q : State → Prop} {ls : Array Slot} {D : va_G} {cy : Nat → ClassId} {b L : Nat} {xs : Nat → Int32} {WO : va_W} {q : Nat → Nat} {σ u : TS} {z : Int32 ⊕ Nat} {C S : Nat} (F : lG p l s m args c cL_law 2 wsL_law D cy b L xs) (hP : va_P D vwCl (gS 78 q (TX cy q) σ ++ WO) H) (hD : va_D (fun a => s.heap.size ≤ a) (gS 78 q (TX cy q) σ ++ WO)) (hS : va_S (fun a => s.heap.size ≤ a) s.heap H locs) (hsz : ls.size = 2) (l1 : ls[1]? = some (.val (.ref (q 0)))) (hp : sX8_line ((0 : Int32)) (lchr ((116 : Int32))) σ = some (z, u)) (hz : okZ z) (hR : rmL_ask.frames + 1 ≤ R.frames ∧ 8 + (4 + 11) + rmL_ask.locals ≤ R.locals) (hC : C + 5 ≤ R.cells) (hSl : S + 28 ≤ R.slots) (kk : ∀ (H1 : Heap) (locs1 : List Loc), va_P D vwCl (gS 78 q (TX cy q) u ++ WO) H1 → va_D (fun a => s.heap.size ≤ a) (gS 78 q (TX cy q) u ++ WO) → va_S (fun a => s.heap.size ≤ a) s.heap H1 locs1 → W p l e R s m args below meth c H1 locs1 (C + 5) (S + 28) Q (F0 m 922 ls [.int (askR z)])) : W p l e R s m args below meth c H locs C S Q (F0 m 904 ls []) := by
  obtain ⟨hx, hb, hml, hown, hts, hK, hX, hNt, hlf, hN8, hXs, hbl⟩ := F
  refine lv_aload_n hx hb dL_law_904 rfl l1 ?_
  refine lv_bipush (v := (78 : Int32)) hx hb dL_law_905 (by decide) ?_
  refine lv_iconst (v := (2 : Int32)) hx hb dL_law_907 (by decide) ?_
  refine ar_new (N' := 2) hx hb (hts _ mwarL_law) hK hP hD hS (fun _ h => h) (by decide) rfl (Nat.le_of_ble_eq_true rfl) (by omega) (by omega) dL_law_908 (fun a H hP hD hS => ?_)
  refine lv_dup hx hb dL_law_910 rfl ?_
  refine lv_iconst (v := (0 : Int32)) hx hb dL_law_911 (by decide) ?_
  refine lv_iconst (v := (0 : Int32)) hx hb dL_law_912 (by decide) ?_
  refine ar_st (j := 0) hx hb hK hP hD hS (by decide) rfl dL_law_913 (fun H locs hP hD hS => ?_)
  refine lv_dup hx hb dL_law_914 rfl ?_
  refine lv_iconst (v := (1 : Int32)) hx hb dL_law_915 (by decide) ?_
  refine lv_bipush (v := (116 : Int32)) hx hb dL_law_916 (by decide) ?_
  refine ar_st (j := 1) hx hb hK hP hD hS (by decide) rfl dL_law_918 (fun H locs hP hD hS => ?_)
  refine ar_ask (As := [.ref (q 0), .int (78 : Int32), .ref a]) (rest := []) hx hb hml hown hts hK hX hNt hP hD hS (fun hJ ha => mL_ask_line l hlf hJ ha hp hz) (vx_cwSW 3 hts gL_law_L_ask rfl rfl rfl nVL_ask hR) rfl hsz rfl (Nat.le_of_ble_eq_true rfl) dL_law_919 ⟨by have := hR.1; omega, by have := hR.1; omega⟩ (fun H locs hP hD hS => ?_)
  refine W.widen (k := C + 5) (n := S + 28) (by omega) (by omega) ?_
  exact kk H locs hP hD hS

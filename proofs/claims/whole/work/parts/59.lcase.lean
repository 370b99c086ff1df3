set_option maxHeartbeats 4000000 in
set_option maxRecDepth 100000 in
theorem lc_test {p : Program} {l : Launch} {e : Env} {s : State} {m : MethodId} {args : Array Value} {below : List Frame} {meth : Method} {c : Code} {Q : State → Prop} {b L : Nat} {xs : Nat → Int32} {D : va_G} {cy : Nat → ClassId} {q q2 : Nat → Nat} {o : Nat} (F0_ : lF p l s m args c b L xs D cy q q2 o) {σ μ : TS} {fo : Nat → Int64} {H : Heap} {locs : List Loc} (hP : va_P D vwCl (gS 78 q (TX cy q) σ) H) (hM : va_P D vwCl (gS 39 q2 (MX cy q2) μ) H) (hO : va_P D vwCl (oW o cy fo) H) (hS : va_S (fun a => s.heap.size ≤ a) s.heap H locs) {j : Nat} (hj : 5 * j + 5 ≤ L) {ls : Array Slot} (hl : lv_has ls 9 [(0, .ref b), (1, .ref (q (0))), (2, .ref (q2 (0))), (3, .ref o), (4, .int (nI (5 * j)))]) {u v : TS} {z : Int32 ⊕ Nat} {bb : Int32} (h8 : sX8_test (xs (5 * j + 1)) σ = some (z, u)) (h9 : sX9_test (xs (5 * j + 1)) μ = some (bb, v)) (hI : okI [(1, 1), (4, 2)] z bb (v 0 0)) {C S : Nat} (hC : C + 4 ≤ 638203) (hSl : S + 24 ≤ 7181496) (kk : ∀ (fo1 : Nat → Int64) (H1 : Heap) (locs1 : List Loc) (ls1 : Array Slot), va_P D vwCl (gS 78 q (TX cy q) u) H1 → va_P D vwCl (gS 39 q2 (MX cy q2) v) H1 → va_P D vwCl (oW o cy fo1) H1 → va_S (fun a => s.heap.size ≤ a) s.heap H1 locs1 → lv_has ls1 9 [(0, .ref b), (1, .ref (q (0))), (2, .ref (q2 (0))), (3, .ref o), (4, .int (nI (5 * j)))] → W p l e room_1 s m args below meth c H1 locs1 (C + 4) (S + 24) Q (F0 m 2410 ls1 [])) : W p l e room_1 s m args below meth c H locs C S Q (F0 m 1123 ls []) := by
  obtain ⟨hx, hb, hml, hown, hts, hXs, hbl, hL0, hK, hX, hNt, hlf, hJ, hJ2, hAT, hAM, hAo, hdis, hoT, hoM⟩ := F0_
  have hAO : ∀ a, hA q o a → s.heap.size ≤ a := fun a h => h.elim (fun h => hAT a h) (fun h => by rw [h]; exact hAo)
  have hdM : ∀ a, gA 39 q2 a → ¬ hA q o a := fun a h h2 => h2.elim (fun h3 => hdis a h h3) (fun h3 => hoM (by rw [← h3]; exact h))
  have hdT : ∀ a, gA 78 q a → ¬ gA 39 q2 a := fun a h h2 => hdis a h2 h
  obtain ⟨t, hz, ht, hcase⟩ := hI
  refine lv_aload_n hx hb dL_law_1123 rfl (lv_at hl 1 rfl) ?_
  refine lv_aload_n hx hb dL_law_1124 rfl (lv_at hl 0 rfl) ?_
  refine lv_iload hx hb dL_law_1125 (lv_at hl 4 rfl) ?_
  refine lv_iconst (v := (1 : Int32)) hx hb dL_law_1127 (by decide) ?_
  refine lv_iadd hx hb dL_law_1128 ?_
  refine l_sld hx hb hXs hbl hS hL0 1 (by decide) (by omega) dL_law_1129 ?_
  refine lv_aload_n hx hb dL_law_1130 rfl (lv_at hl 3 rfl) ?_
  refine l_cS (As := [.ref (q (0)), .int (xs (5 * j + 1)), .ref o]) (rest := []) (WO := gS 39 q2 (MX cy q2) μ) hx hb hml hown hts hK hX hNt hAO hP hO hM (l_dM hdM) hS (mL_test l hlf hJ hoT h8 hz) (vx_cwSW 3 hts gL_law_L_test rfl rfl rfl (by decide +kernel) ⟨Nat.le_of_ble_eq_true rfl, Nat.le_of_ble_eq_true rfl⟩) rfl hl.1 rfl (Nat.le_of_ble_eq_true rfl) dL_law_1131 ⟨by show C + _ ≤ 638203; omega, by show S + _ ≤ 7181496; omega⟩ (fun H locs hP hO hM hS => ?_)
  refine lv_istore (lv' := [(5, .int t), (0, .ref b), (1, .ref (q (0))), (2, .ref (q2 (0))), (3, .ref o), (4, .int (nI (5 * j)))]) hx hb dL_law_1134 hl (by decide) rfl (fun ls hl => ?_)
  refine lv_aload_n hx hb dL_law_1136 rfl (lv_at hl 3 rfl) ?_
  refine lv_aload_n hx hb dL_law_1137 rfl (lv_at hl 1 rfl) ?_
  refine lv_iload hx hb dL_law_1138 (lv_at hl 5 rfl) ?_
  refine lv_iconst (v := (1 : Int32)) hx hb dL_law_1140 (by decide) ?_
  refine lv_iadd hx hb dL_law_1141 ?_
  refine l_sld hx hb hXs hbl hS hL0 1 (by decide) (by omega) dL_law_1142 ?_
  refine l_cVi (As := [.int (xs (5 * j + 1))]) (rest := []) (WO := gS 78 q (TX cy q) u ++ oW o cy _) hx hb hml hown hts hK hAM hM (hP.app hO) (l_app (l_dM hdT) (h_odis hoM)) hS (mX9_test l hJ2 h9) (cwV 1 hts gL_law_X9_test rfl rfl rfl nVX9_test ⟨Nat.le_of_ble_eq_true rfl, Nat.le_of_ble_eq_true rfl⟩) (g_recv hK hM kk_Mod ce_Mod rfl) rfl hl.1 rfl (Nat.le_of_ble_eq_true rfl) dL_law_1143 ⟨by show C + _ ≤ 638203; omega, by show S + _ ≤ 7181496; omega⟩ (fun H locs hM hPO hS => ?_)
  have hP := w_first hPO
  have hO := w_last hPO
  clear hPO
  refine lv_istore (lv' := [(6, .int bb), (5, .int t), (0, .ref b), (1, .ref (q (0))), (2, .ref (q2 (0))), (3, .ref o), (4, .int (nI (5 * j)))]) hx hb dL_law_1146 hl (by decide) rfl (fun ls hl => ?_)
  refine lv_aload_n hx hb dL_law_1148 rfl (lv_at hl 4 rfl) ?_
  refine l_cVi (As := []) (rest := []) (WO := gS 78 q (TX cy q) u ++ oW o cy _) hx hb hml hown hts hK hAM hM (hP.app hO) (l_app (l_dM hdT) (h_odis hoM)) hS (mX9_thrown (σ := v) (r := v 0 0) (u := v) l hJ2 rfl) (cwV 0 hts gL_law_X9_thrown rfl rfl rfl nVX9_thrown ⟨Nat.le_of_ble_eq_true rfl, Nat.le_of_ble_eq_true rfl⟩) (g_recv hK hM kk_Mod ce_Mod rfl) rfl hl.1 rfl (Nat.le_of_ble_eq_true rfl) dL_law_1149 ⟨by show C + _ ≤ 638203; omega, by show S + _ ≤ 7181496; omega⟩ (fun H locs hM hPO hS => ?_)
  have hP := w_first hPO
  have hO := w_last hPO
  clear hPO
  refine lv_iload hx hb dL_law_1152 (lv_at hl 1 rfl) ?_
  refine lv_icmp_eq (tgt := 1159) hx hb dL_law_1154 (by decide) (fun _ => ?_) (fun h => absurd ht h)
  refine lv_iload hx hb dL_law_1159 (lv_at hl 1 rfl) ?_
  by_cases ht0 : t = 0
  · have hzb := hcase ht0
    subst hzb
    refine lv_if_ne (tgt := 1183) hx hb dL_law_1161 (by decide) (fun h => absurd ht0 h) (fun _ => ?_)
    refine lv_aload_n hx hb dL_law_1164 rfl (lv_at hl 5 rfl) ?_
    refine lv_iconst (v := (0 : Int32)) hx hb dL_law_1165 (by decide) ?_
    refine va_lald hx hb hK hO 0 9 rfl rfl (i := (0 : Int32)) (vin_of (by decide)) dL_law_1166 ?_
    refine lv_iload hx hb dL_law_1167 (lv_at hl 0 rfl) ?_
    by_cases hbb : bb = 0
    · refine lv_if_eq (tgt := 1176) hx hb dL_law_1169 (by decide) (fun _ => ?_) (fun h => absurd hbb h)
      refine lv_lconst (v := (0 : Int64)) hx hb dL_law_1176 (by decide) ?_
      refine W.lcmp hx hb dL_law_1177 ?_
      have hcmp : lg_cmp (lob (.inl bb) fo ((0 : Int32).toNatClampNeg)) ((0 : Int64)) = 0 := by
        have h1 : lob (.inl bb) fo ((0 : Int32).toNatClampNeg) = ((0 : Int64)) := by
          show (if (0 : Int32).toNatClampNeg = 0 then (if bb = 0 then (0 : Int64) else 1) else fo ((0 : Int32).toNatClampNeg)) = _
          rw [if_pos (by decide), if_pos hbb]
        rw [h1]
        exact l_cmp0 _
      refine lv_if_eq (tgt := 1183) hx hb dL_law_1178 (by decide) (fun _ => ?_) (fun h => absurd hcmp h)
      refine lv_goto (tgt := 2410) hx hb dL_law_1183 (by decide) ?_
      have hl9 := lv_sub hl [2, 3, 4, 5, 6] (l' := [(0, .ref b), (1, .ref (q (0))), (2, .ref (q2 (0))), (3, .ref o), (4, .int (nI (5 * j)))]) rfl
      exact W.widen (k := C + 4) (n := S + 24) (by omega) (by omega) (kk _ _ _ _ hP hM hO hS hl9)
    · refine lv_if_eq (tgt := 1176) hx hb dL_law_1169 (by decide) (fun h => absurd h hbb) (fun _ => ?_)
      refine lv_lconst (v := (1 : Int64)) hx hb dL_law_1172 (by decide) ?_
      refine lv_goto (tgt := 1177) hx hb dL_law_1173 (by decide) ?_
      refine W.lcmp hx hb dL_law_1177 ?_
      have hcmp : lg_cmp (lob (.inl bb) fo ((0 : Int32).toNatClampNeg)) ((1 : Int64)) = 0 := by
        have h1 : lob (.inl bb) fo ((0 : Int32).toNatClampNeg) = ((1 : Int64)) := by
          show (if (0 : Int32).toNatClampNeg = 0 then (if bb = 0 then (0 : Int64) else 1) else fo ((0 : Int32).toNatClampNeg)) = _
          rw [if_pos (by decide), if_neg hbb]
        rw [h1]
        exact l_cmp0 _
      refine lv_if_eq (tgt := 1183) hx hb dL_law_1178 (by decide) (fun _ => ?_) (fun h => absurd hcmp h)
      refine lv_goto (tgt := 2410) hx hb dL_law_1183 (by decide) ?_
      have hl9 := lv_sub hl [2, 3, 4, 5, 6] (l' := [(0, .ref b), (1, .ref (q (0))), (2, .ref (q2 (0))), (3, .ref o), (4, .int (nI (5 * j)))]) rfl
      exact W.widen (k := C + 4) (n := S + 24) (by omega) (by omega) (kk _ _ _ _ hP hM hO hS hl9)
  · refine lv_if_ne (tgt := 1183) hx hb dL_law_1161 (by decide) (fun _ => ?_) (fun h => absurd h ht0)
    refine lv_goto (tgt := 2410) hx hb dL_law_1183 (by decide) ?_
    have hl9 := lv_sub hl [2, 3, 4, 5, 6] (l' := [(0, .ref b), (1, .ref (q (0))), (2, .ref (q2 (0))), (3, .ref o), (4, .int (nI (5 * j)))]) rfl
    exact W.widen (k := C + 4) (n := S + 24) (by omega) (by omega) (kk _ _ _ _ hP hM hO hS hl9)
set_option maxHeartbeats 4000000 in
set_option maxRecDepth 100000 in
theorem lc_back {p : Program} {l : Launch} {e : Env} {s : State} {m : MethodId} {args : Array Value} {below : List Frame} {meth : Method} {c : Code} {Q : State → Prop} {b L : Nat} {xs : Nat → Int32} {D : va_G} {cy : Nat → ClassId} {q q2 : Nat → Nat} {o : Nat} (F0_ : lF p l s m args c b L xs D cy q q2 o) {σ μ : TS} {fo : Nat → Int64} {H : Heap} {locs : List Loc} (hP : va_P D vwCl (gS 78 q (TX cy q) σ) H) (hM : va_P D vwCl (gS 39 q2 (MX cy q2) μ) H) (hO : va_P D vwCl (oW o cy fo) H) (hS : va_S (fun a => s.heap.size ≤ a) s.heap H locs) {j : Nat} (hj : 5 * j + 5 ≤ L) {ls : Array Slot} (hl : lv_has ls 9 [(0, .ref b), (1, .ref (q (0))), (2, .ref (q2 (0))), (3, .ref o), (4, .int (nI (5 * j)))]) {u v : TS} {z : Int32 ⊕ Nat} {bb : Int32} (h8 : sX8_back (xs (5 * j + 1)) σ = some (z, u)) (h9 : sX9_back (xs (5 * j + 1)) μ = some (bb, v)) (hI : okI [(1, 1), (4, 2)] z bb (v 0 0)) {C S : Nat} (hC : C + 4 ≤ 638203) (hSl : S + 24 ≤ 7181496) (kk : ∀ (fo1 : Nat → Int64) (H1 : Heap) (locs1 : List Loc) (ls1 : Array Slot), va_P D vwCl (gS 78 q (TX cy q) u) H1 → va_P D vwCl (gS 39 q2 (MX cy q2) v) H1 → va_P D vwCl (oW o cy fo1) H1 → va_S (fun a => s.heap.size ≤ a) s.heap H1 locs1 → lv_has ls1 9 [(0, .ref b), (1, .ref (q (0))), (2, .ref (q2 (0))), (3, .ref o), (4, .int (nI (5 * j)))] → W p l e room_1 s m args below meth c H1 locs1 (C + 4) (S + 24) Q (F0 m 2410 ls1 [])) : W p l e room_1 s m args below meth c H locs C S Q (F0 m 1186 ls []) := by
  obtain ⟨hx, hb, hml, hown, hts, hXs, hbl, hL0, hK, hX, hNt, hlf, hJ, hJ2, hAT, hAM, hAo, hdis, hoT, hoM⟩ := F0_
  have hAO : ∀ a, hA q o a → s.heap.size ≤ a := fun a h => h.elim (fun h => hAT a h) (fun h => by rw [h]; exact hAo)
  have hdM : ∀ a, gA 39 q2 a → ¬ hA q o a := fun a h h2 => h2.elim (fun h3 => hdis a h h3) (fun h3 => hoM (by rw [← h3]; exact h))
  have hdT : ∀ a, gA 78 q a → ¬ gA 39 q2 a := fun a h h2 => hdis a h2 h
  obtain ⟨t, hz, ht, hcase⟩ := hI
  refine lv_aload_n hx hb dL_law_1186 rfl (lv_at hl 1 rfl) ?_
  refine lv_aload_n hx hb dL_law_1187 rfl (lv_at hl 0 rfl) ?_
  refine lv_iload hx hb dL_law_1188 (lv_at hl 4 rfl) ?_
  refine lv_iconst (v := (1 : Int32)) hx hb dL_law_1190 (by decide) ?_
  refine lv_iadd hx hb dL_law_1191 ?_
  refine l_sld hx hb hXs hbl hS hL0 1 (by decide) (by omega) dL_law_1192 ?_
  refine lv_aload_n hx hb dL_law_1193 rfl (lv_at hl 3 rfl) ?_
  refine l_cS (As := [.ref (q (0)), .int (xs (5 * j + 1)), .ref o]) (rest := []) (WO := gS 39 q2 (MX cy q2) μ) hx hb hml hown hts hK hX hNt hAO hP hO hM (l_dM hdM) hS (mL_back l hlf hJ hoT h8 hz) (vx_cwSW 3 hts gL_law_L_back rfl rfl rfl (by decide +kernel) ⟨Nat.le_of_ble_eq_true rfl, Nat.le_of_ble_eq_true rfl⟩) rfl hl.1 rfl (Nat.le_of_ble_eq_true rfl) dL_law_1194 ⟨by show C + _ ≤ 638203; omega, by show S + _ ≤ 7181496; omega⟩ (fun H locs hP hO hM hS => ?_)
  refine lv_istore (lv' := [(5, .int t), (0, .ref b), (1, .ref (q (0))), (2, .ref (q2 (0))), (3, .ref o), (4, .int (nI (5 * j)))]) hx hb dL_law_1197 hl (by decide) rfl (fun ls hl => ?_)
  refine lv_aload_n hx hb dL_law_1199 rfl (lv_at hl 3 rfl) ?_
  refine lv_aload_n hx hb dL_law_1200 rfl (lv_at hl 1 rfl) ?_
  refine lv_iload hx hb dL_law_1201 (lv_at hl 5 rfl) ?_
  refine lv_iconst (v := (1 : Int32)) hx hb dL_law_1203 (by decide) ?_
  refine lv_iadd hx hb dL_law_1204 ?_
  refine l_sld hx hb hXs hbl hS hL0 1 (by decide) (by omega) dL_law_1205 ?_
  refine l_cVi (As := [.int (xs (5 * j + 1))]) (rest := []) (WO := gS 78 q (TX cy q) u ++ oW o cy _) hx hb hml hown hts hK hAM hM (hP.app hO) (l_app (l_dM hdT) (h_odis hoM)) hS (mX9_back l hJ2 h9) (cwV 1 hts gL_law_X9_back rfl rfl rfl nVX9_back ⟨Nat.le_of_ble_eq_true rfl, Nat.le_of_ble_eq_true rfl⟩) (g_recv hK hM kk_Mod ce_Mod rfl) rfl hl.1 rfl (Nat.le_of_ble_eq_true rfl) dL_law_1206 ⟨by show C + _ ≤ 638203; omega, by show S + _ ≤ 7181496; omega⟩ (fun H locs hM hPO hS => ?_)
  have hP := w_first hPO
  have hO := w_last hPO
  clear hPO
  refine lv_istore (lv' := [(6, .int bb), (5, .int t), (0, .ref b), (1, .ref (q (0))), (2, .ref (q2 (0))), (3, .ref o), (4, .int (nI (5 * j)))]) hx hb dL_law_1209 hl (by decide) rfl (fun ls hl => ?_)
  refine lv_aload_n hx hb dL_law_1211 rfl (lv_at hl 4 rfl) ?_
  refine l_cVi (As := []) (rest := []) (WO := gS 78 q (TX cy q) u ++ oW o cy _) hx hb hml hown hts hK hAM hM (hP.app hO) (l_app (l_dM hdT) (h_odis hoM)) hS (mX9_thrown (σ := v) (r := v 0 0) (u := v) l hJ2 rfl) (cwV 0 hts gL_law_X9_thrown rfl rfl rfl nVX9_thrown ⟨Nat.le_of_ble_eq_true rfl, Nat.le_of_ble_eq_true rfl⟩) (g_recv hK hM kk_Mod ce_Mod rfl) rfl hl.1 rfl (Nat.le_of_ble_eq_true rfl) dL_law_1212 ⟨by show C + _ ≤ 638203; omega, by show S + _ ≤ 7181496; omega⟩ (fun H locs hM hPO hS => ?_)
  have hP := w_first hPO
  have hO := w_last hPO
  clear hPO
  refine lv_iload hx hb dL_law_1215 (lv_at hl 1 rfl) ?_
  refine lv_icmp_eq (tgt := 1222) hx hb dL_law_1217 (by decide) (fun _ => ?_) (fun h => absurd ht h)
  refine lv_iload hx hb dL_law_1222 (lv_at hl 1 rfl) ?_
  by_cases ht0 : t = 0
  · have hzb := hcase ht0
    subst hzb
    refine lv_if_ne (tgt := 1239) hx hb dL_law_1224 (by decide) (fun h => absurd ht0 h) (fun _ => ?_)
    refine lv_aload_n hx hb dL_law_1227 rfl (lv_at hl 5 rfl) ?_
    refine lv_iconst (v := (0 : Int32)) hx hb dL_law_1228 (by decide) ?_
    refine va_lald hx hb hK hO 0 9 rfl rfl (i := (0 : Int32)) (vin_of (by decide)) dL_law_1229 ?_
    refine lv_iload hx hb dL_law_1230 (lv_at hl 0 rfl) ?_
    refine lv_i2l hx hb dL_law_1232 rfl ?_
    refine W.lcmp hx hb dL_law_1233 ?_
    have hcmp : lg_cmp (lo (.inl bb) fo ((0 : Int32).toNatClampNeg)) bb.toInt64 = 0 := l_cmp0 _
    refine lv_if_eq (tgt := 1239) hx hb dL_law_1234 (by decide) (fun _ => ?_) (fun h => absurd hcmp h)
    refine lv_goto (tgt := 2410) hx hb dL_law_1239 (by decide) ?_
    have hl9 := lv_sub hl [2, 3, 4, 5, 6] (l' := [(0, .ref b), (1, .ref (q (0))), (2, .ref (q2 (0))), (3, .ref o), (4, .int (nI (5 * j)))]) rfl
    exact W.widen (k := C + 4) (n := S + 24) (by omega) (by omega) (kk _ _ _ _ hP hM hO hS hl9)
  · refine lv_if_ne (tgt := 1239) hx hb dL_law_1224 (by decide) (fun _ => ?_) (fun h => absurd h ht0)
    refine lv_goto (tgt := 2410) hx hb dL_law_1239 (by decide) ?_
    have hl9 := lv_sub hl [2, 3, 4, 5, 6] (l' := [(0, .ref b), (1, .ref (q (0))), (2, .ref (q2 (0))), (3, .ref o), (4, .int (nI (5 * j)))]) rfl
    exact W.widen (k := C + 4) (n := S + 24) (by omega) (by omega) (kk _ _ _ _ hP hM hO hS hl9)
set_option maxHeartbeats 4000000 in
set_option maxRecDepth 100000 in
theorem lc_mended {p : Program} {l : Launch} {e : Env} {s : State} {m : MethodId} {args : Array Value} {below : List Frame} {meth : Method} {c : Code} {Q : State → Prop} {b L : Nat} {xs : Nat → Int32} {D : va_G} {cy : Nat → ClassId} {q q2 : Nat → Nat} {o : Nat} (F0_ : lF p l s m args c b L xs D cy q q2 o) {σ μ : TS} {fo : Nat → Int64} {H : Heap} {locs : List Loc} (hP : va_P D vwCl (gS 78 q (TX cy q) σ) H) (hM : va_P D vwCl (gS 39 q2 (MX cy q2) μ) H) (hO : va_P D vwCl (oW o cy fo) H) (hS : va_S (fun a => s.heap.size ≤ a) s.heap H locs) {j : Nat} (hj : 5 * j + 5 ≤ L) {ls : Array Slot} (hl : lv_has ls 9 [(0, .ref b), (1, .ref (q (0))), (2, .ref (q2 (0))), (3, .ref o), (4, .int (nI (5 * j)))]) {u v : TS} {z : Int32 ⊕ Nat} {bb : Int32} (h8 : sX8_mended (xs (5 * j + 1)) σ = some (z, u)) (h9 : sX9_mended (xs (5 * j + 1)) μ = some (bb, v)) (hI : okI [(1, 1)] z bb (v 0 0)) {C S : Nat} (hC : C + 4 ≤ 638203) (hSl : S + 24 ≤ 7181496) (kk : ∀ (fo1 : Nat → Int64) (H1 : Heap) (locs1 : List Loc) (ls1 : Array Slot), va_P D vwCl (gS 78 q (TX cy q) u) H1 → va_P D vwCl (gS 39 q2 (MX cy q2) v) H1 → va_P D vwCl (oW o cy fo1) H1 → va_S (fun a => s.heap.size ≤ a) s.heap H1 locs1 → lv_has ls1 9 [(0, .ref b), (1, .ref (q (0))), (2, .ref (q2 (0))), (3, .ref o), (4, .int (nI (5 * j)))] → W p l e room_1 s m args below meth c H1 locs1 (C + 4) (S + 24) Q (F0 m 2410 ls1 [])) : W p l e room_1 s m args below meth c H locs C S Q (F0 m 1242 ls []) := by
  obtain ⟨hx, hb, hml, hown, hts, hXs, hbl, hL0, hK, hX, hNt, hlf, hJ, hJ2, hAT, hAM, hAo, hdis, hoT, hoM⟩ := F0_
  have hAO : ∀ a, hA q o a → s.heap.size ≤ a := fun a h => h.elim (fun h => hAT a h) (fun h => by rw [h]; exact hAo)
  have hdM : ∀ a, gA 39 q2 a → ¬ hA q o a := fun a h h2 => h2.elim (fun h3 => hdis a h h3) (fun h3 => hoM (by rw [← h3]; exact h))
  have hdT : ∀ a, gA 78 q a → ¬ gA 39 q2 a := fun a h h2 => hdis a h2 h
  obtain ⟨t, hz, ht, hcase⟩ := hI
  refine lv_aload_n hx hb dL_law_1242 rfl (lv_at hl 1 rfl) ?_
  refine lv_aload_n hx hb dL_law_1243 rfl (lv_at hl 0 rfl) ?_
  refine lv_iload hx hb dL_law_1244 (lv_at hl 4 rfl) ?_
  refine lv_iconst (v := (1 : Int32)) hx hb dL_law_1246 (by decide) ?_
  refine lv_iadd hx hb dL_law_1247 ?_
  refine l_sld hx hb hXs hbl hS hL0 1 (by decide) (by omega) dL_law_1248 ?_
  refine lv_aload_n hx hb dL_law_1249 rfl (lv_at hl 3 rfl) ?_
  refine l_cS (As := [.ref (q (0)), .int (xs (5 * j + 1)), .ref o]) (rest := []) (WO := gS 39 q2 (MX cy q2) μ) hx hb hml hown hts hK hX hNt hAO hP hO hM (l_dM hdM) hS (mL_mended l hlf hJ hoT h8 hz) (vx_cwSW 3 hts gL_law_L_mended rfl rfl rfl (by decide +kernel) ⟨Nat.le_of_ble_eq_true rfl, Nat.le_of_ble_eq_true rfl⟩) rfl hl.1 rfl (Nat.le_of_ble_eq_true rfl) dL_law_1250 ⟨by show C + _ ≤ 638203; omega, by show S + _ ≤ 7181496; omega⟩ (fun H locs hP hO hM hS => ?_)
  refine lv_istore (lv' := [(5, .int t), (0, .ref b), (1, .ref (q (0))), (2, .ref (q2 (0))), (3, .ref o), (4, .int (nI (5 * j)))]) hx hb dL_law_1253 hl (by decide) rfl (fun ls hl => ?_)
  refine lv_aload_n hx hb dL_law_1255 rfl (lv_at hl 3 rfl) ?_
  refine lv_aload_n hx hb dL_law_1256 rfl (lv_at hl 1 rfl) ?_
  refine lv_iload hx hb dL_law_1257 (lv_at hl 5 rfl) ?_
  refine lv_iconst (v := (1 : Int32)) hx hb dL_law_1259 (by decide) ?_
  refine lv_iadd hx hb dL_law_1260 ?_
  refine l_sld hx hb hXs hbl hS hL0 1 (by decide) (by omega) dL_law_1261 ?_
  refine l_cVi (As := [.int (xs (5 * j + 1))]) (rest := []) (WO := gS 78 q (TX cy q) u ++ oW o cy _) hx hb hml hown hts hK hAM hM (hP.app hO) (l_app (l_dM hdT) (h_odis hoM)) hS (mX9_mended l hJ2 h9) (cwV 1 hts gL_law_X9_mended rfl rfl rfl nVX9_mended ⟨Nat.le_of_ble_eq_true rfl, Nat.le_of_ble_eq_true rfl⟩) (g_recv hK hM kk_Mod ce_Mod rfl) rfl hl.1 rfl (Nat.le_of_ble_eq_true rfl) dL_law_1262 ⟨by show C + _ ≤ 638203; omega, by show S + _ ≤ 7181496; omega⟩ (fun H locs hM hPO hS => ?_)
  have hP := w_first hPO
  have hO := w_last hPO
  clear hPO
  refine lv_istore (lv' := [(6, .int bb), (5, .int t), (0, .ref b), (1, .ref (q (0))), (2, .ref (q2 (0))), (3, .ref o), (4, .int (nI (5 * j)))]) hx hb dL_law_1265 hl (by decide) rfl (fun ls hl => ?_)
  refine lv_aload_n hx hb dL_law_1267 rfl (lv_at hl 4 rfl) ?_
  refine l_cVi (As := []) (rest := []) (WO := gS 78 q (TX cy q) u ++ oW o cy _) hx hb hml hown hts hK hAM hM (hP.app hO) (l_app (l_dM hdT) (h_odis hoM)) hS (mX9_thrown (σ := v) (r := v 0 0) (u := v) l hJ2 rfl) (cwV 0 hts gL_law_X9_thrown rfl rfl rfl nVX9_thrown ⟨Nat.le_of_ble_eq_true rfl, Nat.le_of_ble_eq_true rfl⟩) (g_recv hK hM kk_Mod ce_Mod rfl) rfl hl.1 rfl (Nat.le_of_ble_eq_true rfl) dL_law_1268 ⟨by show C + _ ≤ 638203; omega, by show S + _ ≤ 7181496; omega⟩ (fun H locs hM hPO hS => ?_)
  have hP := w_first hPO
  have hO := w_last hPO
  clear hPO
  refine lv_iload hx hb dL_law_1271 (lv_at hl 1 rfl) ?_
  refine lv_icmp_eq (tgt := 1278) hx hb dL_law_1273 (by decide) (fun _ => ?_) (fun h => absurd ht h)
  refine lv_iload hx hb dL_law_1278 (lv_at hl 1 rfl) ?_
  by_cases ht0 : t = 0
  · have hzb := hcase ht0
    subst hzb
    refine lv_if_ne (tgt := 1295) hx hb dL_law_1280 (by decide) (fun h => absurd ht0 h) (fun _ => ?_)
    refine lv_aload_n hx hb dL_law_1283 rfl (lv_at hl 5 rfl) ?_
    refine lv_iconst (v := (0 : Int32)) hx hb dL_law_1284 (by decide) ?_
    refine va_lald hx hb hK hO 0 9 rfl rfl (i := (0 : Int32)) (vin_of (by decide)) dL_law_1285 ?_
    refine lv_iload hx hb dL_law_1286 (lv_at hl 0 rfl) ?_
    refine lv_i2l hx hb dL_law_1288 rfl ?_
    refine W.lcmp hx hb dL_law_1289 ?_
    have hcmp : lg_cmp (lo (.inl bb) fo ((0 : Int32).toNatClampNeg)) bb.toInt64 = 0 := l_cmp0 _
    refine lv_if_eq (tgt := 1295) hx hb dL_law_1290 (by decide) (fun _ => ?_) (fun h => absurd hcmp h)
    refine lv_goto (tgt := 2410) hx hb dL_law_1295 (by decide) ?_
    have hl9 := lv_sub hl [2, 3, 4, 5, 6] (l' := [(0, .ref b), (1, .ref (q (0))), (2, .ref (q2 (0))), (3, .ref o), (4, .int (nI (5 * j)))]) rfl
    exact W.widen (k := C + 4) (n := S + 24) (by omega) (by omega) (kk _ _ _ _ hP hM hO hS hl9)
  · refine lv_if_ne (tgt := 1295) hx hb dL_law_1280 (by decide) (fun _ => ?_) (fun h => absurd h ht0)
    refine lv_goto (tgt := 2410) hx hb dL_law_1295 (by decide) ?_
    have hl9 := lv_sub hl [2, 3, 4, 5, 6] (l' := [(0, .ref b), (1, .ref (q (0))), (2, .ref (q2 (0))), (3, .ref o), (4, .int (nI (5 * j)))]) rfl
    exact W.widen (k := C + 4) (n := S + 24) (by omega) (by omega) (kk _ _ _ _ hP hM hO hS hl9)
set_option maxHeartbeats 4000000 in
set_option maxRecDepth 100000 in
theorem lc_overruns {p : Program} {l : Launch} {e : Env} {s : State} {m : MethodId} {args : Array Value} {below : List Frame} {meth : Method} {c : Code} {Q : State → Prop} {b L : Nat} {xs : Nat → Int32} {D : va_G} {cy : Nat → ClassId} {q q2 : Nat → Nat} {o : Nat} (F0_ : lF p l s m args c b L xs D cy q q2 o) {σ μ : TS} {fo : Nat → Int64} {H : Heap} {locs : List Loc} (hP : va_P D vwCl (gS 78 q (TX cy q) σ) H) (hM : va_P D vwCl (gS 39 q2 (MX cy q2) μ) H) (hO : va_P D vwCl (oW o cy fo) H) (hS : va_S (fun a => s.heap.size ≤ a) s.heap H locs) {j : Nat} (hj : 5 * j + 5 ≤ L) {ls : Array Slot} (hl : lv_has ls 9 [(0, .ref b), (1, .ref (q (0))), (2, .ref (q2 (0))), (3, .ref o), (4, .int (nI (5 * j)))]) {u v : TS} {z : Int32 ⊕ Nat} {bb : Int32} (h8 : sX8_overruns (xs (5 * j + 1)) σ = some (z, u)) (h9 : sX9_overruns (xs (5 * j + 1)) μ = some (bb, v)) (hI : okI [(1, 1)] z bb (v 0 0)) {C S : Nat} (hC : C + 4 ≤ 638203) (hSl : S + 24 ≤ 7181496) (kk : ∀ (fo1 : Nat → Int64) (H1 : Heap) (locs1 : List Loc) (ls1 : Array Slot), va_P D vwCl (gS 78 q (TX cy q) u) H1 → va_P D vwCl (gS 39 q2 (MX cy q2) v) H1 → va_P D vwCl (oW o cy fo1) H1 → va_S (fun a => s.heap.size ≤ a) s.heap H1 locs1 → lv_has ls1 9 [(0, .ref b), (1, .ref (q (0))), (2, .ref (q2 (0))), (3, .ref o), (4, .int (nI (5 * j)))] → W p l e room_1 s m args below meth c H1 locs1 (C + 4) (S + 24) Q (F0 m 2410 ls1 [])) : W p l e room_1 s m args below meth c H locs C S Q (F0 m 1298 ls []) := by
  obtain ⟨hx, hb, hml, hown, hts, hXs, hbl, hL0, hK, hX, hNt, hlf, hJ, hJ2, hAT, hAM, hAo, hdis, hoT, hoM⟩ := F0_
  have hAO : ∀ a, hA q o a → s.heap.size ≤ a := fun a h => h.elim (fun h => hAT a h) (fun h => by rw [h]; exact hAo)
  have hdM : ∀ a, gA 39 q2 a → ¬ hA q o a := fun a h h2 => h2.elim (fun h3 => hdis a h h3) (fun h3 => hoM (by rw [← h3]; exact h))
  have hdT : ∀ a, gA 78 q a → ¬ gA 39 q2 a := fun a h h2 => hdis a h2 h
  obtain ⟨t, hz, ht, hcase⟩ := hI
  refine lv_aload_n hx hb dL_law_1298 rfl (lv_at hl 1 rfl) ?_
  refine lv_aload_n hx hb dL_law_1299 rfl (lv_at hl 0 rfl) ?_
  refine lv_iload hx hb dL_law_1300 (lv_at hl 4 rfl) ?_
  refine lv_iconst (v := (1 : Int32)) hx hb dL_law_1302 (by decide) ?_
  refine lv_iadd hx hb dL_law_1303 ?_
  refine l_sld hx hb hXs hbl hS hL0 1 (by decide) (by omega) dL_law_1304 ?_
  refine lv_aload_n hx hb dL_law_1305 rfl (lv_at hl 3 rfl) ?_
  refine l_cS (As := [.ref (q (0)), .int (xs (5 * j + 1)), .ref o]) (rest := []) (WO := gS 39 q2 (MX cy q2) μ) hx hb hml hown hts hK hX hNt hAO hP hO hM (l_dM hdM) hS (mL_overruns l hlf hJ hoT h8 hz) (vx_cwSW 3 hts gL_law_L_overruns rfl rfl rfl (by decide +kernel) ⟨Nat.le_of_ble_eq_true rfl, Nat.le_of_ble_eq_true rfl⟩) rfl hl.1 rfl (Nat.le_of_ble_eq_true rfl) dL_law_1306 ⟨by show C + _ ≤ 638203; omega, by show S + _ ≤ 7181496; omega⟩ (fun H locs hP hO hM hS => ?_)
  refine lv_istore (lv' := [(5, .int t), (0, .ref b), (1, .ref (q (0))), (2, .ref (q2 (0))), (3, .ref o), (4, .int (nI (5 * j)))]) hx hb dL_law_1309 hl (by decide) rfl (fun ls hl => ?_)
  refine lv_aload_n hx hb dL_law_1311 rfl (lv_at hl 3 rfl) ?_
  refine lv_aload_n hx hb dL_law_1312 rfl (lv_at hl 1 rfl) ?_
  refine lv_iload hx hb dL_law_1313 (lv_at hl 5 rfl) ?_
  refine lv_iconst (v := (1 : Int32)) hx hb dL_law_1315 (by decide) ?_
  refine lv_iadd hx hb dL_law_1316 ?_
  refine l_sld hx hb hXs hbl hS hL0 1 (by decide) (by omega) dL_law_1317 ?_
  refine l_cVi (As := [.int (xs (5 * j + 1))]) (rest := []) (WO := gS 78 q (TX cy q) u ++ oW o cy _) hx hb hml hown hts hK hAM hM (hP.app hO) (l_app (l_dM hdT) (h_odis hoM)) hS (mX9_overruns l hJ2 h9) (cwV 1 hts gL_law_X9_overruns rfl rfl rfl nVX9_overruns ⟨Nat.le_of_ble_eq_true rfl, Nat.le_of_ble_eq_true rfl⟩) (g_recv hK hM kk_Mod ce_Mod rfl) rfl hl.1 rfl (Nat.le_of_ble_eq_true rfl) dL_law_1318 ⟨by show C + _ ≤ 638203; omega, by show S + _ ≤ 7181496; omega⟩ (fun H locs hM hPO hS => ?_)
  have hP := w_first hPO
  have hO := w_last hPO
  clear hPO
  refine lv_istore (lv' := [(6, .int bb), (5, .int t), (0, .ref b), (1, .ref (q (0))), (2, .ref (q2 (0))), (3, .ref o), (4, .int (nI (5 * j)))]) hx hb dL_law_1321 hl (by decide) rfl (fun ls hl => ?_)
  refine lv_aload_n hx hb dL_law_1323 rfl (lv_at hl 4 rfl) ?_
  refine l_cVi (As := []) (rest := []) (WO := gS 78 q (TX cy q) u ++ oW o cy _) hx hb hml hown hts hK hAM hM (hP.app hO) (l_app (l_dM hdT) (h_odis hoM)) hS (mX9_thrown (σ := v) (r := v 0 0) (u := v) l hJ2 rfl) (cwV 0 hts gL_law_X9_thrown rfl rfl rfl nVX9_thrown ⟨Nat.le_of_ble_eq_true rfl, Nat.le_of_ble_eq_true rfl⟩) (g_recv hK hM kk_Mod ce_Mod rfl) rfl hl.1 rfl (Nat.le_of_ble_eq_true rfl) dL_law_1324 ⟨by show C + _ ≤ 638203; omega, by show S + _ ≤ 7181496; omega⟩ (fun H locs hM hPO hS => ?_)
  have hP := w_first hPO
  have hO := w_last hPO
  clear hPO
  refine lv_iload hx hb dL_law_1327 (lv_at hl 1 rfl) ?_
  refine lv_icmp_eq (tgt := 1334) hx hb dL_law_1329 (by decide) (fun _ => ?_) (fun h => absurd ht h)
  refine lv_iload hx hb dL_law_1334 (lv_at hl 1 rfl) ?_
  by_cases ht0 : t = 0
  · have hzb := hcase ht0
    subst hzb
    refine lv_if_ne (tgt := 1351) hx hb dL_law_1336 (by decide) (fun h => absurd ht0 h) (fun _ => ?_)
    refine lv_aload_n hx hb dL_law_1339 rfl (lv_at hl 5 rfl) ?_
    refine lv_iconst (v := (0 : Int32)) hx hb dL_law_1340 (by decide) ?_
    refine va_lald hx hb hK hO 0 9 rfl rfl (i := (0 : Int32)) (vin_of (by decide)) dL_law_1341 ?_
    refine lv_iload hx hb dL_law_1342 (lv_at hl 0 rfl) ?_
    refine lv_i2l hx hb dL_law_1344 rfl ?_
    refine W.lcmp hx hb dL_law_1345 ?_
    have hcmp : lg_cmp (lo (.inl bb) fo ((0 : Int32).toNatClampNeg)) bb.toInt64 = 0 := l_cmp0 _
    refine lv_if_eq (tgt := 1351) hx hb dL_law_1346 (by decide) (fun _ => ?_) (fun h => absurd hcmp h)
    refine lv_goto (tgt := 2410) hx hb dL_law_1351 (by decide) ?_
    have hl9 := lv_sub hl [2, 3, 4, 5, 6] (l' := [(0, .ref b), (1, .ref (q (0))), (2, .ref (q2 (0))), (3, .ref o), (4, .int (nI (5 * j)))]) rfl
    exact W.widen (k := C + 4) (n := S + 24) (by omega) (by omega) (kk _ _ _ _ hP hM hO hS hl9)
  · refine lv_if_ne (tgt := 1351) hx hb dL_law_1336 (by decide) (fun _ => ?_) (fun h => absurd h ht0)
    refine lv_goto (tgt := 2410) hx hb dL_law_1351 (by decide) ?_
    have hl9 := lv_sub hl [2, 3, 4, 5, 6] (l' := [(0, .ref b), (1, .ref (q (0))), (2, .ref (q2 (0))), (3, .ref o), (4, .int (nI (5 * j)))]) rfl
    exact W.widen (k := C + 4) (n := S + 24) (by omega) (by omega) (kk _ _ _ _ hP hM hO hS hl9)
set_option maxHeartbeats 4000000 in
set_option maxRecDepth 100000 in
theorem lc_read {p : Program} {l : Launch} {e : Env} {s : State} {m : MethodId} {args : Array Value} {below : List Frame} {meth : Method} {c : Code} {Q : State → Prop} {b L : Nat} {xs : Nat → Int32} {D : va_G} {cy : Nat → ClassId} {q q2 : Nat → Nat} {o : Nat} (F0_ : lF p l s m args c b L xs D cy q q2 o) {σ μ : TS} {fo : Nat → Int64} {H : Heap} {locs : List Loc} (hP : va_P D vwCl (gS 78 q (TX cy q) σ) H) (hM : va_P D vwCl (gS 39 q2 (MX cy q2) μ) H) (hO : va_P D vwCl (oW o cy fo) H) (hS : va_S (fun a => s.heap.size ≤ a) s.heap H locs) {j : Nat} (hj : 5 * j + 5 ≤ L) {ls : Array Slot} (hl : lv_has ls 9 [(0, .ref b), (1, .ref (q (0))), (2, .ref (q2 (0))), (3, .ref o), (4, .int (nI (5 * j)))]) {u v : TS} {z : Int32 ⊕ Nat} {bb : Int32} (h8 : sX8_read (xs (5 * j + 1)) (xs (5 * j + 2)) (xs (5 * j + 3)) (xs (5 * j + 4)) σ = some (z, u)) (h9 : sX9_read (xs (5 * j + 1)) (xs (5 * j + 2)) (xs (5 * j + 3)) (xs (5 * j + 4)) μ = some (bb, v)) (hI : okI [(1, 1), (2, 2)] z bb (v 0 0)) {C S : Nat} (hC : C + 4 ≤ 638203) (hSl : S + 24 ≤ 7181496) (kk : ∀ (fo1 : Nat → Int64) (H1 : Heap) (locs1 : List Loc) (ls1 : Array Slot), va_P D vwCl (gS 78 q (TX cy q) u) H1 → va_P D vwCl (gS 39 q2 (MX cy q2) v) H1 → va_P D vwCl (oW o cy fo1) H1 → va_S (fun a => s.heap.size ≤ a) s.heap H1 locs1 → lv_has ls1 9 [(0, .ref b), (1, .ref (q (0))), (2, .ref (q2 (0))), (3, .ref o), (4, .int (nI (5 * j)))] → W p l e room_1 s m args below meth c H1 locs1 (C + 4) (S + 24) Q (F0 m 2410 ls1 [])) : W p l e room_1 s m args below meth c H locs C S Q (F0 m 1354 ls []) := by
  obtain ⟨hx, hb, hml, hown, hts, hXs, hbl, hL0, hK, hX, hNt, hlf, hJ, hJ2, hAT, hAM, hAo, hdis, hoT, hoM⟩ := F0_
  have hAO : ∀ a, hA q o a → s.heap.size ≤ a := fun a h => h.elim (fun h => hAT a h) (fun h => by rw [h]; exact hAo)
  have hdM : ∀ a, gA 39 q2 a → ¬ hA q o a := fun a h h2 => h2.elim (fun h3 => hdis a h h3) (fun h3 => hoM (by rw [← h3]; exact h))
  have hdT : ∀ a, gA 78 q a → ¬ gA 39 q2 a := fun a h h2 => hdis a h2 h
  obtain ⟨t, hz, ht, hcase⟩ := hI
  refine lv_aload_n hx hb dL_law_1354 rfl (lv_at hl 1 rfl) ?_
  refine lv_aload_n hx hb dL_law_1355 rfl (lv_at hl 0 rfl) ?_
  refine lv_iload hx hb dL_law_1356 (lv_at hl 4 rfl) ?_
  refine lv_iconst (v := (1 : Int32)) hx hb dL_law_1358 (by decide) ?_
  refine lv_iadd hx hb dL_law_1359 ?_
  refine l_sld hx hb hXs hbl hS hL0 1 (by decide) (by omega) dL_law_1360 ?_
  refine lv_aload_n hx hb dL_law_1361 rfl (lv_at hl 0 rfl) ?_
  refine lv_iload hx hb dL_law_1362 (lv_at hl 4 rfl) ?_
  refine lv_iconst (v := (2 : Int32)) hx hb dL_law_1364 (by decide) ?_
  refine lv_iadd hx hb dL_law_1365 ?_
  refine l_sld hx hb hXs hbl hS hL0 2 (by decide) (by omega) dL_law_1366 ?_
  refine lv_aload_n hx hb dL_law_1367 rfl (lv_at hl 0 rfl) ?_
  refine lv_iload hx hb dL_law_1368 (lv_at hl 4 rfl) ?_
  refine lv_iconst (v := (3 : Int32)) hx hb dL_law_1370 (by decide) ?_
  refine lv_iadd hx hb dL_law_1371 ?_
  refine l_sld hx hb hXs hbl hS hL0 3 (by decide) (by omega) dL_law_1372 ?_
  refine lv_aload_n hx hb dL_law_1373 rfl (lv_at hl 0 rfl) ?_
  refine lv_iload hx hb dL_law_1374 (lv_at hl 4 rfl) ?_
  refine lv_iconst (v := (4 : Int32)) hx hb dL_law_1376 (by decide) ?_
  refine lv_iadd hx hb dL_law_1377 ?_
  refine l_sld hx hb hXs hbl hS hL0 4 (by decide) (by omega) dL_law_1378 ?_
  refine lv_aload_n hx hb dL_law_1379 rfl (lv_at hl 3 rfl) ?_
  refine l_cS (As := [.ref (q (0)), .int (xs (5 * j + 1)), .int (xs (5 * j + 2)), .int (xs (5 * j + 3)), .int (xs (5 * j + 4)), .ref o]) (rest := []) (WO := gS 39 q2 (MX cy q2) μ) hx hb hml hown hts hK hX hNt hAO hP hO hM (l_dM hdM) hS (mL_read l hlf hJ hoT h8 hz) (vx_cwSW 6 hts gL_law_L_read rfl rfl rfl (by decide +kernel) ⟨Nat.le_of_ble_eq_true rfl, Nat.le_of_ble_eq_true rfl⟩) rfl hl.1 rfl (Nat.le_of_ble_eq_true rfl) dL_law_1380 ⟨by show C + _ ≤ 638203; omega, by show S + _ ≤ 7181496; omega⟩ (fun H locs hP hO hM hS => ?_)
  refine lv_istore (lv' := [(5, .int t), (0, .ref b), (1, .ref (q (0))), (2, .ref (q2 (0))), (3, .ref o), (4, .int (nI (5 * j)))]) hx hb dL_law_1383 hl (by decide) rfl (fun ls hl => ?_)
  refine lv_aload_n hx hb dL_law_1385 rfl (lv_at hl 3 rfl) ?_
  refine lv_aload_n hx hb dL_law_1386 rfl (lv_at hl 1 rfl) ?_
  refine lv_iload hx hb dL_law_1387 (lv_at hl 5 rfl) ?_
  refine lv_iconst (v := (1 : Int32)) hx hb dL_law_1389 (by decide) ?_
  refine lv_iadd hx hb dL_law_1390 ?_
  refine l_sld hx hb hXs hbl hS hL0 1 (by decide) (by omega) dL_law_1391 ?_
  refine lv_aload_n hx hb dL_law_1392 rfl (lv_at hl 1 rfl) ?_
  refine lv_iload hx hb dL_law_1393 (lv_at hl 5 rfl) ?_
  refine lv_iconst (v := (2 : Int32)) hx hb dL_law_1395 (by decide) ?_
  refine lv_iadd hx hb dL_law_1396 ?_
  refine l_sld hx hb hXs hbl hS hL0 2 (by decide) (by omega) dL_law_1397 ?_
  refine lv_aload_n hx hb dL_law_1398 rfl (lv_at hl 1 rfl) ?_
  refine lv_iload hx hb dL_law_1399 (lv_at hl 5 rfl) ?_
  refine lv_iconst (v := (3 : Int32)) hx hb dL_law_1401 (by decide) ?_
  refine lv_iadd hx hb dL_law_1402 ?_
  refine l_sld hx hb hXs hbl hS hL0 3 (by decide) (by omega) dL_law_1403 ?_
  refine lv_aload_n hx hb dL_law_1404 rfl (lv_at hl 1 rfl) ?_
  refine lv_iload hx hb dL_law_1405 (lv_at hl 5 rfl) ?_
  refine lv_iconst (v := (4 : Int32)) hx hb dL_law_1407 (by decide) ?_
  refine lv_iadd hx hb dL_law_1408 ?_
  refine l_sld hx hb hXs hbl hS hL0 4 (by decide) (by omega) dL_law_1409 ?_
  refine l_cVi (As := [.int (xs (5 * j + 1)), .int (xs (5 * j + 2)), .int (xs (5 * j + 3)), .int (xs (5 * j + 4))]) (rest := []) (WO := gS 78 q (TX cy q) u ++ oW o cy _) hx hb hml hown hts hK hAM hM (hP.app hO) (l_app (l_dM hdT) (h_odis hoM)) hS (mX9_read l hJ2 h9) (cwV 4 hts gL_law_X9_read rfl rfl rfl nVX9_read ⟨Nat.le_of_ble_eq_true rfl, Nat.le_of_ble_eq_true rfl⟩) (g_recv hK hM kk_Mod ce_Mod rfl) rfl hl.1 rfl (Nat.le_of_ble_eq_true rfl) dL_law_1410 ⟨by show C + _ ≤ 638203; omega, by show S + _ ≤ 7181496; omega⟩ (fun H locs hM hPO hS => ?_)
  have hP := w_first hPO
  have hO := w_last hPO
  clear hPO
  refine lv_istore (lv' := [(6, .int bb), (5, .int t), (0, .ref b), (1, .ref (q (0))), (2, .ref (q2 (0))), (3, .ref o), (4, .int (nI (5 * j)))]) hx hb dL_law_1413 hl (by decide) rfl (fun ls hl => ?_)
  refine lv_aload_n hx hb dL_law_1415 rfl (lv_at hl 4 rfl) ?_
  refine l_cVi (As := []) (rest := []) (WO := gS 78 q (TX cy q) u ++ oW o cy _) hx hb hml hown hts hK hAM hM (hP.app hO) (l_app (l_dM hdT) (h_odis hoM)) hS (mX9_thrown (σ := v) (r := v 0 0) (u := v) l hJ2 rfl) (cwV 0 hts gL_law_X9_thrown rfl rfl rfl nVX9_thrown ⟨Nat.le_of_ble_eq_true rfl, Nat.le_of_ble_eq_true rfl⟩) (g_recv hK hM kk_Mod ce_Mod rfl) rfl hl.1 rfl (Nat.le_of_ble_eq_true rfl) dL_law_1416 ⟨by show C + _ ≤ 638203; omega, by show S + _ ≤ 7181496; omega⟩ (fun H locs hM hPO hS => ?_)
  have hP := w_first hPO
  have hO := w_last hPO
  clear hPO
  refine lv_iload hx hb dL_law_1419 (lv_at hl 1 rfl) ?_
  refine lv_icmp_eq (tgt := 1426) hx hb dL_law_1421 (by decide) (fun _ => ?_) (fun h => absurd ht h)
  refine lv_iload hx hb dL_law_1426 (lv_at hl 1 rfl) ?_
  by_cases ht0 : t = 0
  · have hzb := hcase ht0
    subst hzb
    refine lv_if_ne (tgt := 1443) hx hb dL_law_1428 (by decide) (fun h => absurd ht0 h) (fun _ => ?_)
    refine lv_aload_n hx hb dL_law_1431 rfl (lv_at hl 5 rfl) ?_
    refine lv_iconst (v := (0 : Int32)) hx hb dL_law_1432 (by decide) ?_
    refine va_lald hx hb hK hO 0 9 rfl rfl (i := (0 : Int32)) (vin_of (by decide)) dL_law_1433 ?_
    refine lv_iload hx hb dL_law_1434 (lv_at hl 0 rfl) ?_
    refine lv_i2l hx hb dL_law_1436 rfl ?_
    refine W.lcmp hx hb dL_law_1437 ?_
    have hcmp : lg_cmp (lo (.inl bb) fo ((0 : Int32).toNatClampNeg)) bb.toInt64 = 0 := l_cmp0 _
    refine lv_if_eq (tgt := 1443) hx hb dL_law_1438 (by decide) (fun _ => ?_) (fun h => absurd hcmp h)
    refine lv_goto (tgt := 2410) hx hb dL_law_1443 (by decide) ?_
    have hl9 := lv_sub hl [2, 3, 4, 5, 6] (l' := [(0, .ref b), (1, .ref (q (0))), (2, .ref (q2 (0))), (3, .ref o), (4, .int (nI (5 * j)))]) rfl
    exact W.widen (k := C + 4) (n := S + 24) (by omega) (by omega) (kk _ _ _ _ hP hM hO hS hl9)
  · refine lv_if_ne (tgt := 1443) hx hb dL_law_1428 (by decide) (fun _ => ?_) (fun h => absurd h ht0)
    refine lv_goto (tgt := 2410) hx hb dL_law_1443 (by decide) ?_
    have hl9 := lv_sub hl [2, 3, 4, 5, 6] (l' := [(0, .ref b), (1, .ref (q (0))), (2, .ref (q2 (0))), (3, .ref o), (4, .int (nI (5 * j)))]) rfl
    exact W.widen (k := C + 4) (n := S + 24) (by omega) (by omega) (kk _ _ _ _ hP hM hO hS hl9)
set_option maxHeartbeats 4000000 in
set_option maxRecDepth 100000 in
theorem lc_limit {p : Program} {l : Launch} {e : Env} {s : State} {m : MethodId} {args : Array Value} {below : List Frame} {meth : Method} {c : Code} {Q : State → Prop} {b L : Nat} {xs : Nat → Int32} {D : va_G} {cy : Nat → ClassId} {q q2 : Nat → Nat} {o : Nat} (F0_ : lF p l s m args c b L xs D cy q q2 o) {σ μ : TS} {fo : Nat → Int64} {H : Heap} {locs : List Loc} (hP : va_P D vwCl (gS 78 q (TX cy q) σ) H) (hM : va_P D vwCl (gS 39 q2 (MX cy q2) μ) H) (hO : va_P D vwCl (oW o cy fo) H) (hS : va_S (fun a => s.heap.size ≤ a) s.heap H locs) {j : Nat} (hj : 5 * j + 5 ≤ L) {ls : Array Slot} (hl : lv_has ls 9 [(0, .ref b), (1, .ref (q (0))), (2, .ref (q2 (0))), (3, .ref o), (4, .int (nI (5 * j)))]) {u v : TS} {z : Int32 ⊕ Nat} {bb : Int32} (h8 : sX8_limit (xs (5 * j + 1)) (xs (5 * j + 2)) σ = some (z, u)) (h9 : sX9_limit (xs (5 * j + 1)) (xs (5 * j + 2)) μ = some (bb, v)) (hI : okI [(1, 1), (2, 2)] z bb (v 0 0)) {C S : Nat} (hC : C + 4 ≤ 638203) (hSl : S + 24 ≤ 7181496) (kk : ∀ (fo1 : Nat → Int64) (H1 : Heap) (locs1 : List Loc) (ls1 : Array Slot), va_P D vwCl (gS 78 q (TX cy q) u) H1 → va_P D vwCl (gS 39 q2 (MX cy q2) v) H1 → va_P D vwCl (oW o cy fo1) H1 → va_S (fun a => s.heap.size ≤ a) s.heap H1 locs1 → lv_has ls1 9 [(0, .ref b), (1, .ref (q (0))), (2, .ref (q2 (0))), (3, .ref o), (4, .int (nI (5 * j)))] → W p l e room_1 s m args below meth c H1 locs1 (C + 4) (S + 24) Q (F0 m 2410 ls1 [])) : W p l e room_1 s m args below meth c H locs C S Q (F0 m 1446 ls []) := by
  obtain ⟨hx, hb, hml, hown, hts, hXs, hbl, hL0, hK, hX, hNt, hlf, hJ, hJ2, hAT, hAM, hAo, hdis, hoT, hoM⟩ := F0_
  have hAO : ∀ a, hA q o a → s.heap.size ≤ a := fun a h => h.elim (fun h => hAT a h) (fun h => by rw [h]; exact hAo)
  have hdM : ∀ a, gA 39 q2 a → ¬ hA q o a := fun a h h2 => h2.elim (fun h3 => hdis a h h3) (fun h3 => hoM (by rw [← h3]; exact h))
  have hdT : ∀ a, gA 78 q a → ¬ gA 39 q2 a := fun a h h2 => hdis a h2 h
  obtain ⟨t, hz, ht, hcase⟩ := hI
  refine lv_aload_n hx hb dL_law_1446 rfl (lv_at hl 1 rfl) ?_
  refine lv_aload_n hx hb dL_law_1447 rfl (lv_at hl 0 rfl) ?_
  refine lv_iload hx hb dL_law_1448 (lv_at hl 4 rfl) ?_
  refine lv_iconst (v := (1 : Int32)) hx hb dL_law_1450 (by decide) ?_
  refine lv_iadd hx hb dL_law_1451 ?_
  refine l_sld hx hb hXs hbl hS hL0 1 (by decide) (by omega) dL_law_1452 ?_
  refine lv_aload_n hx hb dL_law_1453 rfl (lv_at hl 0 rfl) ?_
  refine lv_iload hx hb dL_law_1454 (lv_at hl 4 rfl) ?_
  refine lv_iconst (v := (2 : Int32)) hx hb dL_law_1456 (by decide) ?_
  refine lv_iadd hx hb dL_law_1457 ?_
  refine l_sld hx hb hXs hbl hS hL0 2 (by decide) (by omega) dL_law_1458 ?_
  refine lv_aload_n hx hb dL_law_1459 rfl (lv_at hl 3 rfl) ?_
  refine l_cS (As := [.ref (q (0)), .int (xs (5 * j + 1)), .int (xs (5 * j + 2)), .ref o]) (rest := []) (WO := gS 39 q2 (MX cy q2) μ) hx hb hml hown hts hK hX hNt hAO hP hO hM (l_dM hdM) hS (mL_limit l hlf hJ hoT h8 hz) (vx_cwSW 4 hts gL_law_L_limit rfl rfl rfl (by decide +kernel) ⟨Nat.le_of_ble_eq_true rfl, Nat.le_of_ble_eq_true rfl⟩) rfl hl.1 rfl (Nat.le_of_ble_eq_true rfl) dL_law_1460 ⟨by show C + _ ≤ 638203; omega, by show S + _ ≤ 7181496; omega⟩ (fun H locs hP hO hM hS => ?_)
  refine lv_istore (lv' := [(5, .int t), (0, .ref b), (1, .ref (q (0))), (2, .ref (q2 (0))), (3, .ref o), (4, .int (nI (5 * j)))]) hx hb dL_law_1463 hl (by decide) rfl (fun ls hl => ?_)
  refine lv_aload_n hx hb dL_law_1465 rfl (lv_at hl 3 rfl) ?_
  refine lv_aload_n hx hb dL_law_1466 rfl (lv_at hl 1 rfl) ?_
  refine lv_iload hx hb dL_law_1467 (lv_at hl 5 rfl) ?_
  refine lv_iconst (v := (1 : Int32)) hx hb dL_law_1469 (by decide) ?_
  refine lv_iadd hx hb dL_law_1470 ?_
  refine l_sld hx hb hXs hbl hS hL0 1 (by decide) (by omega) dL_law_1471 ?_
  refine lv_aload_n hx hb dL_law_1472 rfl (lv_at hl 1 rfl) ?_
  refine lv_iload hx hb dL_law_1473 (lv_at hl 5 rfl) ?_
  refine lv_iconst (v := (2 : Int32)) hx hb dL_law_1475 (by decide) ?_
  refine lv_iadd hx hb dL_law_1476 ?_
  refine l_sld hx hb hXs hbl hS hL0 2 (by decide) (by omega) dL_law_1477 ?_
  refine l_cVi (As := [.int (xs (5 * j + 1)), .int (xs (5 * j + 2))]) (rest := []) (WO := gS 78 q (TX cy q) u ++ oW o cy _) hx hb hml hown hts hK hAM hM (hP.app hO) (l_app (l_dM hdT) (h_odis hoM)) hS (mX9_limit l hJ2 h9) (cwV 2 hts gL_law_X9_limit rfl rfl rfl nVX9_limit ⟨Nat.le_of_ble_eq_true rfl, Nat.le_of_ble_eq_true rfl⟩) (g_recv hK hM kk_Mod ce_Mod rfl) rfl hl.1 rfl (Nat.le_of_ble_eq_true rfl) dL_law_1478 ⟨by show C + _ ≤ 638203; omega, by show S + _ ≤ 7181496; omega⟩ (fun H locs hM hPO hS => ?_)
  have hP := w_first hPO
  have hO := w_last hPO
  clear hPO
  refine lv_istore (lv' := [(6, .int bb), (5, .int t), (0, .ref b), (1, .ref (q (0))), (2, .ref (q2 (0))), (3, .ref o), (4, .int (nI (5 * j)))]) hx hb dL_law_1481 hl (by decide) rfl (fun ls hl => ?_)
  refine lv_aload_n hx hb dL_law_1483 rfl (lv_at hl 4 rfl) ?_
  refine l_cVi (As := []) (rest := []) (WO := gS 78 q (TX cy q) u ++ oW o cy _) hx hb hml hown hts hK hAM hM (hP.app hO) (l_app (l_dM hdT) (h_odis hoM)) hS (mX9_thrown (σ := v) (r := v 0 0) (u := v) l hJ2 rfl) (cwV 0 hts gL_law_X9_thrown rfl rfl rfl nVX9_thrown ⟨Nat.le_of_ble_eq_true rfl, Nat.le_of_ble_eq_true rfl⟩) (g_recv hK hM kk_Mod ce_Mod rfl) rfl hl.1 rfl (Nat.le_of_ble_eq_true rfl) dL_law_1484 ⟨by show C + _ ≤ 638203; omega, by show S + _ ≤ 7181496; omega⟩ (fun H locs hM hPO hS => ?_)
  have hP := w_first hPO
  have hO := w_last hPO
  clear hPO
  refine lv_iload hx hb dL_law_1487 (lv_at hl 1 rfl) ?_
  refine lv_icmp_eq (tgt := 1494) hx hb dL_law_1489 (by decide) (fun _ => ?_) (fun h => absurd ht h)
  refine lv_iload hx hb dL_law_1494 (lv_at hl 1 rfl) ?_
  by_cases ht0 : t = 0
  · have hzb := hcase ht0
    subst hzb
    refine lv_if_ne (tgt := 1511) hx hb dL_law_1496 (by decide) (fun h => absurd ht0 h) (fun _ => ?_)
    refine lv_aload_n hx hb dL_law_1499 rfl (lv_at hl 5 rfl) ?_
    refine lv_iconst (v := (0 : Int32)) hx hb dL_law_1500 (by decide) ?_
    refine va_lald hx hb hK hO 0 9 rfl rfl (i := (0 : Int32)) (vin_of (by decide)) dL_law_1501 ?_
    refine lv_iload hx hb dL_law_1502 (lv_at hl 0 rfl) ?_
    refine lv_i2l hx hb dL_law_1504 rfl ?_
    refine W.lcmp hx hb dL_law_1505 ?_
    have hcmp : lg_cmp (lo (.inl bb) fo ((0 : Int32).toNatClampNeg)) bb.toInt64 = 0 := l_cmp0 _
    refine lv_if_eq (tgt := 1511) hx hb dL_law_1506 (by decide) (fun _ => ?_) (fun h => absurd hcmp h)
    refine lv_goto (tgt := 2410) hx hb dL_law_1511 (by decide) ?_
    have hl9 := lv_sub hl [2, 3, 4, 5, 6] (l' := [(0, .ref b), (1, .ref (q (0))), (2, .ref (q2 (0))), (3, .ref o), (4, .int (nI (5 * j)))]) rfl
    exact W.widen (k := C + 4) (n := S + 24) (by omega) (by omega) (kk _ _ _ _ hP hM hO hS hl9)
  · refine lv_if_ne (tgt := 1511) hx hb dL_law_1496 (by decide) (fun _ => ?_) (fun h => absurd h ht0)
    refine lv_goto (tgt := 2410) hx hb dL_law_1511 (by decide) ?_
    have hl9 := lv_sub hl [2, 3, 4, 5, 6] (l' := [(0, .ref b), (1, .ref (q (0))), (2, .ref (q2 (0))), (3, .ref o), (4, .int (nI (5 * j)))]) rfl
    exact W.widen (k := C + 4) (n := S + 24) (by omega) (by omega) (kk _ _ _ _ hP hM hO hS hl9)
set_option maxHeartbeats 4000000 in
set_option maxRecDepth 100000 in
theorem lc_agreed {p : Program} {l : Launch} {e : Env} {s : State} {m : MethodId} {args : Array Value} {below : List Frame} {meth : Method} {c : Code} {Q : State → Prop} {b L : Nat} {xs : Nat → Int32} {D : va_G} {cy : Nat → ClassId} {q q2 : Nat → Nat} {o : Nat} (F0_ : lF p l s m args c b L xs D cy q q2 o) {σ μ : TS} {fo : Nat → Int64} {H : Heap} {locs : List Loc} (hP : va_P D vwCl (gS 78 q (TX cy q) σ) H) (hM : va_P D vwCl (gS 39 q2 (MX cy q2) μ) H) (hO : va_P D vwCl (oW o cy fo) H) (hS : va_S (fun a => s.heap.size ≤ a) s.heap H locs) {j : Nat} (hj : 5 * j + 5 ≤ L) {ls : Array Slot} (hl : lv_has ls 9 [(0, .ref b), (1, .ref (q (0))), (2, .ref (q2 (0))), (3, .ref o), (4, .int (nI (5 * j)))]) {u v : TS} {z : Int32 ⊕ Nat} {bb : Int32} (h8 : sX8_agreed (xs (5 * j + 1)) σ = some (z, u)) (h9 : sX9_agreed (xs (5 * j + 1)) μ = some (bb, v)) (hI : okI [(1, 1)] z bb (v 0 0)) {C S : Nat} (hC : C + 4 ≤ 638203) (hSl : S + 24 ≤ 7181496) (kk : ∀ (fo1 : Nat → Int64) (H1 : Heap) (locs1 : List Loc) (ls1 : Array Slot), va_P D vwCl (gS 78 q (TX cy q) u) H1 → va_P D vwCl (gS 39 q2 (MX cy q2) v) H1 → va_P D vwCl (oW o cy fo1) H1 → va_S (fun a => s.heap.size ≤ a) s.heap H1 locs1 → lv_has ls1 9 [(0, .ref b), (1, .ref (q (0))), (2, .ref (q2 (0))), (3, .ref o), (4, .int (nI (5 * j)))] → W p l e room_1 s m args below meth c H1 locs1 (C + 4) (S + 24) Q (F0 m 2410 ls1 [])) : W p l e room_1 s m args below meth c H locs C S Q (F0 m 1514 ls []) := by
  obtain ⟨hx, hb, hml, hown, hts, hXs, hbl, hL0, hK, hX, hNt, hlf, hJ, hJ2, hAT, hAM, hAo, hdis, hoT, hoM⟩ := F0_
  have hAO : ∀ a, hA q o a → s.heap.size ≤ a := fun a h => h.elim (fun h => hAT a h) (fun h => by rw [h]; exact hAo)
  have hdM : ∀ a, gA 39 q2 a → ¬ hA q o a := fun a h h2 => h2.elim (fun h3 => hdis a h h3) (fun h3 => hoM (by rw [← h3]; exact h))
  have hdT : ∀ a, gA 78 q a → ¬ gA 39 q2 a := fun a h h2 => hdis a h2 h
  obtain ⟨t, hz, ht, hcase⟩ := hI
  refine lv_aload_n hx hb dL_law_1514 rfl (lv_at hl 1 rfl) ?_
  refine lv_aload_n hx hb dL_law_1515 rfl (lv_at hl 0 rfl) ?_
  refine lv_iload hx hb dL_law_1516 (lv_at hl 4 rfl) ?_
  refine lv_iconst (v := (1 : Int32)) hx hb dL_law_1518 (by decide) ?_
  refine lv_iadd hx hb dL_law_1519 ?_
  refine l_sld hx hb hXs hbl hS hL0 1 (by decide) (by omega) dL_law_1520 ?_
  refine lv_aload_n hx hb dL_law_1521 rfl (lv_at hl 3 rfl) ?_
  refine l_cS (As := [.ref (q (0)), .int (xs (5 * j + 1)), .ref o]) (rest := []) (WO := gS 39 q2 (MX cy q2) μ) hx hb hml hown hts hK hX hNt hAO hP hO hM (l_dM hdM) hS (mL_agreed l hlf hJ hoT h8 hz) (vx_cwSW 3 hts gL_law_L_agreed rfl rfl rfl (by decide +kernel) ⟨Nat.le_of_ble_eq_true rfl, Nat.le_of_ble_eq_true rfl⟩) rfl hl.1 rfl (Nat.le_of_ble_eq_true rfl) dL_law_1522 ⟨by show C + _ ≤ 638203; omega, by show S + _ ≤ 7181496; omega⟩ (fun H locs hP hO hM hS => ?_)
  refine lv_istore (lv' := [(5, .int t), (0, .ref b), (1, .ref (q (0))), (2, .ref (q2 (0))), (3, .ref o), (4, .int (nI (5 * j)))]) hx hb dL_law_1525 hl (by decide) rfl (fun ls hl => ?_)
  refine lv_aload_n hx hb dL_law_1527 rfl (lv_at hl 3 rfl) ?_
  refine lv_aload_n hx hb dL_law_1528 rfl (lv_at hl 1 rfl) ?_
  refine lv_iload hx hb dL_law_1529 (lv_at hl 5 rfl) ?_
  refine lv_iconst (v := (1 : Int32)) hx hb dL_law_1531 (by decide) ?_
  refine lv_iadd hx hb dL_law_1532 ?_
  refine l_sld hx hb hXs hbl hS hL0 1 (by decide) (by omega) dL_law_1533 ?_
  refine l_cVi (As := [.int (xs (5 * j + 1))]) (rest := []) (WO := gS 78 q (TX cy q) u ++ oW o cy _) hx hb hml hown hts hK hAM hM (hP.app hO) (l_app (l_dM hdT) (h_odis hoM)) hS (mX9_agreed l hJ2 h9) (cwV 1 hts gL_law_X9_agreed rfl rfl rfl nVX9_agreed ⟨Nat.le_of_ble_eq_true rfl, Nat.le_of_ble_eq_true rfl⟩) (g_recv hK hM kk_Mod ce_Mod rfl) rfl hl.1 rfl (Nat.le_of_ble_eq_true rfl) dL_law_1534 ⟨by show C + _ ≤ 638203; omega, by show S + _ ≤ 7181496; omega⟩ (fun H locs hM hPO hS => ?_)
  have hP := w_first hPO
  have hO := w_last hPO
  clear hPO
  refine lv_istore (lv' := [(6, .int bb), (5, .int t), (0, .ref b), (1, .ref (q (0))), (2, .ref (q2 (0))), (3, .ref o), (4, .int (nI (5 * j)))]) hx hb dL_law_1537 hl (by decide) rfl (fun ls hl => ?_)
  refine lv_aload_n hx hb dL_law_1539 rfl (lv_at hl 4 rfl) ?_
  refine l_cVi (As := []) (rest := []) (WO := gS 78 q (TX cy q) u ++ oW o cy _) hx hb hml hown hts hK hAM hM (hP.app hO) (l_app (l_dM hdT) (h_odis hoM)) hS (mX9_thrown (σ := v) (r := v 0 0) (u := v) l hJ2 rfl) (cwV 0 hts gL_law_X9_thrown rfl rfl rfl nVX9_thrown ⟨Nat.le_of_ble_eq_true rfl, Nat.le_of_ble_eq_true rfl⟩) (g_recv hK hM kk_Mod ce_Mod rfl) rfl hl.1 rfl (Nat.le_of_ble_eq_true rfl) dL_law_1540 ⟨by show C + _ ≤ 638203; omega, by show S + _ ≤ 7181496; omega⟩ (fun H locs hM hPO hS => ?_)
  have hP := w_first hPO
  have hO := w_last hPO
  clear hPO
  refine lv_iload hx hb dL_law_1543 (lv_at hl 1 rfl) ?_
  refine lv_icmp_eq (tgt := 1550) hx hb dL_law_1545 (by decide) (fun _ => ?_) (fun h => absurd ht h)
  refine lv_iload hx hb dL_law_1550 (lv_at hl 1 rfl) ?_
  by_cases ht0 : t = 0
  · have hzb := hcase ht0
    subst hzb
    refine lv_if_ne (tgt := 1567) hx hb dL_law_1552 (by decide) (fun h => absurd ht0 h) (fun _ => ?_)
    refine lv_aload_n hx hb dL_law_1555 rfl (lv_at hl 5 rfl) ?_
    refine lv_iconst (v := (0 : Int32)) hx hb dL_law_1556 (by decide) ?_
    refine va_lald hx hb hK hO 0 9 rfl rfl (i := (0 : Int32)) (vin_of (by decide)) dL_law_1557 ?_
    refine lv_iload hx hb dL_law_1558 (lv_at hl 0 rfl) ?_
    refine lv_i2l hx hb dL_law_1560 rfl ?_
    refine W.lcmp hx hb dL_law_1561 ?_
    have hcmp : lg_cmp (lo (.inl bb) fo ((0 : Int32).toNatClampNeg)) bb.toInt64 = 0 := l_cmp0 _
    refine lv_if_eq (tgt := 1567) hx hb dL_law_1562 (by decide) (fun _ => ?_) (fun h => absurd hcmp h)
    refine lv_goto (tgt := 2410) hx hb dL_law_1567 (by decide) ?_
    have hl9 := lv_sub hl [2, 3, 4, 5, 6] (l' := [(0, .ref b), (1, .ref (q (0))), (2, .ref (q2 (0))), (3, .ref o), (4, .int (nI (5 * j)))]) rfl
    exact W.widen (k := C + 4) (n := S + 24) (by omega) (by omega) (kk _ _ _ _ hP hM hO hS hl9)
  · refine lv_if_ne (tgt := 1567) hx hb dL_law_1552 (by decide) (fun _ => ?_) (fun h => absurd h ht0)
    refine lv_goto (tgt := 2410) hx hb dL_law_1567 (by decide) ?_
    have hl9 := lv_sub hl [2, 3, 4, 5, 6] (l' := [(0, .ref b), (1, .ref (q (0))), (2, .ref (q2 (0))), (3, .ref o), (4, .int (nI (5 * j)))]) rfl
    exact W.widen (k := C + 4) (n := S + 24) (by omega) (by omega) (kk _ _ _ _ hP hM hO hS hl9)
set_option maxHeartbeats 4000000 in
set_option maxRecDepth 100000 in
theorem lc_drift {p : Program} {l : Launch} {e : Env} {s : State} {m : MethodId} {args : Array Value} {below : List Frame} {meth : Method} {c : Code} {Q : State → Prop} {b L : Nat} {xs : Nat → Int32} {D : va_G} {cy : Nat → ClassId} {q q2 : Nat → Nat} {o : Nat} (F0_ : lF p l s m args c b L xs D cy q q2 o) {σ μ : TS} {fo : Nat → Int64} {H : Heap} {locs : List Loc} (hP : va_P D vwCl (gS 78 q (TX cy q) σ) H) (hM : va_P D vwCl (gS 39 q2 (MX cy q2) μ) H) (hO : va_P D vwCl (oW o cy fo) H) (hS : va_S (fun a => s.heap.size ≤ a) s.heap H locs) {j : Nat} (hj : 5 * j + 5 ≤ L) {ls : Array Slot} (hl : lv_has ls 9 [(0, .ref b), (1, .ref (q (0))), (2, .ref (q2 (0))), (3, .ref o), (4, .int (nI (5 * j)))]) {u v : TS} {z : Int32 ⊕ Nat} {bb : Int32} (h8 : sX8_drift (xs (5 * j + 1)) (xs (5 * j + 2)) σ = some (z, u)) (h9 : sX9_drift (xs (5 * j + 1)) (xs (5 * j + 2)) μ = some (bb, v)) (hI : okI [(1, 1), (2, 2)] z bb (v 0 0)) {C S : Nat} (hC : C + 4 ≤ 638203) (hSl : S + 24 ≤ 7181496) (kk : ∀ (fo1 : Nat → Int64) (H1 : Heap) (locs1 : List Loc) (ls1 : Array Slot), va_P D vwCl (gS 78 q (TX cy q) u) H1 → va_P D vwCl (gS 39 q2 (MX cy q2) v) H1 → va_P D vwCl (oW o cy fo1) H1 → va_S (fun a => s.heap.size ≤ a) s.heap H1 locs1 → lv_has ls1 9 [(0, .ref b), (1, .ref (q (0))), (2, .ref (q2 (0))), (3, .ref o), (4, .int (nI (5 * j)))] → W p l e room_1 s m args below meth c H1 locs1 (C + 4) (S + 24) Q (F0 m 2410 ls1 [])) : W p l e room_1 s m args below meth c H locs C S Q (F0 m 1570 ls []) := by
  obtain ⟨hx, hb, hml, hown, hts, hXs, hbl, hL0, hK, hX, hNt, hlf, hJ, hJ2, hAT, hAM, hAo, hdis, hoT, hoM⟩ := F0_
  have hAO : ∀ a, hA q o a → s.heap.size ≤ a := fun a h => h.elim (fun h => hAT a h) (fun h => by rw [h]; exact hAo)
  have hdM : ∀ a, gA 39 q2 a → ¬ hA q o a := fun a h h2 => h2.elim (fun h3 => hdis a h h3) (fun h3 => hoM (by rw [← h3]; exact h))
  have hdT : ∀ a, gA 78 q a → ¬ gA 39 q2 a := fun a h h2 => hdis a h2 h
  obtain ⟨t, hz, ht, hcase⟩ := hI
  refine lv_aload_n hx hb dL_law_1570 rfl (lv_at hl 1 rfl) ?_
  refine lv_aload_n hx hb dL_law_1571 rfl (lv_at hl 0 rfl) ?_
  refine lv_iload hx hb dL_law_1572 (lv_at hl 4 rfl) ?_
  refine lv_iconst (v := (1 : Int32)) hx hb dL_law_1574 (by decide) ?_
  refine lv_iadd hx hb dL_law_1575 ?_
  refine l_sld hx hb hXs hbl hS hL0 1 (by decide) (by omega) dL_law_1576 ?_
  refine lv_aload_n hx hb dL_law_1577 rfl (lv_at hl 0 rfl) ?_
  refine lv_iload hx hb dL_law_1578 (lv_at hl 4 rfl) ?_
  refine lv_iconst (v := (2 : Int32)) hx hb dL_law_1580 (by decide) ?_
  refine lv_iadd hx hb dL_law_1581 ?_
  refine l_sld hx hb hXs hbl hS hL0 2 (by decide) (by omega) dL_law_1582 ?_
  refine lv_aload_n hx hb dL_law_1583 rfl (lv_at hl 3 rfl) ?_
  refine l_cS (As := [.ref (q (0)), .int (xs (5 * j + 1)), .int (xs (5 * j + 2)), .ref o]) (rest := []) (WO := gS 39 q2 (MX cy q2) μ) hx hb hml hown hts hK hX hNt hAO hP hO hM (l_dM hdM) hS (mL_drift l hlf hJ hoT h8 hz) (vx_cwSW 4 hts gL_law_L_drift rfl rfl rfl (by decide +kernel) ⟨Nat.le_of_ble_eq_true rfl, Nat.le_of_ble_eq_true rfl⟩) rfl hl.1 rfl (Nat.le_of_ble_eq_true rfl) dL_law_1584 ⟨by show C + _ ≤ 638203; omega, by show S + _ ≤ 7181496; omega⟩ (fun H locs hP hO hM hS => ?_)
  refine lv_istore (lv' := [(5, .int t), (0, .ref b), (1, .ref (q (0))), (2, .ref (q2 (0))), (3, .ref o), (4, .int (nI (5 * j)))]) hx hb dL_law_1587 hl (by decide) rfl (fun ls hl => ?_)
  refine lv_aload_n hx hb dL_law_1589 rfl (lv_at hl 3 rfl) ?_
  refine lv_aload_n hx hb dL_law_1590 rfl (lv_at hl 1 rfl) ?_
  refine lv_iload hx hb dL_law_1591 (lv_at hl 5 rfl) ?_
  refine lv_iconst (v := (1 : Int32)) hx hb dL_law_1593 (by decide) ?_
  refine lv_iadd hx hb dL_law_1594 ?_
  refine l_sld hx hb hXs hbl hS hL0 1 (by decide) (by omega) dL_law_1595 ?_
  refine lv_aload_n hx hb dL_law_1596 rfl (lv_at hl 1 rfl) ?_
  refine lv_iload hx hb dL_law_1597 (lv_at hl 5 rfl) ?_
  refine lv_iconst (v := (2 : Int32)) hx hb dL_law_1599 (by decide) ?_
  refine lv_iadd hx hb dL_law_1600 ?_
  refine l_sld hx hb hXs hbl hS hL0 2 (by decide) (by omega) dL_law_1601 ?_
  refine l_cVi (As := [.int (xs (5 * j + 1)), .int (xs (5 * j + 2))]) (rest := []) (WO := gS 78 q (TX cy q) u ++ oW o cy _) hx hb hml hown hts hK hAM hM (hP.app hO) (l_app (l_dM hdT) (h_odis hoM)) hS (mX9_drift l hJ2 h9) (cwV 2 hts gL_law_X9_drift rfl rfl rfl nVX9_drift ⟨Nat.le_of_ble_eq_true rfl, Nat.le_of_ble_eq_true rfl⟩) (g_recv hK hM kk_Mod ce_Mod rfl) rfl hl.1 rfl (Nat.le_of_ble_eq_true rfl) dL_law_1602 ⟨by show C + _ ≤ 638203; omega, by show S + _ ≤ 7181496; omega⟩ (fun H locs hM hPO hS => ?_)
  have hP := w_first hPO
  have hO := w_last hPO
  clear hPO
  refine lv_istore (lv' := [(6, .int bb), (5, .int t), (0, .ref b), (1, .ref (q (0))), (2, .ref (q2 (0))), (3, .ref o), (4, .int (nI (5 * j)))]) hx hb dL_law_1605 hl (by decide) rfl (fun ls hl => ?_)
  refine lv_aload_n hx hb dL_law_1607 rfl (lv_at hl 4 rfl) ?_
  refine l_cVi (As := []) (rest := []) (WO := gS 78 q (TX cy q) u ++ oW o cy _) hx hb hml hown hts hK hAM hM (hP.app hO) (l_app (l_dM hdT) (h_odis hoM)) hS (mX9_thrown (σ := v) (r := v 0 0) (u := v) l hJ2 rfl) (cwV 0 hts gL_law_X9_thrown rfl rfl rfl nVX9_thrown ⟨Nat.le_of_ble_eq_true rfl, Nat.le_of_ble_eq_true rfl⟩) (g_recv hK hM kk_Mod ce_Mod rfl) rfl hl.1 rfl (Nat.le_of_ble_eq_true rfl) dL_law_1608 ⟨by show C + _ ≤ 638203; omega, by show S + _ ≤ 7181496; omega⟩ (fun H locs hM hPO hS => ?_)
  have hP := w_first hPO
  have hO := w_last hPO
  clear hPO
  refine lv_iload hx hb dL_law_1611 (lv_at hl 1 rfl) ?_
  refine lv_icmp_eq (tgt := 1618) hx hb dL_law_1613 (by decide) (fun _ => ?_) (fun h => absurd ht h)
  refine lv_iload hx hb dL_law_1618 (lv_at hl 1 rfl) ?_
  by_cases ht0 : t = 0
  · have hzb := hcase ht0
    subst hzb
    refine lv_if_ne (tgt := 1635) hx hb dL_law_1620 (by decide) (fun h => absurd ht0 h) (fun _ => ?_)
    refine lv_aload_n hx hb dL_law_1623 rfl (lv_at hl 5 rfl) ?_
    refine lv_iconst (v := (0 : Int32)) hx hb dL_law_1624 (by decide) ?_
    refine va_lald hx hb hK hO 0 9 rfl rfl (i := (0 : Int32)) (vin_of (by decide)) dL_law_1625 ?_
    refine lv_iload hx hb dL_law_1626 (lv_at hl 0 rfl) ?_
    refine lv_i2l hx hb dL_law_1628 rfl ?_
    refine W.lcmp hx hb dL_law_1629 ?_
    have hcmp : lg_cmp (lo (.inl bb) fo ((0 : Int32).toNatClampNeg)) bb.toInt64 = 0 := l_cmp0 _
    refine lv_if_eq (tgt := 1635) hx hb dL_law_1630 (by decide) (fun _ => ?_) (fun h => absurd hcmp h)
    refine lv_goto (tgt := 2410) hx hb dL_law_1635 (by decide) ?_
    have hl9 := lv_sub hl [2, 3, 4, 5, 6] (l' := [(0, .ref b), (1, .ref (q (0))), (2, .ref (q2 (0))), (3, .ref o), (4, .int (nI (5 * j)))]) rfl
    exact W.widen (k := C + 4) (n := S + 24) (by omega) (by omega) (kk _ _ _ _ hP hM hO hS hl9)
  · refine lv_if_ne (tgt := 1635) hx hb dL_law_1620 (by decide) (fun _ => ?_) (fun h => absurd h ht0)
    refine lv_goto (tgt := 2410) hx hb dL_law_1635 (by decide) ?_
    have hl9 := lv_sub hl [2, 3, 4, 5, 6] (l' := [(0, .ref b), (1, .ref (q (0))), (2, .ref (q2 (0))), (3, .ref o), (4, .int (nI (5 * j)))]) rfl
    exact W.widen (k := C + 4) (n := S + 24) (by omega) (by omega) (kk _ _ _ _ hP hM hO hS hl9)
set_option maxHeartbeats 4000000 in
set_option maxRecDepth 100000 in
theorem lc_lie {p : Program} {l : Launch} {e : Env} {s : State} {m : MethodId} {args : Array Value} {below : List Frame} {meth : Method} {c : Code} {Q : State → Prop} {b L : Nat} {xs : Nat → Int32} {D : va_G} {cy : Nat → ClassId} {q q2 : Nat → Nat} {o : Nat} (F0_ : lF p l s m args c b L xs D cy q q2 o) {σ μ : TS} {fo : Nat → Int64} {H : Heap} {locs : List Loc} (hP : va_P D vwCl (gS 78 q (TX cy q) σ) H) (hM : va_P D vwCl (gS 39 q2 (MX cy q2) μ) H) (hO : va_P D vwCl (oW o cy fo) H) (hS : va_S (fun a => s.heap.size ≤ a) s.heap H locs) {j : Nat} (hj : 5 * j + 5 ≤ L) {ls : Array Slot} (hl : lv_has ls 9 [(0, .ref b), (1, .ref (q (0))), (2, .ref (q2 (0))), (3, .ref o), (4, .int (nI (5 * j)))]) {u v : TS} {z : Int32 ⊕ Nat} {bb : Int32} (h8 : sX8_lie (xs (5 * j + 1)) (xs (5 * j + 2)) (xs (5 * j + 3)) σ = some (z, u)) (h9 : sX9_lie (xs (5 * j + 1)) (xs (5 * j + 2)) (xs (5 * j + 3)) μ = some (bb, v)) (hI : okI [(1, 1), (2, 2)] z bb (v 0 0)) {C S : Nat} (hC : C + 4 ≤ 638203) (hSl : S + 24 ≤ 7181496) (kk : ∀ (fo1 : Nat → Int64) (H1 : Heap) (locs1 : List Loc) (ls1 : Array Slot), va_P D vwCl (gS 78 q (TX cy q) u) H1 → va_P D vwCl (gS 39 q2 (MX cy q2) v) H1 → va_P D vwCl (oW o cy fo1) H1 → va_S (fun a => s.heap.size ≤ a) s.heap H1 locs1 → lv_has ls1 9 [(0, .ref b), (1, .ref (q (0))), (2, .ref (q2 (0))), (3, .ref o), (4, .int (nI (5 * j)))] → W p l e room_1 s m args below meth c H1 locs1 (C + 4) (S + 24) Q (F0 m 2410 ls1 [])) : W p l e room_1 s m args below meth c H locs C S Q (F0 m 1638 ls []) := by
  obtain ⟨hx, hb, hml, hown, hts, hXs, hbl, hL0, hK, hX, hNt, hlf, hJ, hJ2, hAT, hAM, hAo, hdis, hoT, hoM⟩ := F0_
  have hAO : ∀ a, hA q o a → s.heap.size ≤ a := fun a h => h.elim (fun h => hAT a h) (fun h => by rw [h]; exact hAo)
  have hdM : ∀ a, gA 39 q2 a → ¬ hA q o a := fun a h h2 => h2.elim (fun h3 => hdis a h h3) (fun h3 => hoM (by rw [← h3]; exact h))
  have hdT : ∀ a, gA 78 q a → ¬ gA 39 q2 a := fun a h h2 => hdis a h2 h
  obtain ⟨t, hz, ht, hcase⟩ := hI
  refine lv_aload_n hx hb dL_law_1638 rfl (lv_at hl 1 rfl) ?_
  refine lv_aload_n hx hb dL_law_1639 rfl (lv_at hl 0 rfl) ?_
  refine lv_iload hx hb dL_law_1640 (lv_at hl 4 rfl) ?_
  refine lv_iconst (v := (1 : Int32)) hx hb dL_law_1642 (by decide) ?_
  refine lv_iadd hx hb dL_law_1643 ?_
  refine l_sld hx hb hXs hbl hS hL0 1 (by decide) (by omega) dL_law_1644 ?_
  refine lv_aload_n hx hb dL_law_1645 rfl (lv_at hl 0 rfl) ?_
  refine lv_iload hx hb dL_law_1646 (lv_at hl 4 rfl) ?_
  refine lv_iconst (v := (2 : Int32)) hx hb dL_law_1648 (by decide) ?_
  refine lv_iadd hx hb dL_law_1649 ?_
  refine l_sld hx hb hXs hbl hS hL0 2 (by decide) (by omega) dL_law_1650 ?_
  refine lv_aload_n hx hb dL_law_1651 rfl (lv_at hl 0 rfl) ?_
  refine lv_iload hx hb dL_law_1652 (lv_at hl 4 rfl) ?_
  refine lv_iconst (v := (3 : Int32)) hx hb dL_law_1654 (by decide) ?_
  refine lv_iadd hx hb dL_law_1655 ?_
  refine l_sld hx hb hXs hbl hS hL0 3 (by decide) (by omega) dL_law_1656 ?_
  refine lv_aload_n hx hb dL_law_1657 rfl (lv_at hl 3 rfl) ?_
  refine l_cS (As := [.ref (q (0)), .int (xs (5 * j + 1)), .int (xs (5 * j + 2)), .int (xs (5 * j + 3)), .ref o]) (rest := []) (WO := gS 39 q2 (MX cy q2) μ) hx hb hml hown hts hK hX hNt hAO hP hO hM (l_dM hdM) hS (mL_lie l hlf hJ hoT h8 hz) (vx_cwSW 5 hts gL_law_L_lie rfl rfl rfl (by decide +kernel) ⟨Nat.le_of_ble_eq_true rfl, Nat.le_of_ble_eq_true rfl⟩) rfl hl.1 rfl (Nat.le_of_ble_eq_true rfl) dL_law_1658 ⟨by show C + _ ≤ 638203; omega, by show S + _ ≤ 7181496; omega⟩ (fun H locs hP hO hM hS => ?_)
  refine lv_istore (lv' := [(5, .int t), (0, .ref b), (1, .ref (q (0))), (2, .ref (q2 (0))), (3, .ref o), (4, .int (nI (5 * j)))]) hx hb dL_law_1661 hl (by decide) rfl (fun ls hl => ?_)
  refine lv_aload_n hx hb dL_law_1663 rfl (lv_at hl 3 rfl) ?_
  refine lv_aload_n hx hb dL_law_1664 rfl (lv_at hl 1 rfl) ?_
  refine lv_iload hx hb dL_law_1665 (lv_at hl 5 rfl) ?_
  refine lv_iconst (v := (1 : Int32)) hx hb dL_law_1667 (by decide) ?_
  refine lv_iadd hx hb dL_law_1668 ?_
  refine l_sld hx hb hXs hbl hS hL0 1 (by decide) (by omega) dL_law_1669 ?_
  refine lv_aload_n hx hb dL_law_1670 rfl (lv_at hl 1 rfl) ?_
  refine lv_iload hx hb dL_law_1671 (lv_at hl 5 rfl) ?_
  refine lv_iconst (v := (2 : Int32)) hx hb dL_law_1673 (by decide) ?_
  refine lv_iadd hx hb dL_law_1674 ?_
  refine l_sld hx hb hXs hbl hS hL0 2 (by decide) (by omega) dL_law_1675 ?_
  refine lv_aload_n hx hb dL_law_1676 rfl (lv_at hl 1 rfl) ?_
  refine lv_iload hx hb dL_law_1677 (lv_at hl 5 rfl) ?_
  refine lv_iconst (v := (3 : Int32)) hx hb dL_law_1679 (by decide) ?_
  refine lv_iadd hx hb dL_law_1680 ?_
  refine l_sld hx hb hXs hbl hS hL0 3 (by decide) (by omega) dL_law_1681 ?_
  refine l_cVi (As := [.int (xs (5 * j + 1)), .int (xs (5 * j + 2)), .int (xs (5 * j + 3))]) (rest := []) (WO := gS 78 q (TX cy q) u ++ oW o cy _) hx hb hml hown hts hK hAM hM (hP.app hO) (l_app (l_dM hdT) (h_odis hoM)) hS (mX9_lie l hJ2 h9) (cwV 3 hts gL_law_X9_lie rfl rfl rfl nVX9_lie ⟨Nat.le_of_ble_eq_true rfl, Nat.le_of_ble_eq_true rfl⟩) (g_recv hK hM kk_Mod ce_Mod rfl) rfl hl.1 rfl (Nat.le_of_ble_eq_true rfl) dL_law_1682 ⟨by show C + _ ≤ 638203; omega, by show S + _ ≤ 7181496; omega⟩ (fun H locs hM hPO hS => ?_)
  have hP := w_first hPO
  have hO := w_last hPO
  clear hPO
  refine lv_istore (lv' := [(6, .int bb), (5, .int t), (0, .ref b), (1, .ref (q (0))), (2, .ref (q2 (0))), (3, .ref o), (4, .int (nI (5 * j)))]) hx hb dL_law_1685 hl (by decide) rfl (fun ls hl => ?_)
  refine lv_aload_n hx hb dL_law_1687 rfl (lv_at hl 4 rfl) ?_
  refine l_cVi (As := []) (rest := []) (WO := gS 78 q (TX cy q) u ++ oW o cy _) hx hb hml hown hts hK hAM hM (hP.app hO) (l_app (l_dM hdT) (h_odis hoM)) hS (mX9_thrown (σ := v) (r := v 0 0) (u := v) l hJ2 rfl) (cwV 0 hts gL_law_X9_thrown rfl rfl rfl nVX9_thrown ⟨Nat.le_of_ble_eq_true rfl, Nat.le_of_ble_eq_true rfl⟩) (g_recv hK hM kk_Mod ce_Mod rfl) rfl hl.1 rfl (Nat.le_of_ble_eq_true rfl) dL_law_1688 ⟨by show C + _ ≤ 638203; omega, by show S + _ ≤ 7181496; omega⟩ (fun H locs hM hPO hS => ?_)
  have hP := w_first hPO
  have hO := w_last hPO
  clear hPO
  refine lv_iload hx hb dL_law_1691 (lv_at hl 1 rfl) ?_
  refine lv_icmp_eq (tgt := 1698) hx hb dL_law_1693 (by decide) (fun _ => ?_) (fun h => absurd ht h)
  refine lv_iload hx hb dL_law_1698 (lv_at hl 1 rfl) ?_
  by_cases ht0 : t = 0
  · have hzb := hcase ht0
    subst hzb
    refine lv_if_ne (tgt := 1715) hx hb dL_law_1700 (by decide) (fun h => absurd ht0 h) (fun _ => ?_)
    refine lv_aload_n hx hb dL_law_1703 rfl (lv_at hl 5 rfl) ?_
    refine lv_iconst (v := (0 : Int32)) hx hb dL_law_1704 (by decide) ?_
    refine va_lald hx hb hK hO 0 9 rfl rfl (i := (0 : Int32)) (vin_of (by decide)) dL_law_1705 ?_
    refine lv_iload hx hb dL_law_1706 (lv_at hl 0 rfl) ?_
    refine lv_i2l hx hb dL_law_1708 rfl ?_
    refine W.lcmp hx hb dL_law_1709 ?_
    have hcmp : lg_cmp (lo (.inl bb) fo ((0 : Int32).toNatClampNeg)) bb.toInt64 = 0 := l_cmp0 _
    refine lv_if_eq (tgt := 1715) hx hb dL_law_1710 (by decide) (fun _ => ?_) (fun h => absurd hcmp h)
    refine lv_goto (tgt := 2410) hx hb dL_law_1715 (by decide) ?_
    have hl9 := lv_sub hl [2, 3, 4, 5, 6] (l' := [(0, .ref b), (1, .ref (q (0))), (2, .ref (q2 (0))), (3, .ref o), (4, .int (nI (5 * j)))]) rfl
    exact W.widen (k := C + 4) (n := S + 24) (by omega) (by omega) (kk _ _ _ _ hP hM hO hS hl9)
  · refine lv_if_ne (tgt := 1715) hx hb dL_law_1700 (by decide) (fun _ => ?_) (fun h => absurd h ht0)
    refine lv_goto (tgt := 2410) hx hb dL_law_1715 (by decide) ?_
    have hl9 := lv_sub hl [2, 3, 4, 5, 6] (l' := [(0, .ref b), (1, .ref (q (0))), (2, .ref (q2 (0))), (3, .ref o), (4, .int (nI (5 * j)))]) rfl
    exact W.widen (k := C + 4) (n := S + 24) (by omega) (by omega) (kk _ _ _ _ hP hM hO hS hl9)
set_option maxHeartbeats 4000000 in
set_option maxRecDepth 100000 in
theorem lc_clock {p : Program} {l : Launch} {e : Env} {s : State} {m : MethodId} {args : Array Value} {below : List Frame} {meth : Method} {c : Code} {Q : State → Prop} {b L : Nat} {xs : Nat → Int32} {D : va_G} {cy : Nat → ClassId} {q q2 : Nat → Nat} {o : Nat} (F0_ : lF p l s m args c b L xs D cy q q2 o) {σ μ : TS} {fo : Nat → Int64} {H : Heap} {locs : List Loc} (hP : va_P D vwCl (gS 78 q (TX cy q) σ) H) (hM : va_P D vwCl (gS 39 q2 (MX cy q2) μ) H) (hO : va_P D vwCl (oW o cy fo) H) (hS : va_S (fun a => s.heap.size ≤ a) s.heap H locs) {j : Nat} (hj : 5 * j + 5 ≤ L) {ls : Array Slot} (hl : lv_has ls 9 [(0, .ref b), (1, .ref (q (0))), (2, .ref (q2 (0))), (3, .ref o), (4, .int (nI (5 * j)))]) {u v : TS} {z : Int32 ⊕ Nat} {bb : Int32} (h8 : sX8_clock (xs (5 * j + 1)) σ = some (z, u)) (h9 : sX9_clock (xs (5 * j + 1)) μ = some (bb, v)) (hI : okI [(1, 1)] z bb (v 0 0)) {C S : Nat} (hC : C + 4 ≤ 638203) (hSl : S + 24 ≤ 7181496) (kk : ∀ (fo1 : Nat → Int64) (H1 : Heap) (locs1 : List Loc) (ls1 : Array Slot), va_P D vwCl (gS 78 q (TX cy q) u) H1 → va_P D vwCl (gS 39 q2 (MX cy q2) v) H1 → va_P D vwCl (oW o cy fo1) H1 → va_S (fun a => s.heap.size ≤ a) s.heap H1 locs1 → lv_has ls1 9 [(0, .ref b), (1, .ref (q (0))), (2, .ref (q2 (0))), (3, .ref o), (4, .int (nI (5 * j)))] → W p l e room_1 s m args below meth c H1 locs1 (C + 4) (S + 24) Q (F0 m 2410 ls1 [])) : W p l e room_1 s m args below meth c H locs C S Q (F0 m 1718 ls []) := by
  obtain ⟨hx, hb, hml, hown, hts, hXs, hbl, hL0, hK, hX, hNt, hlf, hJ, hJ2, hAT, hAM, hAo, hdis, hoT, hoM⟩ := F0_
  have hAO : ∀ a, hA q o a → s.heap.size ≤ a := fun a h => h.elim (fun h => hAT a h) (fun h => by rw [h]; exact hAo)
  have hdM : ∀ a, gA 39 q2 a → ¬ hA q o a := fun a h h2 => h2.elim (fun h3 => hdis a h h3) (fun h3 => hoM (by rw [← h3]; exact h))
  have hdT : ∀ a, gA 78 q a → ¬ gA 39 q2 a := fun a h h2 => hdis a h2 h
  obtain ⟨t, hz, ht, hcase⟩ := hI
  refine lv_aload_n hx hb dL_law_1718 rfl (lv_at hl 1 rfl) ?_
  refine lv_aload_n hx hb dL_law_1719 rfl (lv_at hl 0 rfl) ?_
  refine lv_iload hx hb dL_law_1720 (lv_at hl 4 rfl) ?_
  refine lv_iconst (v := (1 : Int32)) hx hb dL_law_1722 (by decide) ?_
  refine lv_iadd hx hb dL_law_1723 ?_
  refine l_sld hx hb hXs hbl hS hL0 1 (by decide) (by omega) dL_law_1724 ?_
  refine lv_aload_n hx hb dL_law_1725 rfl (lv_at hl 3 rfl) ?_
  refine l_cS (As := [.ref (q (0)), .int (xs (5 * j + 1)), .ref o]) (rest := []) (WO := gS 39 q2 (MX cy q2) μ) hx hb hml hown hts hK hX hNt hAO hP hO hM (l_dM hdM) hS (mL_clock l hlf hJ hoT h8 hz) (vx_cwSW 3 hts gL_law_L_clock rfl rfl rfl (by decide +kernel) ⟨Nat.le_of_ble_eq_true rfl, Nat.le_of_ble_eq_true rfl⟩) rfl hl.1 rfl (Nat.le_of_ble_eq_true rfl) dL_law_1726 ⟨by show C + _ ≤ 638203; omega, by show S + _ ≤ 7181496; omega⟩ (fun H locs hP hO hM hS => ?_)
  refine lv_istore (lv' := [(5, .int t), (0, .ref b), (1, .ref (q (0))), (2, .ref (q2 (0))), (3, .ref o), (4, .int (nI (5 * j)))]) hx hb dL_law_1729 hl (by decide) rfl (fun ls hl => ?_)
  refine lv_aload_n hx hb dL_law_1731 rfl (lv_at hl 3 rfl) ?_
  refine lv_aload_n hx hb dL_law_1732 rfl (lv_at hl 1 rfl) ?_
  refine lv_iload hx hb dL_law_1733 (lv_at hl 5 rfl) ?_
  refine lv_iconst (v := (1 : Int32)) hx hb dL_law_1735 (by decide) ?_
  refine lv_iadd hx hb dL_law_1736 ?_
  refine l_sld hx hb hXs hbl hS hL0 1 (by decide) (by omega) dL_law_1737 ?_
  refine l_cVi (As := [.int (xs (5 * j + 1))]) (rest := []) (WO := gS 78 q (TX cy q) u ++ oW o cy _) hx hb hml hown hts hK hAM hM (hP.app hO) (l_app (l_dM hdT) (h_odis hoM)) hS (mX9_clock l hJ2 h9) (cwV 1 hts gL_law_X9_clock rfl rfl rfl nVX9_clock ⟨Nat.le_of_ble_eq_true rfl, Nat.le_of_ble_eq_true rfl⟩) (g_recv hK hM kk_Mod ce_Mod rfl) rfl hl.1 rfl (Nat.le_of_ble_eq_true rfl) dL_law_1738 ⟨by show C + _ ≤ 638203; omega, by show S + _ ≤ 7181496; omega⟩ (fun H locs hM hPO hS => ?_)
  have hP := w_first hPO
  have hO := w_last hPO
  clear hPO
  refine lv_istore (lv' := [(6, .int bb), (5, .int t), (0, .ref b), (1, .ref (q (0))), (2, .ref (q2 (0))), (3, .ref o), (4, .int (nI (5 * j)))]) hx hb dL_law_1741 hl (by decide) rfl (fun ls hl => ?_)
  refine lv_aload_n hx hb dL_law_1743 rfl (lv_at hl 4 rfl) ?_
  refine l_cVi (As := []) (rest := []) (WO := gS 78 q (TX cy q) u ++ oW o cy _) hx hb hml hown hts hK hAM hM (hP.app hO) (l_app (l_dM hdT) (h_odis hoM)) hS (mX9_thrown (σ := v) (r := v 0 0) (u := v) l hJ2 rfl) (cwV 0 hts gL_law_X9_thrown rfl rfl rfl nVX9_thrown ⟨Nat.le_of_ble_eq_true rfl, Nat.le_of_ble_eq_true rfl⟩) (g_recv hK hM kk_Mod ce_Mod rfl) rfl hl.1 rfl (Nat.le_of_ble_eq_true rfl) dL_law_1744 ⟨by show C + _ ≤ 638203; omega, by show S + _ ≤ 7181496; omega⟩ (fun H locs hM hPO hS => ?_)
  have hP := w_first hPO
  have hO := w_last hPO
  clear hPO
  refine lv_iload hx hb dL_law_1747 (lv_at hl 1 rfl) ?_
  refine lv_icmp_eq (tgt := 1754) hx hb dL_law_1749 (by decide) (fun _ => ?_) (fun h => absurd ht h)
  refine lv_iload hx hb dL_law_1754 (lv_at hl 1 rfl) ?_
  by_cases ht0 : t = 0
  · have hzb := hcase ht0
    subst hzb
    refine lv_if_ne (tgt := 1771) hx hb dL_law_1756 (by decide) (fun h => absurd ht0 h) (fun _ => ?_)
    refine lv_aload_n hx hb dL_law_1759 rfl (lv_at hl 5 rfl) ?_
    refine lv_iconst (v := (0 : Int32)) hx hb dL_law_1760 (by decide) ?_
    refine va_lald hx hb hK hO 0 9 rfl rfl (i := (0 : Int32)) (vin_of (by decide)) dL_law_1761 ?_
    refine lv_iload hx hb dL_law_1762 (lv_at hl 0 rfl) ?_
    refine lv_i2l hx hb dL_law_1764 rfl ?_
    refine W.lcmp hx hb dL_law_1765 ?_
    have hcmp : lg_cmp (lo (.inl bb) fo ((0 : Int32).toNatClampNeg)) bb.toInt64 = 0 := l_cmp0 _
    refine lv_if_eq (tgt := 1771) hx hb dL_law_1766 (by decide) (fun _ => ?_) (fun h => absurd hcmp h)
    refine lv_goto (tgt := 2410) hx hb dL_law_1771 (by decide) ?_
    have hl9 := lv_sub hl [2, 3, 4, 5, 6] (l' := [(0, .ref b), (1, .ref (q (0))), (2, .ref (q2 (0))), (3, .ref o), (4, .int (nI (5 * j)))]) rfl
    exact W.widen (k := C + 4) (n := S + 24) (by omega) (by omega) (kk _ _ _ _ hP hM hO hS hl9)
  · refine lv_if_ne (tgt := 1771) hx hb dL_law_1756 (by decide) (fun _ => ?_) (fun h => absurd h ht0)
    refine lv_goto (tgt := 2410) hx hb dL_law_1771 (by decide) ?_
    have hl9 := lv_sub hl [2, 3, 4, 5, 6] (l' := [(0, .ref b), (1, .ref (q (0))), (2, .ref (q2 (0))), (3, .ref o), (4, .int (nI (5 * j)))]) rfl
    exact W.widen (k := C + 4) (n := S + 24) (by omega) (by omega) (kk _ _ _ _ hP hM hO hS hl9)
set_option maxHeartbeats 4000000 in
set_option maxRecDepth 100000 in
theorem lc_save {p : Program} {l : Launch} {e : Env} {s : State} {m : MethodId} {args : Array Value} {below : List Frame} {meth : Method} {c : Code} {Q : State → Prop} {b L : Nat} {xs : Nat → Int32} {D : va_G} {cy : Nat → ClassId} {q q2 : Nat → Nat} {o : Nat} (F0_ : lF p l s m args c b L xs D cy q q2 o) {σ μ : TS} {fo : Nat → Int64} {H : Heap} {locs : List Loc} (hP : va_P D vwCl (gS 78 q (TX cy q) σ) H) (hM : va_P D vwCl (gS 39 q2 (MX cy q2) μ) H) (hO : va_P D vwCl (oW o cy fo) H) (hS : va_S (fun a => s.heap.size ≤ a) s.heap H locs) {j : Nat} (hj : 5 * j + 5 ≤ L) {ls : Array Slot} (hl : lv_has ls 9 [(0, .ref b), (1, .ref (q (0))), (2, .ref (q2 (0))), (3, .ref o), (4, .int (nI (5 * j)))]) {u v : TS} {z : Int32 ⊕ Nat} {bb : Int32} (h8 : sX8_save (xs (5 * j + 1)) (lbv (xs (5 * j + 2))) σ = some (z, u)) (h9 : sX9_save (xs (5 * j + 1)) (lbv (xs (5 * j + 2))) μ = some (bb, v)) (hI : okI [(1, 1), (4, 2)] z bb (v 0 0)) {C S : Nat} (hC : C + 4 ≤ 638203) (hSl : S + 24 ≤ 7181496) (kk : ∀ (fo1 : Nat → Int64) (H1 : Heap) (locs1 : List Loc) (ls1 : Array Slot), va_P D vwCl (gS 78 q (TX cy q) u) H1 → va_P D vwCl (gS 39 q2 (MX cy q2) v) H1 → va_P D vwCl (oW o cy fo1) H1 → va_S (fun a => s.heap.size ≤ a) s.heap H1 locs1 → lv_has ls1 9 [(0, .ref b), (1, .ref (q (0))), (2, .ref (q2 (0))), (3, .ref o), (4, .int (nI (5 * j)))] → W p l e room_1 s m args below meth c H1 locs1 (C + 4) (S + 24) Q (F0 m 2410 ls1 [])) : W p l e room_1 s m args below meth c H locs C S Q (F0 m 1774 ls []) := by
  obtain ⟨hx, hb, hml, hown, hts, hXs, hbl, hL0, hK, hX, hNt, hlf, hJ, hJ2, hAT, hAM, hAo, hdis, hoT, hoM⟩ := F0_
  have hAO : ∀ a, hA q o a → s.heap.size ≤ a := fun a h => h.elim (fun h => hAT a h) (fun h => by rw [h]; exact hAo)
  have hdM : ∀ a, gA 39 q2 a → ¬ hA q o a := fun a h h2 => h2.elim (fun h3 => hdis a h h3) (fun h3 => hoM (by rw [← h3]; exact h))
  have hdT : ∀ a, gA 78 q a → ¬ gA 39 q2 a := fun a h h2 => hdis a h2 h
  obtain ⟨t, hz, ht, hcase⟩ := hI
  refine lv_aload_n hx hb dL_law_1774 rfl (lv_at hl 1 rfl) ?_
  refine lv_aload_n hx hb dL_law_1775 rfl (lv_at hl 0 rfl) ?_
  refine lv_iload hx hb dL_law_1776 (lv_at hl 4 rfl) ?_
  refine lv_iconst (v := (1 : Int32)) hx hb dL_law_1778 (by decide) ?_
  refine lv_iadd hx hb dL_law_1779 ?_
  refine l_sld hx hb hXs hbl hS hL0 1 (by decide) (by omega) dL_law_1780 ?_
  refine lv_aload_n hx hb dL_law_1781 rfl (lv_at hl 0 rfl) ?_
  refine lv_iload hx hb dL_law_1782 (lv_at hl 4 rfl) ?_
  refine lv_iconst (v := (2 : Int32)) hx hb dL_law_1784 (by decide) ?_
  refine lv_iadd hx hb dL_law_1785 ?_
  refine l_sld hx hb hXs hbl hS hL0 2 (by decide) (by omega) dL_law_1786 ?_
  by_cases hb0 : (xs (5 * j + 2)) = 0
  · have hbv : lbv (xs (5 * j + 2)) = 0 := if_pos hb0
    refine lv_if_eq (tgt := 1794) hx hb dL_law_1787 (by decide) (fun _ => ?_) (fun h => absurd hb0 h)
    refine lv_iconst (v := (lbv (xs (5 * j + 2)))) hx hb dL_law_1794 (by rw [hbv]; decide) ?_
    refine lv_aload_n hx hb dL_law_1795 rfl (lv_at hl 3 rfl) ?_
    refine l_cS (As := [.ref (q (0)), .int (xs (5 * j + 1)), .int (lbv (xs (5 * j + 2))), .ref o]) (rest := []) (WO := gS 39 q2 (MX cy q2) μ) hx hb hml hown hts hK hX hNt hAO hP hO hM (l_dM hdM) hS (mL_save l hlf hJ hoT h8 hz) (vx_cwSW 4 hts gL_law_L_save rfl rfl rfl (by decide +kernel) ⟨Nat.le_of_ble_eq_true rfl, Nat.le_of_ble_eq_true rfl⟩) rfl hl.1 rfl (Nat.le_of_ble_eq_true rfl) dL_law_1796 ⟨by show C + _ ≤ 638203; omega, by show S + _ ≤ 7181496; omega⟩ (fun H locs hP hO hM hS => ?_)
    refine lv_istore (lv' := [(5, .int t), (0, .ref b), (1, .ref (q (0))), (2, .ref (q2 (0))), (3, .ref o), (4, .int (nI (5 * j)))]) hx hb dL_law_1799 hl (by decide) rfl (fun ls hl => ?_)
    refine lv_aload_n hx hb dL_law_1801 rfl (lv_at hl 3 rfl) ?_
    refine lv_aload_n hx hb dL_law_1802 rfl (lv_at hl 1 rfl) ?_
    refine lv_iload hx hb dL_law_1803 (lv_at hl 5 rfl) ?_
    refine lv_iconst (v := (1 : Int32)) hx hb dL_law_1805 (by decide) ?_
    refine lv_iadd hx hb dL_law_1806 ?_
    refine l_sld hx hb hXs hbl hS hL0 1 (by decide) (by omega) dL_law_1807 ?_
    refine lv_aload_n hx hb dL_law_1808 rfl (lv_at hl 1 rfl) ?_
    refine lv_iload hx hb dL_law_1809 (lv_at hl 5 rfl) ?_
    refine lv_iconst (v := (2 : Int32)) hx hb dL_law_1811 (by decide) ?_
    refine lv_iadd hx hb dL_law_1812 ?_
    refine l_sld hx hb hXs hbl hS hL0 2 (by decide) (by omega) dL_law_1813 ?_
    refine lv_if_eq (tgt := 1821) hx hb dL_law_1814 (by decide) (fun _ => ?_) (fun h => absurd hb0 h)
    refine lv_iconst (v := (lbv (xs (5 * j + 2)))) hx hb dL_law_1821 (by rw [hbv]; decide) ?_
    refine l_cVi (As := [.int (xs (5 * j + 1)), .int (lbv (xs (5 * j + 2)))]) (rest := []) (WO := gS 78 q (TX cy q) u ++ oW o cy _) hx hb hml hown hts hK hAM hM (hP.app hO) (l_app (l_dM hdT) (h_odis hoM)) hS (mX9_save l hJ2 h9) (cwV 2 hts gL_law_X9_save rfl rfl rfl nVX9_save ⟨Nat.le_of_ble_eq_true rfl, Nat.le_of_ble_eq_true rfl⟩) (g_recv hK hM kk_Mod ce_Mod rfl) rfl hl.1 rfl (Nat.le_of_ble_eq_true rfl) dL_law_1822 ⟨by show C + _ ≤ 638203; omega, by show S + _ ≤ 7181496; omega⟩ (fun H locs hM hPO hS => ?_)
    have hP := w_first hPO
    have hO := w_last hPO
    clear hPO
    refine lv_istore (lv' := [(6, .int bb), (5, .int t), (0, .ref b), (1, .ref (q (0))), (2, .ref (q2 (0))), (3, .ref o), (4, .int (nI (5 * j)))]) hx hb dL_law_1825 hl (by decide) rfl (fun ls hl => ?_)
    refine lv_aload_n hx hb dL_law_1827 rfl (lv_at hl 4 rfl) ?_
    refine l_cVi (As := []) (rest := []) (WO := gS 78 q (TX cy q) u ++ oW o cy _) hx hb hml hown hts hK hAM hM (hP.app hO) (l_app (l_dM hdT) (h_odis hoM)) hS (mX9_thrown (σ := v) (r := v 0 0) (u := v) l hJ2 rfl) (cwV 0 hts gL_law_X9_thrown rfl rfl rfl nVX9_thrown ⟨Nat.le_of_ble_eq_true rfl, Nat.le_of_ble_eq_true rfl⟩) (g_recv hK hM kk_Mod ce_Mod rfl) rfl hl.1 rfl (Nat.le_of_ble_eq_true rfl) dL_law_1828 ⟨by show C + _ ≤ 638203; omega, by show S + _ ≤ 7181496; omega⟩ (fun H locs hM hPO hS => ?_)
    have hP := w_first hPO
    have hO := w_last hPO
    clear hPO
    refine lv_iload hx hb dL_law_1831 (lv_at hl 1 rfl) ?_
    refine lv_icmp_eq (tgt := 1838) hx hb dL_law_1833 (by decide) (fun _ => ?_) (fun h => absurd ht h)
    refine lv_iload hx hb dL_law_1838 (lv_at hl 1 rfl) ?_
    by_cases ht0 : t = 0
    · have hzb := hcase ht0
      subst hzb
      refine lv_if_ne (tgt := 1855) hx hb dL_law_1840 (by decide) (fun h => absurd ht0 h) (fun _ => ?_)
      refine lv_aload_n hx hb dL_law_1843 rfl (lv_at hl 5 rfl) ?_
      refine lv_iconst (v := (0 : Int32)) hx hb dL_law_1844 (by decide) ?_
      refine va_lald hx hb hK hO 0 9 rfl rfl (i := (0 : Int32)) (vin_of (by decide)) dL_law_1845 ?_
      refine lv_iload hx hb dL_law_1846 (lv_at hl 0 rfl) ?_
      refine lv_i2l hx hb dL_law_1848 rfl ?_
      refine W.lcmp hx hb dL_law_1849 ?_
      have hcmp : lg_cmp (lo (.inl bb) fo ((0 : Int32).toNatClampNeg)) bb.toInt64 = 0 := l_cmp0 _
      refine lv_if_eq (tgt := 1855) hx hb dL_law_1850 (by decide) (fun _ => ?_) (fun h => absurd hcmp h)
      refine lv_goto (tgt := 2410) hx hb dL_law_1855 (by decide) ?_
      have hl9 := lv_sub hl [2, 3, 4, 5, 6] (l' := [(0, .ref b), (1, .ref (q (0))), (2, .ref (q2 (0))), (3, .ref o), (4, .int (nI (5 * j)))]) rfl
      exact W.widen (k := C + 4) (n := S + 24) (by omega) (by omega) (kk _ _ _ _ hP hM hO hS hl9)
    · refine lv_if_ne (tgt := 1855) hx hb dL_law_1840 (by decide) (fun _ => ?_) (fun h => absurd h ht0)
      refine lv_goto (tgt := 2410) hx hb dL_law_1855 (by decide) ?_
      have hl9 := lv_sub hl [2, 3, 4, 5, 6] (l' := [(0, .ref b), (1, .ref (q (0))), (2, .ref (q2 (0))), (3, .ref o), (4, .int (nI (5 * j)))]) rfl
      exact W.widen (k := C + 4) (n := S + 24) (by omega) (by omega) (kk _ _ _ _ hP hM hO hS hl9)
  · have hbv : lbv (xs (5 * j + 2)) = 1 := if_neg hb0
    refine lv_if_eq (tgt := 1794) hx hb dL_law_1787 (by decide) (fun h => absurd h hb0) (fun _ => ?_)
    refine lv_iconst (v := (lbv (xs (5 * j + 2)))) hx hb dL_law_1790 (by rw [hbv]; decide) ?_
    refine lv_goto (tgt := 1795) hx hb dL_law_1791 (by decide) ?_
    refine lv_aload_n hx hb dL_law_1795 rfl (lv_at hl 3 rfl) ?_
    refine l_cS (As := [.ref (q (0)), .int (xs (5 * j + 1)), .int (lbv (xs (5 * j + 2))), .ref o]) (rest := []) (WO := gS 39 q2 (MX cy q2) μ) hx hb hml hown hts hK hX hNt hAO hP hO hM (l_dM hdM) hS (mL_save l hlf hJ hoT h8 hz) (vx_cwSW 4 hts gL_law_L_save rfl rfl rfl (by decide +kernel) ⟨Nat.le_of_ble_eq_true rfl, Nat.le_of_ble_eq_true rfl⟩) rfl hl.1 rfl (Nat.le_of_ble_eq_true rfl) dL_law_1796 ⟨by show C + _ ≤ 638203; omega, by show S + _ ≤ 7181496; omega⟩ (fun H locs hP hO hM hS => ?_)
    refine lv_istore (lv' := [(5, .int t), (0, .ref b), (1, .ref (q (0))), (2, .ref (q2 (0))), (3, .ref o), (4, .int (nI (5 * j)))]) hx hb dL_law_1799 hl (by decide) rfl (fun ls hl => ?_)
    refine lv_aload_n hx hb dL_law_1801 rfl (lv_at hl 3 rfl) ?_
    refine lv_aload_n hx hb dL_law_1802 rfl (lv_at hl 1 rfl) ?_
    refine lv_iload hx hb dL_law_1803 (lv_at hl 5 rfl) ?_
    refine lv_iconst (v := (1 : Int32)) hx hb dL_law_1805 (by decide) ?_
    refine lv_iadd hx hb dL_law_1806 ?_
    refine l_sld hx hb hXs hbl hS hL0 1 (by decide) (by omega) dL_law_1807 ?_
    refine lv_aload_n hx hb dL_law_1808 rfl (lv_at hl 1 rfl) ?_
    refine lv_iload hx hb dL_law_1809 (lv_at hl 5 rfl) ?_
    refine lv_iconst (v := (2 : Int32)) hx hb dL_law_1811 (by decide) ?_
    refine lv_iadd hx hb dL_law_1812 ?_
    refine l_sld hx hb hXs hbl hS hL0 2 (by decide) (by omega) dL_law_1813 ?_
    refine lv_if_eq (tgt := 1821) hx hb dL_law_1814 (by decide) (fun h => absurd h hb0) (fun _ => ?_)
    refine lv_iconst (v := (lbv (xs (5 * j + 2)))) hx hb dL_law_1817 (by rw [hbv]; decide) ?_
    refine lv_goto (tgt := 1822) hx hb dL_law_1818 (by decide) ?_
    refine l_cVi (As := [.int (xs (5 * j + 1)), .int (lbv (xs (5 * j + 2)))]) (rest := []) (WO := gS 78 q (TX cy q) u ++ oW o cy _) hx hb hml hown hts hK hAM hM (hP.app hO) (l_app (l_dM hdT) (h_odis hoM)) hS (mX9_save l hJ2 h9) (cwV 2 hts gL_law_X9_save rfl rfl rfl nVX9_save ⟨Nat.le_of_ble_eq_true rfl, Nat.le_of_ble_eq_true rfl⟩) (g_recv hK hM kk_Mod ce_Mod rfl) rfl hl.1 rfl (Nat.le_of_ble_eq_true rfl) dL_law_1822 ⟨by show C + _ ≤ 638203; omega, by show S + _ ≤ 7181496; omega⟩ (fun H locs hM hPO hS => ?_)
    have hP := w_first hPO
    have hO := w_last hPO
    clear hPO
    refine lv_istore (lv' := [(6, .int bb), (5, .int t), (0, .ref b), (1, .ref (q (0))), (2, .ref (q2 (0))), (3, .ref o), (4, .int (nI (5 * j)))]) hx hb dL_law_1825 hl (by decide) rfl (fun ls hl => ?_)
    refine lv_aload_n hx hb dL_law_1827 rfl (lv_at hl 4 rfl) ?_
    refine l_cVi (As := []) (rest := []) (WO := gS 78 q (TX cy q) u ++ oW o cy _) hx hb hml hown hts hK hAM hM (hP.app hO) (l_app (l_dM hdT) (h_odis hoM)) hS (mX9_thrown (σ := v) (r := v 0 0) (u := v) l hJ2 rfl) (cwV 0 hts gL_law_X9_thrown rfl rfl rfl nVX9_thrown ⟨Nat.le_of_ble_eq_true rfl, Nat.le_of_ble_eq_true rfl⟩) (g_recv hK hM kk_Mod ce_Mod rfl) rfl hl.1 rfl (Nat.le_of_ble_eq_true rfl) dL_law_1828 ⟨by show C + _ ≤ 638203; omega, by show S + _ ≤ 7181496; omega⟩ (fun H locs hM hPO hS => ?_)
    have hP := w_first hPO
    have hO := w_last hPO
    clear hPO
    refine lv_iload hx hb dL_law_1831 (lv_at hl 1 rfl) ?_
    refine lv_icmp_eq (tgt := 1838) hx hb dL_law_1833 (by decide) (fun _ => ?_) (fun h => absurd ht h)
    refine lv_iload hx hb dL_law_1838 (lv_at hl 1 rfl) ?_
    by_cases ht0 : t = 0
    · have hzb := hcase ht0
      subst hzb
      refine lv_if_ne (tgt := 1855) hx hb dL_law_1840 (by decide) (fun h => absurd ht0 h) (fun _ => ?_)
      refine lv_aload_n hx hb dL_law_1843 rfl (lv_at hl 5 rfl) ?_
      refine lv_iconst (v := (0 : Int32)) hx hb dL_law_1844 (by decide) ?_
      refine va_lald hx hb hK hO 0 9 rfl rfl (i := (0 : Int32)) (vin_of (by decide)) dL_law_1845 ?_
      refine lv_iload hx hb dL_law_1846 (lv_at hl 0 rfl) ?_
      refine lv_i2l hx hb dL_law_1848 rfl ?_
      refine W.lcmp hx hb dL_law_1849 ?_
      have hcmp : lg_cmp (lo (.inl bb) fo ((0 : Int32).toNatClampNeg)) bb.toInt64 = 0 := l_cmp0 _
      refine lv_if_eq (tgt := 1855) hx hb dL_law_1850 (by decide) (fun _ => ?_) (fun h => absurd hcmp h)
      refine lv_goto (tgt := 2410) hx hb dL_law_1855 (by decide) ?_
      have hl9 := lv_sub hl [2, 3, 4, 5, 6] (l' := [(0, .ref b), (1, .ref (q (0))), (2, .ref (q2 (0))), (3, .ref o), (4, .int (nI (5 * j)))]) rfl
      exact W.widen (k := C + 4) (n := S + 24) (by omega) (by omega) (kk _ _ _ _ hP hM hO hS hl9)
    · refine lv_if_ne (tgt := 1855) hx hb dL_law_1840 (by decide) (fun _ => ?_) (fun h => absurd h ht0)
      refine lv_goto (tgt := 2410) hx hb dL_law_1855 (by decide) ?_
      have hl9 := lv_sub hl [2, 3, 4, 5, 6] (l' := [(0, .ref b), (1, .ref (q (0))), (2, .ref (q2 (0))), (3, .ref o), (4, .int (nI (5 * j)))]) rfl
      exact W.widen (k := C + 4) (n := S + 24) (by omega) (by omega) (kk _ _ _ _ hP hM hO hS hl9)
set_option maxHeartbeats 4000000 in
set_option maxRecDepth 100000 in
theorem lc_load {p : Program} {l : Launch} {e : Env} {s : State} {m : MethodId} {args : Array Value} {below : List Frame} {meth : Method} {c : Code} {Q : State → Prop} {b L : Nat} {xs : Nat → Int32} {D : va_G} {cy : Nat → ClassId} {q q2 : Nat → Nat} {o : Nat} (F0_ : lF p l s m args c b L xs D cy q q2 o) {σ μ : TS} {fo : Nat → Int64} {H : Heap} {locs : List Loc} (hP : va_P D vwCl (gS 78 q (TX cy q) σ) H) (hM : va_P D vwCl (gS 39 q2 (MX cy q2) μ) H) (hO : va_P D vwCl (oW o cy fo) H) (hS : va_S (fun a => s.heap.size ≤ a) s.heap H locs) {j : Nat} (hj : 5 * j + 5 ≤ L) {ls : Array Slot} (hl : lv_has ls 9 [(0, .ref b), (1, .ref (q (0))), (2, .ref (q2 (0))), (3, .ref o), (4, .int (nI (5 * j)))]) {u v : TS} {z : Int32 ⊕ Nat} {bb : Int32} (h8 : sX8_load (xs (5 * j + 1)) σ = some (z, u)) (h9 : sX9_load (xs (5 * j + 1)) μ = some (bb, v)) (hI : okI [(1, 1), (5, 2)] z bb (v 0 0)) {C S : Nat} (hC : C + 4 ≤ 638203) (hSl : S + 24 ≤ 7181496) (kk : ∀ (fo1 : Nat → Int64) (H1 : Heap) (locs1 : List Loc) (ls1 : Array Slot), va_P D vwCl (gS 78 q (TX cy q) u) H1 → va_P D vwCl (gS 39 q2 (MX cy q2) v) H1 → va_P D vwCl (oW o cy fo1) H1 → va_S (fun a => s.heap.size ≤ a) s.heap H1 locs1 → lv_has ls1 9 [(0, .ref b), (1, .ref (q (0))), (2, .ref (q2 (0))), (3, .ref o), (4, .int (nI (5 * j)))] → W p l e room_1 s m args below meth c H1 locs1 (C + 4) (S + 24) Q (F0 m 2410 ls1 [])) : W p l e room_1 s m args below meth c H locs C S Q (F0 m 1858 ls []) := by
  obtain ⟨hx, hb, hml, hown, hts, hXs, hbl, hL0, hK, hX, hNt, hlf, hJ, hJ2, hAT, hAM, hAo, hdis, hoT, hoM⟩ := F0_
  have hAO : ∀ a, hA q o a → s.heap.size ≤ a := fun a h => h.elim (fun h => hAT a h) (fun h => by rw [h]; exact hAo)
  have hdM : ∀ a, gA 39 q2 a → ¬ hA q o a := fun a h h2 => h2.elim (fun h3 => hdis a h h3) (fun h3 => hoM (by rw [← h3]; exact h))
  have hdT : ∀ a, gA 78 q a → ¬ gA 39 q2 a := fun a h h2 => hdis a h2 h
  obtain ⟨t, hz, ht, hcase⟩ := hI
  refine lv_aload_n hx hb dL_law_1858 rfl (lv_at hl 1 rfl) ?_
  refine lv_aload_n hx hb dL_law_1859 rfl (lv_at hl 0 rfl) ?_
  refine lv_iload hx hb dL_law_1860 (lv_at hl 4 rfl) ?_
  refine lv_iconst (v := (1 : Int32)) hx hb dL_law_1862 (by decide) ?_
  refine lv_iadd hx hb dL_law_1863 ?_
  refine l_sld hx hb hXs hbl hS hL0 1 (by decide) (by omega) dL_law_1864 ?_
  refine lv_aload_n hx hb dL_law_1865 rfl (lv_at hl 3 rfl) ?_
  refine l_cS (As := [.ref (q (0)), .int (xs (5 * j + 1)), .ref o]) (rest := []) (WO := gS 39 q2 (MX cy q2) μ) hx hb hml hown hts hK hX hNt hAO hP hO hM (l_dM hdM) hS (mL_load l hlf hJ hoT h8 hz) (vx_cwSW 3 hts gL_law_L_load rfl rfl rfl (by decide +kernel) ⟨Nat.le_of_ble_eq_true rfl, Nat.le_of_ble_eq_true rfl⟩) rfl hl.1 rfl (Nat.le_of_ble_eq_true rfl) dL_law_1866 ⟨by show C + _ ≤ 638203; omega, by show S + _ ≤ 7181496; omega⟩ (fun H locs hP hO hM hS => ?_)
  refine lv_istore (lv' := [(5, .int t), (0, .ref b), (1, .ref (q (0))), (2, .ref (q2 (0))), (3, .ref o), (4, .int (nI (5 * j)))]) hx hb dL_law_1869 hl (by decide) rfl (fun ls hl => ?_)
  refine lv_aload_n hx hb dL_law_1871 rfl (lv_at hl 3 rfl) ?_
  refine lv_aload_n hx hb dL_law_1872 rfl (lv_at hl 1 rfl) ?_
  refine lv_iload hx hb dL_law_1873 (lv_at hl 5 rfl) ?_
  refine lv_iconst (v := (1 : Int32)) hx hb dL_law_1875 (by decide) ?_
  refine lv_iadd hx hb dL_law_1876 ?_
  refine l_sld hx hb hXs hbl hS hL0 1 (by decide) (by omega) dL_law_1877 ?_
  refine l_cVi (As := [.int (xs (5 * j + 1))]) (rest := []) (WO := gS 78 q (TX cy q) u ++ oW o cy _) hx hb hml hown hts hK hAM hM (hP.app hO) (l_app (l_dM hdT) (h_odis hoM)) hS (mX9_load l hJ2 h9) (cwV 1 hts gL_law_X9_load rfl rfl rfl nVX9_load ⟨Nat.le_of_ble_eq_true rfl, Nat.le_of_ble_eq_true rfl⟩) (g_recv hK hM kk_Mod ce_Mod rfl) rfl hl.1 rfl (Nat.le_of_ble_eq_true rfl) dL_law_1878 ⟨by show C + _ ≤ 638203; omega, by show S + _ ≤ 7181496; omega⟩ (fun H locs hM hPO hS => ?_)
  have hP := w_first hPO
  have hO := w_last hPO
  clear hPO
  refine lv_istore (lv' := [(6, .int bb), (5, .int t), (0, .ref b), (1, .ref (q (0))), (2, .ref (q2 (0))), (3, .ref o), (4, .int (nI (5 * j)))]) hx hb dL_law_1881 hl (by decide) rfl (fun ls hl => ?_)
  refine lv_aload_n hx hb dL_law_1883 rfl (lv_at hl 4 rfl) ?_
  refine l_cVi (As := []) (rest := []) (WO := gS 78 q (TX cy q) u ++ oW o cy _) hx hb hml hown hts hK hAM hM (hP.app hO) (l_app (l_dM hdT) (h_odis hoM)) hS (mX9_thrown (σ := v) (r := v 0 0) (u := v) l hJ2 rfl) (cwV 0 hts gL_law_X9_thrown rfl rfl rfl nVX9_thrown ⟨Nat.le_of_ble_eq_true rfl, Nat.le_of_ble_eq_true rfl⟩) (g_recv hK hM kk_Mod ce_Mod rfl) rfl hl.1 rfl (Nat.le_of_ble_eq_true rfl) dL_law_1884 ⟨by show C + _ ≤ 638203; omega, by show S + _ ≤ 7181496; omega⟩ (fun H locs hM hPO hS => ?_)
  have hP := w_first hPO
  have hO := w_last hPO
  clear hPO
  refine lv_iload hx hb dL_law_1887 (lv_at hl 1 rfl) ?_
  refine lv_icmp_eq (tgt := 1894) hx hb dL_law_1889 (by decide) (fun _ => ?_) (fun h => absurd ht h)
  refine lv_iload hx hb dL_law_1894 (lv_at hl 1 rfl) ?_
  by_cases ht0 : t = 0
  · have hzb := hcase ht0
    subst hzb
    refine lv_if_ne (tgt := 1911) hx hb dL_law_1896 (by decide) (fun h => absurd ht0 h) (fun _ => ?_)
    refine lv_aload_n hx hb dL_law_1899 rfl (lv_at hl 5 rfl) ?_
    refine lv_iconst (v := (0 : Int32)) hx hb dL_law_1900 (by decide) ?_
    refine va_lald hx hb hK hO 0 9 rfl rfl (i := (0 : Int32)) (vin_of (by decide)) dL_law_1901 ?_
    refine lv_iload hx hb dL_law_1902 (lv_at hl 0 rfl) ?_
    refine lv_i2l hx hb dL_law_1904 rfl ?_
    refine W.lcmp hx hb dL_law_1905 ?_
    have hcmp : lg_cmp (lo (.inl bb) fo ((0 : Int32).toNatClampNeg)) bb.toInt64 = 0 := l_cmp0 _
    refine lv_if_eq (tgt := 1911) hx hb dL_law_1906 (by decide) (fun _ => ?_) (fun h => absurd hcmp h)
    refine lv_goto (tgt := 2410) hx hb dL_law_1911 (by decide) ?_
    have hl9 := lv_sub hl [2, 3, 4, 5, 6] (l' := [(0, .ref b), (1, .ref (q (0))), (2, .ref (q2 (0))), (3, .ref o), (4, .int (nI (5 * j)))]) rfl
    exact W.widen (k := C + 4) (n := S + 24) (by omega) (by omega) (kk _ _ _ _ hP hM hO hS hl9)
  · refine lv_if_ne (tgt := 1911) hx hb dL_law_1896 (by decide) (fun _ => ?_) (fun h => absurd h ht0)
    refine lv_goto (tgt := 2410) hx hb dL_law_1911 (by decide) ?_
    have hl9 := lv_sub hl [2, 3, 4, 5, 6] (l' := [(0, .ref b), (1, .ref (q (0))), (2, .ref (q2 (0))), (3, .ref o), (4, .int (nI (5 * j)))]) rfl
    exact W.widen (k := C + 4) (n := S + 24) (by omega) (by omega) (kk _ _ _ _ hP hM hO hS hl9)
set_option maxHeartbeats 4000000 in
set_option maxRecDepth 100000 in
theorem lc_fault {p : Program} {l : Launch} {e : Env} {s : State} {m : MethodId} {args : Array Value} {below : List Frame} {meth : Method} {c : Code} {Q : State → Prop} {b L : Nat} {xs : Nat → Int32} {D : va_G} {cy : Nat → ClassId} {q q2 : Nat → Nat} {o : Nat} (F0_ : lF p l s m args c b L xs D cy q q2 o) {σ μ : TS} {fo : Nat → Int64} {H : Heap} {locs : List Loc} (hP : va_P D vwCl (gS 78 q (TX cy q) σ) H) (hM : va_P D vwCl (gS 39 q2 (MX cy q2) μ) H) (hO : va_P D vwCl (oW o cy fo) H) (hS : va_S (fun a => s.heap.size ≤ a) s.heap H locs) {j : Nat} (hj : 5 * j + 5 ≤ L) {ls : Array Slot} (hl : lv_has ls 9 [(0, .ref b), (1, .ref (q (0))), (2, .ref (q2 (0))), (3, .ref o), (4, .int (nI (5 * j)))]) {u v : TS} {z : Int32 ⊕ Nat} {bb : Int32} (h8 : sX8_fault (xs (5 * j + 1)) (xs (5 * j + 2)) (xs (5 * j + 3)) σ = some (z, u)) (h9 : sX9_fault (xs (5 * j + 1)) (xs (5 * j + 2)) (xs (5 * j + 3)) μ = some (bb, v)) (hI : okI [(1, 1), (2, 2)] z bb (v 0 0)) {C S : Nat} (hC : C + 4 ≤ 638203) (hSl : S + 24 ≤ 7181496) (kk : ∀ (fo1 : Nat → Int64) (H1 : Heap) (locs1 : List Loc) (ls1 : Array Slot), va_P D vwCl (gS 78 q (TX cy q) u) H1 → va_P D vwCl (gS 39 q2 (MX cy q2) v) H1 → va_P D vwCl (oW o cy fo1) H1 → va_S (fun a => s.heap.size ≤ a) s.heap H1 locs1 → lv_has ls1 9 [(0, .ref b), (1, .ref (q (0))), (2, .ref (q2 (0))), (3, .ref o), (4, .int (nI (5 * j)))] → W p l e room_1 s m args below meth c H1 locs1 (C + 4) (S + 24) Q (F0 m 2410 ls1 [])) : W p l e room_1 s m args below meth c H locs C S Q (F0 m 1914 ls []) := by
  obtain ⟨hx, hb, hml, hown, hts, hXs, hbl, hL0, hK, hX, hNt, hlf, hJ, hJ2, hAT, hAM, hAo, hdis, hoT, hoM⟩ := F0_
  have hAO : ∀ a, hA q o a → s.heap.size ≤ a := fun a h => h.elim (fun h => hAT a h) (fun h => by rw [h]; exact hAo)
  have hdM : ∀ a, gA 39 q2 a → ¬ hA q o a := fun a h h2 => h2.elim (fun h3 => hdis a h h3) (fun h3 => hoM (by rw [← h3]; exact h))
  have hdT : ∀ a, gA 78 q a → ¬ gA 39 q2 a := fun a h h2 => hdis a h2 h
  obtain ⟨t, hz, ht, hcase⟩ := hI
  refine lv_aload_n hx hb dL_law_1914 rfl (lv_at hl 1 rfl) ?_
  refine lv_aload_n hx hb dL_law_1915 rfl (lv_at hl 0 rfl) ?_
  refine lv_iload hx hb dL_law_1916 (lv_at hl 4 rfl) ?_
  refine lv_iconst (v := (1 : Int32)) hx hb dL_law_1918 (by decide) ?_
  refine lv_iadd hx hb dL_law_1919 ?_
  refine l_sld hx hb hXs hbl hS hL0 1 (by decide) (by omega) dL_law_1920 ?_
  refine lv_aload_n hx hb dL_law_1921 rfl (lv_at hl 0 rfl) ?_
  refine lv_iload hx hb dL_law_1922 (lv_at hl 4 rfl) ?_
  refine lv_iconst (v := (2 : Int32)) hx hb dL_law_1924 (by decide) ?_
  refine lv_iadd hx hb dL_law_1925 ?_
  refine l_sld hx hb hXs hbl hS hL0 2 (by decide) (by omega) dL_law_1926 ?_
  refine lv_aload_n hx hb dL_law_1927 rfl (lv_at hl 0 rfl) ?_
  refine lv_iload hx hb dL_law_1928 (lv_at hl 4 rfl) ?_
  refine lv_iconst (v := (3 : Int32)) hx hb dL_law_1930 (by decide) ?_
  refine lv_iadd hx hb dL_law_1931 ?_
  refine l_sld hx hb hXs hbl hS hL0 3 (by decide) (by omega) dL_law_1932 ?_
  refine lv_aload_n hx hb dL_law_1933 rfl (lv_at hl 3 rfl) ?_
  refine l_cS (As := [.ref (q (0)), .int (xs (5 * j + 1)), .int (xs (5 * j + 2)), .int (xs (5 * j + 3)), .ref o]) (rest := []) (WO := gS 39 q2 (MX cy q2) μ) hx hb hml hown hts hK hX hNt hAO hP hO hM (l_dM hdM) hS (mL_fault l hlf hJ hoT h8 hz) (vx_cwSW 5 hts gL_law_L_fault rfl rfl rfl (by decide +kernel) ⟨Nat.le_of_ble_eq_true rfl, Nat.le_of_ble_eq_true rfl⟩) rfl hl.1 rfl (Nat.le_of_ble_eq_true rfl) dL_law_1934 ⟨by show C + _ ≤ 638203; omega, by show S + _ ≤ 7181496; omega⟩ (fun H locs hP hO hM hS => ?_)
  refine lv_istore (lv' := [(5, .int t), (0, .ref b), (1, .ref (q (0))), (2, .ref (q2 (0))), (3, .ref o), (4, .int (nI (5 * j)))]) hx hb dL_law_1937 hl (by decide) rfl (fun ls hl => ?_)
  refine lv_aload_n hx hb dL_law_1939 rfl (lv_at hl 3 rfl) ?_
  refine lv_aload_n hx hb dL_law_1940 rfl (lv_at hl 1 rfl) ?_
  refine lv_iload hx hb dL_law_1941 (lv_at hl 5 rfl) ?_
  refine lv_iconst (v := (1 : Int32)) hx hb dL_law_1943 (by decide) ?_
  refine lv_iadd hx hb dL_law_1944 ?_
  refine l_sld hx hb hXs hbl hS hL0 1 (by decide) (by omega) dL_law_1945 ?_
  refine lv_aload_n hx hb dL_law_1946 rfl (lv_at hl 1 rfl) ?_
  refine lv_iload hx hb dL_law_1947 (lv_at hl 5 rfl) ?_
  refine lv_iconst (v := (2 : Int32)) hx hb dL_law_1949 (by decide) ?_
  refine lv_iadd hx hb dL_law_1950 ?_
  refine l_sld hx hb hXs hbl hS hL0 2 (by decide) (by omega) dL_law_1951 ?_
  refine lv_aload_n hx hb dL_law_1952 rfl (lv_at hl 1 rfl) ?_
  refine lv_iload hx hb dL_law_1953 (lv_at hl 5 rfl) ?_
  refine lv_iconst (v := (3 : Int32)) hx hb dL_law_1955 (by decide) ?_
  refine lv_iadd hx hb dL_law_1956 ?_
  refine l_sld hx hb hXs hbl hS hL0 3 (by decide) (by omega) dL_law_1957 ?_
  refine l_cVi (As := [.int (xs (5 * j + 1)), .int (xs (5 * j + 2)), .int (xs (5 * j + 3))]) (rest := []) (WO := gS 78 q (TX cy q) u ++ oW o cy _) hx hb hml hown hts hK hAM hM (hP.app hO) (l_app (l_dM hdT) (h_odis hoM)) hS (mX9_fault l hJ2 h9) (cwV 3 hts gL_law_X9_fault rfl rfl rfl nVX9_fault ⟨Nat.le_of_ble_eq_true rfl, Nat.le_of_ble_eq_true rfl⟩) (g_recv hK hM kk_Mod ce_Mod rfl) rfl hl.1 rfl (Nat.le_of_ble_eq_true rfl) dL_law_1958 ⟨by show C + _ ≤ 638203; omega, by show S + _ ≤ 7181496; omega⟩ (fun H locs hM hPO hS => ?_)
  have hP := w_first hPO
  have hO := w_last hPO
  clear hPO
  refine lv_istore (lv' := [(6, .int bb), (5, .int t), (0, .ref b), (1, .ref (q (0))), (2, .ref (q2 (0))), (3, .ref o), (4, .int (nI (5 * j)))]) hx hb dL_law_1961 hl (by decide) rfl (fun ls hl => ?_)
  refine lv_aload_n hx hb dL_law_1963 rfl (lv_at hl 4 rfl) ?_
  refine l_cVi (As := []) (rest := []) (WO := gS 78 q (TX cy q) u ++ oW o cy _) hx hb hml hown hts hK hAM hM (hP.app hO) (l_app (l_dM hdT) (h_odis hoM)) hS (mX9_thrown (σ := v) (r := v 0 0) (u := v) l hJ2 rfl) (cwV 0 hts gL_law_X9_thrown rfl rfl rfl nVX9_thrown ⟨Nat.le_of_ble_eq_true rfl, Nat.le_of_ble_eq_true rfl⟩) (g_recv hK hM kk_Mod ce_Mod rfl) rfl hl.1 rfl (Nat.le_of_ble_eq_true rfl) dL_law_1964 ⟨by show C + _ ≤ 638203; omega, by show S + _ ≤ 7181496; omega⟩ (fun H locs hM hPO hS => ?_)
  have hP := w_first hPO
  have hO := w_last hPO
  clear hPO
  refine lv_iload hx hb dL_law_1967 (lv_at hl 1 rfl) ?_
  refine lv_icmp_eq (tgt := 1974) hx hb dL_law_1969 (by decide) (fun _ => ?_) (fun h => absurd ht h)
  refine lv_iload hx hb dL_law_1974 (lv_at hl 1 rfl) ?_
  by_cases ht0 : t = 0
  · have hzb := hcase ht0
    subst hzb
    refine lv_if_ne (tgt := 1991) hx hb dL_law_1976 (by decide) (fun h => absurd ht0 h) (fun _ => ?_)
    refine lv_aload_n hx hb dL_law_1979 rfl (lv_at hl 5 rfl) ?_
    refine lv_iconst (v := (0 : Int32)) hx hb dL_law_1980 (by decide) ?_
    refine va_lald hx hb hK hO 0 9 rfl rfl (i := (0 : Int32)) (vin_of (by decide)) dL_law_1981 ?_
    refine lv_iload hx hb dL_law_1982 (lv_at hl 0 rfl) ?_
    refine lv_i2l hx hb dL_law_1984 rfl ?_
    refine W.lcmp hx hb dL_law_1985 ?_
    have hcmp : lg_cmp (lo (.inl bb) fo ((0 : Int32).toNatClampNeg)) bb.toInt64 = 0 := l_cmp0 _
    refine lv_if_eq (tgt := 1991) hx hb dL_law_1986 (by decide) (fun _ => ?_) (fun h => absurd hcmp h)
    refine lv_goto (tgt := 2410) hx hb dL_law_1991 (by decide) ?_
    have hl9 := lv_sub hl [2, 3, 4, 5, 6] (l' := [(0, .ref b), (1, .ref (q (0))), (2, .ref (q2 (0))), (3, .ref o), (4, .int (nI (5 * j)))]) rfl
    exact W.widen (k := C + 4) (n := S + 24) (by omega) (by omega) (kk _ _ _ _ hP hM hO hS hl9)
  · refine lv_if_ne (tgt := 1991) hx hb dL_law_1976 (by decide) (fun _ => ?_) (fun h => absurd h ht0)
    refine lv_goto (tgt := 2410) hx hb dL_law_1991 (by decide) ?_
    have hl9 := lv_sub hl [2, 3, 4, 5, 6] (l' := [(0, .ref b), (1, .ref (q (0))), (2, .ref (q2 (0))), (3, .ref o), (4, .int (nI (5 * j)))]) rfl
    exact W.widen (k := C + 4) (n := S + 24) (by omega) (by omega) (kk _ _ _ _ hP hM hO hS hl9)
set_option maxHeartbeats 4000000 in
set_option maxRecDepth 100000 in
theorem lc_position {p : Program} {l : Launch} {e : Env} {s : State} {m : MethodId} {args : Array Value} {below : List Frame} {meth : Method} {c : Code} {Q : State → Prop} {b L : Nat} {xs : Nat → Int32} {D : va_G} {cy : Nat → ClassId} {q q2 : Nat → Nat} {o : Nat} (F0_ : lF p l s m args c b L xs D cy q q2 o) {σ μ : TS} {fo : Nat → Int64} {H : Heap} {locs : List Loc} (hP : va_P D vwCl (gS 78 q (TX cy q) σ) H) (hM : va_P D vwCl (gS 39 q2 (MX cy q2) μ) H) (hO : va_P D vwCl (oW o cy fo) H) (hS : va_S (fun a => s.heap.size ≤ a) s.heap H locs) {j : Nat} (hj : 5 * j + 5 ≤ L) {ls : Array Slot} (hl : lv_has ls 9 [(0, .ref b), (1, .ref (q (0))), (2, .ref (q2 (0))), (3, .ref o), (4, .int (nI (5 * j)))]) {u v : TS} {z : Int32 ⊕ Nat} {bb : Int32} (h8 : sX8_position (xs (5 * j + 1)) σ = some (z, u)) (h9 : sX9_position (xs (5 * j + 1)) μ = some (bb, v)) (hI : okI [(1, 1)] z bb (v 0 0)) {C S : Nat} (hC : C + 4 ≤ 638203) (hSl : S + 24 ≤ 7181496) (kk : ∀ (fo1 : Nat → Int64) (H1 : Heap) (locs1 : List Loc) (ls1 : Array Slot), va_P D vwCl (gS 78 q (TX cy q) u) H1 → va_P D vwCl (gS 39 q2 (MX cy q2) v) H1 → va_P D vwCl (oW o cy fo1) H1 → va_S (fun a => s.heap.size ≤ a) s.heap H1 locs1 → lv_has ls1 9 [(0, .ref b), (1, .ref (q (0))), (2, .ref (q2 (0))), (3, .ref o), (4, .int (nI (5 * j)))] → W p l e room_1 s m args below meth c H1 locs1 (C + 4) (S + 24) Q (F0 m 2410 ls1 [])) : W p l e room_1 s m args below meth c H locs C S Q (F0 m 1994 ls []) := by
  obtain ⟨hx, hb, hml, hown, hts, hXs, hbl, hL0, hK, hX, hNt, hlf, hJ, hJ2, hAT, hAM, hAo, hdis, hoT, hoM⟩ := F0_
  have hAO : ∀ a, hA q o a → s.heap.size ≤ a := fun a h => h.elim (fun h => hAT a h) (fun h => by rw [h]; exact hAo)
  have hdM : ∀ a, gA 39 q2 a → ¬ hA q o a := fun a h h2 => h2.elim (fun h3 => hdis a h h3) (fun h3 => hoM (by rw [← h3]; exact h))
  have hdT : ∀ a, gA 78 q a → ¬ gA 39 q2 a := fun a h h2 => hdis a h2 h
  obtain ⟨t, hz, ht, hcase⟩ := hI
  refine lv_aload_n hx hb dL_law_1994 rfl (lv_at hl 1 rfl) ?_
  refine lv_aload_n hx hb dL_law_1995 rfl (lv_at hl 0 rfl) ?_
  refine lv_iload hx hb dL_law_1996 (lv_at hl 4 rfl) ?_
  refine lv_iconst (v := (1 : Int32)) hx hb dL_law_1998 (by decide) ?_
  refine lv_iadd hx hb dL_law_1999 ?_
  refine l_sld hx hb hXs hbl hS hL0 1 (by decide) (by omega) dL_law_2000 ?_
  refine lv_aload_n hx hb dL_law_2001 rfl (lv_at hl 3 rfl) ?_
  refine l_cS (As := [.ref (q (0)), .int (xs (5 * j + 1)), .ref o]) (rest := []) (WO := gS 39 q2 (MX cy q2) μ) hx hb hml hown hts hK hX hNt hAO hP hO hM (l_dM hdM) hS (mL_position l hlf hJ hoT h8 hz) (vx_cwSW 3 hts gL_law_L_position rfl rfl rfl (by decide +kernel) ⟨Nat.le_of_ble_eq_true rfl, Nat.le_of_ble_eq_true rfl⟩) rfl hl.1 rfl (Nat.le_of_ble_eq_true rfl) dL_law_2002 ⟨by show C + _ ≤ 638203; omega, by show S + _ ≤ 7181496; omega⟩ (fun H locs hP hO hM hS => ?_)
  refine lv_istore (lv' := [(5, .int t), (0, .ref b), (1, .ref (q (0))), (2, .ref (q2 (0))), (3, .ref o), (4, .int (nI (5 * j)))]) hx hb dL_law_2005 hl (by decide) rfl (fun ls hl => ?_)
  refine lv_aload_n hx hb dL_law_2007 rfl (lv_at hl 3 rfl) ?_
  refine lv_aload_n hx hb dL_law_2008 rfl (lv_at hl 1 rfl) ?_
  refine lv_iload hx hb dL_law_2009 (lv_at hl 5 rfl) ?_
  refine lv_iconst (v := (1 : Int32)) hx hb dL_law_2011 (by decide) ?_
  refine lv_iadd hx hb dL_law_2012 ?_
  refine l_sld hx hb hXs hbl hS hL0 1 (by decide) (by omega) dL_law_2013 ?_
  refine l_cVi (As := [.int (xs (5 * j + 1))]) (rest := []) (WO := gS 78 q (TX cy q) u ++ oW o cy _) hx hb hml hown hts hK hAM hM (hP.app hO) (l_app (l_dM hdT) (h_odis hoM)) hS (mX9_position l hJ2 h9) (cwV 1 hts gL_law_X9_position rfl rfl rfl nVX9_position ⟨Nat.le_of_ble_eq_true rfl, Nat.le_of_ble_eq_true rfl⟩) (g_recv hK hM kk_Mod ce_Mod rfl) rfl hl.1 rfl (Nat.le_of_ble_eq_true rfl) dL_law_2014 ⟨by show C + _ ≤ 638203; omega, by show S + _ ≤ 7181496; omega⟩ (fun H locs hM hPO hS => ?_)
  have hP := w_first hPO
  have hO := w_last hPO
  clear hPO
  refine lv_istore (lv' := [(6, .int bb), (5, .int t), (0, .ref b), (1, .ref (q (0))), (2, .ref (q2 (0))), (3, .ref o), (4, .int (nI (5 * j)))]) hx hb dL_law_2017 hl (by decide) rfl (fun ls hl => ?_)
  refine lv_aload_n hx hb dL_law_2019 rfl (lv_at hl 4 rfl) ?_
  refine l_cVi (As := []) (rest := []) (WO := gS 78 q (TX cy q) u ++ oW o cy _) hx hb hml hown hts hK hAM hM (hP.app hO) (l_app (l_dM hdT) (h_odis hoM)) hS (mX9_thrown (σ := v) (r := v 0 0) (u := v) l hJ2 rfl) (cwV 0 hts gL_law_X9_thrown rfl rfl rfl nVX9_thrown ⟨Nat.le_of_ble_eq_true rfl, Nat.le_of_ble_eq_true rfl⟩) (g_recv hK hM kk_Mod ce_Mod rfl) rfl hl.1 rfl (Nat.le_of_ble_eq_true rfl) dL_law_2020 ⟨by show C + _ ≤ 638203; omega, by show S + _ ≤ 7181496; omega⟩ (fun H locs hM hPO hS => ?_)
  have hP := w_first hPO
  have hO := w_last hPO
  clear hPO
  refine lv_iload hx hb dL_law_2023 (lv_at hl 1 rfl) ?_
  refine lv_icmp_eq (tgt := 2030) hx hb dL_law_2025 (by decide) (fun _ => ?_) (fun h => absurd ht h)
  refine lv_iload hx hb dL_law_2030 (lv_at hl 1 rfl) ?_
  by_cases ht0 : t = 0
  · have hzb := hcase ht0
    subst hzb
    refine lv_if_ne (tgt := 2047) hx hb dL_law_2032 (by decide) (fun h => absurd ht0 h) (fun _ => ?_)
    refine lv_aload_n hx hb dL_law_2035 rfl (lv_at hl 5 rfl) ?_
    refine lv_iconst (v := (0 : Int32)) hx hb dL_law_2036 (by decide) ?_
    refine va_lald hx hb hK hO 0 9 rfl rfl (i := (0 : Int32)) (vin_of (by decide)) dL_law_2037 ?_
    refine lv_iload hx hb dL_law_2038 (lv_at hl 0 rfl) ?_
    refine lv_i2l hx hb dL_law_2040 rfl ?_
    refine W.lcmp hx hb dL_law_2041 ?_
    have hcmp : lg_cmp (lo (.inl bb) fo ((0 : Int32).toNatClampNeg)) bb.toInt64 = 0 := l_cmp0 _
    refine lv_if_eq (tgt := 2047) hx hb dL_law_2042 (by decide) (fun _ => ?_) (fun h => absurd hcmp h)
    refine lv_goto (tgt := 2410) hx hb dL_law_2047 (by decide) ?_
    have hl9 := lv_sub hl [2, 3, 4, 5, 6] (l' := [(0, .ref b), (1, .ref (q (0))), (2, .ref (q2 (0))), (3, .ref o), (4, .int (nI (5 * j)))]) rfl
    exact W.widen (k := C + 4) (n := S + 24) (by omega) (by omega) (kk _ _ _ _ hP hM hO hS hl9)
  · refine lv_if_ne (tgt := 2047) hx hb dL_law_2032 (by decide) (fun _ => ?_) (fun h => absurd h ht0)
    refine lv_goto (tgt := 2410) hx hb dL_law_2047 (by decide) ?_
    have hl9 := lv_sub hl [2, 3, 4, 5, 6] (l' := [(0, .ref b), (1, .ref (q (0))), (2, .ref (q2 (0))), (3, .ref o), (4, .int (nI (5 * j)))]) rfl
    exact W.widen (k := C + 4) (n := S + 24) (by omega) (by omega) (kk _ _ _ _ hP hM hO hS hl9)
set_option maxHeartbeats 4000000 in
set_option maxRecDepth 100000 in
theorem lc_hasLetGo {p : Program} {l : Launch} {e : Env} {s : State} {m : MethodId} {args : Array Value} {below : List Frame} {meth : Method} {c : Code} {Q : State → Prop} {b L : Nat} {xs : Nat → Int32} {D : va_G} {cy : Nat → ClassId} {q q2 : Nat → Nat} {o : Nat} (F0_ : lF p l s m args c b L xs D cy q q2 o) {σ μ : TS} {fo : Nat → Int64} {H : Heap} {locs : List Loc} (hP : va_P D vwCl (gS 78 q (TX cy q) σ) H) (hM : va_P D vwCl (gS 39 q2 (MX cy q2) μ) H) (hO : va_P D vwCl (oW o cy fo) H) (hS : va_S (fun a => s.heap.size ≤ a) s.heap H locs) {j : Nat} (hj : 5 * j + 5 ≤ L) {ls : Array Slot} (hl : lv_has ls 9 [(0, .ref b), (1, .ref (q (0))), (2, .ref (q2 (0))), (3, .ref o), (4, .int (nI (5 * j)))]) {u v : TS} {z : Int32 ⊕ Nat} {bb : Int32} (h8 : sX8_hasLetGo (xs (5 * j + 1)) σ = some (z, u)) (h9 : sX9_hasLetGo (xs (5 * j + 1)) μ = some (bb, v)) (hI : okI [(1, 1)] z bb (v 0 0)) {C S : Nat} (hC : C + 4 ≤ 638203) (hSl : S + 24 ≤ 7181496) (kk : ∀ (fo1 : Nat → Int64) (H1 : Heap) (locs1 : List Loc) (ls1 : Array Slot), va_P D vwCl (gS 78 q (TX cy q) u) H1 → va_P D vwCl (gS 39 q2 (MX cy q2) v) H1 → va_P D vwCl (oW o cy fo1) H1 → va_S (fun a => s.heap.size ≤ a) s.heap H1 locs1 → lv_has ls1 9 [(0, .ref b), (1, .ref (q (0))), (2, .ref (q2 (0))), (3, .ref o), (4, .int (nI (5 * j)))] → W p l e room_1 s m args below meth c H1 locs1 (C + 4) (S + 24) Q (F0 m 2410 ls1 [])) : W p l e room_1 s m args below meth c H locs C S Q (F0 m 2050 ls []) := by
  obtain ⟨hx, hb, hml, hown, hts, hXs, hbl, hL0, hK, hX, hNt, hlf, hJ, hJ2, hAT, hAM, hAo, hdis, hoT, hoM⟩ := F0_
  have hAO : ∀ a, hA q o a → s.heap.size ≤ a := fun a h => h.elim (fun h => hAT a h) (fun h => by rw [h]; exact hAo)
  have hdM : ∀ a, gA 39 q2 a → ¬ hA q o a := fun a h h2 => h2.elim (fun h3 => hdis a h h3) (fun h3 => hoM (by rw [← h3]; exact h))
  have hdT : ∀ a, gA 78 q a → ¬ gA 39 q2 a := fun a h h2 => hdis a h2 h
  obtain ⟨t, hz, ht, hcase⟩ := hI
  refine lv_aload_n hx hb dL_law_2050 rfl (lv_at hl 1 rfl) ?_
  refine lv_aload_n hx hb dL_law_2051 rfl (lv_at hl 0 rfl) ?_
  refine lv_iload hx hb dL_law_2052 (lv_at hl 4 rfl) ?_
  refine lv_iconst (v := (1 : Int32)) hx hb dL_law_2054 (by decide) ?_
  refine lv_iadd hx hb dL_law_2055 ?_
  refine l_sld hx hb hXs hbl hS hL0 1 (by decide) (by omega) dL_law_2056 ?_
  refine lv_aload_n hx hb dL_law_2057 rfl (lv_at hl 3 rfl) ?_
  refine l_cS (As := [.ref (q (0)), .int (xs (5 * j + 1)), .ref o]) (rest := []) (WO := gS 39 q2 (MX cy q2) μ) hx hb hml hown hts hK hX hNt hAO hP hO hM (l_dM hdM) hS (mL_hasLetGo l hlf hJ hoT h8 hz) (vx_cwSW 3 hts gL_law_L_hasLetGo rfl rfl rfl (by decide +kernel) ⟨Nat.le_of_ble_eq_true rfl, Nat.le_of_ble_eq_true rfl⟩) rfl hl.1 rfl (Nat.le_of_ble_eq_true rfl) dL_law_2058 ⟨by show C + _ ≤ 638203; omega, by show S + _ ≤ 7181496; omega⟩ (fun H locs hP hO hM hS => ?_)
  refine lv_istore (lv' := [(5, .int t), (0, .ref b), (1, .ref (q (0))), (2, .ref (q2 (0))), (3, .ref o), (4, .int (nI (5 * j)))]) hx hb dL_law_2061 hl (by decide) rfl (fun ls hl => ?_)
  refine lv_aload_n hx hb dL_law_2063 rfl (lv_at hl 3 rfl) ?_
  refine lv_aload_n hx hb dL_law_2064 rfl (lv_at hl 1 rfl) ?_
  refine lv_iload hx hb dL_law_2065 (lv_at hl 5 rfl) ?_
  refine lv_iconst (v := (1 : Int32)) hx hb dL_law_2067 (by decide) ?_
  refine lv_iadd hx hb dL_law_2068 ?_
  refine l_sld hx hb hXs hbl hS hL0 1 (by decide) (by omega) dL_law_2069 ?_
  refine l_cVi (As := [.int (xs (5 * j + 1))]) (rest := []) (WO := gS 78 q (TX cy q) u ++ oW o cy _) hx hb hml hown hts hK hAM hM (hP.app hO) (l_app (l_dM hdT) (h_odis hoM)) hS (mX9_hasLetGo l hJ2 h9) (cwV 1 hts gL_law_X9_hasLetGo rfl rfl rfl nVX9_hasLetGo ⟨Nat.le_of_ble_eq_true rfl, Nat.le_of_ble_eq_true rfl⟩) (g_recv hK hM kk_Mod ce_Mod rfl) rfl hl.1 rfl (Nat.le_of_ble_eq_true rfl) dL_law_2070 ⟨by show C + _ ≤ 638203; omega, by show S + _ ≤ 7181496; omega⟩ (fun H locs hM hPO hS => ?_)
  have hP := w_first hPO
  have hO := w_last hPO
  clear hPO
  refine lv_istore (lv' := [(6, .int bb), (5, .int t), (0, .ref b), (1, .ref (q (0))), (2, .ref (q2 (0))), (3, .ref o), (4, .int (nI (5 * j)))]) hx hb dL_law_2073 hl (by decide) rfl (fun ls hl => ?_)
  refine lv_aload_n hx hb dL_law_2075 rfl (lv_at hl 4 rfl) ?_
  refine l_cVi (As := []) (rest := []) (WO := gS 78 q (TX cy q) u ++ oW o cy _) hx hb hml hown hts hK hAM hM (hP.app hO) (l_app (l_dM hdT) (h_odis hoM)) hS (mX9_thrown (σ := v) (r := v 0 0) (u := v) l hJ2 rfl) (cwV 0 hts gL_law_X9_thrown rfl rfl rfl nVX9_thrown ⟨Nat.le_of_ble_eq_true rfl, Nat.le_of_ble_eq_true rfl⟩) (g_recv hK hM kk_Mod ce_Mod rfl) rfl hl.1 rfl (Nat.le_of_ble_eq_true rfl) dL_law_2076 ⟨by show C + _ ≤ 638203; omega, by show S + _ ≤ 7181496; omega⟩ (fun H locs hM hPO hS => ?_)
  have hP := w_first hPO
  have hO := w_last hPO
  clear hPO
  refine lv_iload hx hb dL_law_2079 (lv_at hl 1 rfl) ?_
  refine lv_icmp_eq (tgt := 2086) hx hb dL_law_2081 (by decide) (fun _ => ?_) (fun h => absurd ht h)
  refine lv_iload hx hb dL_law_2086 (lv_at hl 1 rfl) ?_
  by_cases ht0 : t = 0
  · have hzb := hcase ht0
    subst hzb
    refine lv_if_ne (tgt := 2110) hx hb dL_law_2088 (by decide) (fun h => absurd ht0 h) (fun _ => ?_)
    refine lv_aload_n hx hb dL_law_2091 rfl (lv_at hl 5 rfl) ?_
    refine lv_iconst (v := (0 : Int32)) hx hb dL_law_2092 (by decide) ?_
    refine va_lald hx hb hK hO 0 9 rfl rfl (i := (0 : Int32)) (vin_of (by decide)) dL_law_2093 ?_
    refine lv_iload hx hb dL_law_2094 (lv_at hl 0 rfl) ?_
    by_cases hbb : bb = 0
    · refine lv_if_eq (tgt := 2103) hx hb dL_law_2096 (by decide) (fun _ => ?_) (fun h => absurd hbb h)
      refine lv_lconst (v := (0 : Int64)) hx hb dL_law_2103 (by decide) ?_
      refine W.lcmp hx hb dL_law_2104 ?_
      have hcmp : lg_cmp (lob (.inl bb) fo ((0 : Int32).toNatClampNeg)) ((0 : Int64)) = 0 := by
        have h1 : lob (.inl bb) fo ((0 : Int32).toNatClampNeg) = ((0 : Int64)) := by
          show (if (0 : Int32).toNatClampNeg = 0 then (if bb = 0 then (0 : Int64) else 1) else fo ((0 : Int32).toNatClampNeg)) = _
          rw [if_pos (by decide), if_pos hbb]
        rw [h1]
        exact l_cmp0 _
      refine lv_if_eq (tgt := 2110) hx hb dL_law_2105 (by decide) (fun _ => ?_) (fun h => absurd hcmp h)
      refine lv_goto (tgt := 2410) hx hb dL_law_2110 (by decide) ?_
      have hl9 := lv_sub hl [2, 3, 4, 5, 6] (l' := [(0, .ref b), (1, .ref (q (0))), (2, .ref (q2 (0))), (3, .ref o), (4, .int (nI (5 * j)))]) rfl
      exact W.widen (k := C + 4) (n := S + 24) (by omega) (by omega) (kk _ _ _ _ hP hM hO hS hl9)
    · refine lv_if_eq (tgt := 2103) hx hb dL_law_2096 (by decide) (fun h => absurd h hbb) (fun _ => ?_)
      refine lv_lconst (v := (1 : Int64)) hx hb dL_law_2099 (by decide) ?_
      refine lv_goto (tgt := 2104) hx hb dL_law_2100 (by decide) ?_
      refine W.lcmp hx hb dL_law_2104 ?_
      have hcmp : lg_cmp (lob (.inl bb) fo ((0 : Int32).toNatClampNeg)) ((1 : Int64)) = 0 := by
        have h1 : lob (.inl bb) fo ((0 : Int32).toNatClampNeg) = ((1 : Int64)) := by
          show (if (0 : Int32).toNatClampNeg = 0 then (if bb = 0 then (0 : Int64) else 1) else fo ((0 : Int32).toNatClampNeg)) = _
          rw [if_pos (by decide), if_neg hbb]
        rw [h1]
        exact l_cmp0 _
      refine lv_if_eq (tgt := 2110) hx hb dL_law_2105 (by decide) (fun _ => ?_) (fun h => absurd hcmp h)
      refine lv_goto (tgt := 2410) hx hb dL_law_2110 (by decide) ?_
      have hl9 := lv_sub hl [2, 3, 4, 5, 6] (l' := [(0, .ref b), (1, .ref (q (0))), (2, .ref (q2 (0))), (3, .ref o), (4, .int (nI (5 * j)))]) rfl
      exact W.widen (k := C + 4) (n := S + 24) (by omega) (by omega) (kk _ _ _ _ hP hM hO hS hl9)
  · refine lv_if_ne (tgt := 2110) hx hb dL_law_2088 (by decide) (fun _ => ?_) (fun h => absurd h ht0)
    refine lv_goto (tgt := 2410) hx hb dL_law_2110 (by decide) ?_
    have hl9 := lv_sub hl [2, 3, 4, 5, 6] (l' := [(0, .ref b), (1, .ref (q (0))), (2, .ref (q2 (0))), (3, .ref o), (4, .int (nI (5 * j)))]) rfl
    exact W.widen (k := C + 4) (n := S + 24) (by omega) (by omega) (kk _ _ _ _ hP hM hO hS hl9)
set_option maxHeartbeats 4000000 in
set_option maxRecDepth 100000 in
theorem lc_arm {p : Program} {l : Launch} {e : Env} {s : State} {m : MethodId} {args : Array Value} {below : List Frame} {meth : Method} {c : Code} {Q : State → Prop} {b L : Nat} {xs : Nat → Int32} {D : va_G} {cy : Nat → ClassId} {q q2 : Nat → Nat} {o : Nat} (F0_ : lF p l s m args c b L xs D cy q q2 o) {σ μ : TS} {fo : Nat → Int64} {H : Heap} {locs : List Loc} (hP : va_P D vwCl (gS 78 q (TX cy q) σ) H) (hM : va_P D vwCl (gS 39 q2 (MX cy q2) μ) H) (hO : va_P D vwCl (oW o cy fo) H) (hS : va_S (fun a => s.heap.size ≤ a) s.heap H locs) {j : Nat} (hj : 5 * j + 5 ≤ L) {ls : Array Slot} (hl : lv_has ls 9 [(0, .ref b), (1, .ref (q (0))), (2, .ref (q2 (0))), (3, .ref o), (4, .int (nI (5 * j)))]) {u v : TS} {z : Int32 ⊕ Nat} {bb : Int32} (h8 : sX8_arm (lchr (xs (5 * j + 1))) σ = some (z, u)) (h9 : sX9_arm (lchr (xs (5 * j + 1))) μ = some (bb, v)) (hI : okI [(2, 1)] z bb (v 0 0)) {C S : Nat} (hC : C + 4 ≤ 638203) (hSl : S + 24 ≤ 7181496) (kk : ∀ (fo1 : Nat → Int64) (H1 : Heap) (locs1 : List Loc) (ls1 : Array Slot), va_P D vwCl (gS 78 q (TX cy q) u) H1 → va_P D vwCl (gS 39 q2 (MX cy q2) v) H1 → va_P D vwCl (oW o cy fo1) H1 → va_S (fun a => s.heap.size ≤ a) s.heap H1 locs1 → lv_has ls1 9 [(0, .ref b), (1, .ref (q (0))), (2, .ref (q2 (0))), (3, .ref o), (4, .int (nI (5 * j)))] → W p l e room_1 s m args below meth c H1 locs1 (C + 4) (S + 24) Q (F0 m 2410 ls1 [])) : W p l e room_1 s m args below meth c H locs C S Q (F0 m 2113 ls []) := by
  obtain ⟨hx, hb, hml, hown, hts, hXs, hbl, hL0, hK, hX, hNt, hlf, hJ, hJ2, hAT, hAM, hAo, hdis, hoT, hoM⟩ := F0_
  have hAO : ∀ a, hA q o a → s.heap.size ≤ a := fun a h => h.elim (fun h => hAT a h) (fun h => by rw [h]; exact hAo)
  have hdM : ∀ a, gA 39 q2 a → ¬ hA q o a := fun a h h2 => h2.elim (fun h3 => hdis a h h3) (fun h3 => hoM (by rw [← h3]; exact h))
  have hdT : ∀ a, gA 78 q a → ¬ gA 39 q2 a := fun a h h2 => hdis a h2 h
  obtain ⟨t, hz, ht, hcase⟩ := hI
  refine lv_aload_n hx hb dL_law_2113 rfl (lv_at hl 1 rfl) ?_
  refine lv_aload_n hx hb dL_law_2114 rfl (lv_at hl 0 rfl) ?_
  refine lv_iload hx hb dL_law_2115 (lv_at hl 4 rfl) ?_
  refine lv_iconst (v := (1 : Int32)) hx hb dL_law_2117 (by decide) ?_
  refine lv_iadd hx hb dL_law_2118 ?_
  refine l_sld hx hb hXs hbl hS hL0 1 (by decide) (by omega) dL_law_2119 ?_
  refine lv_i2c (v := lchr (xs (5 * j + 1))) hx hb dL_law_2120 rfl ?_
  refine lv_aload_n hx hb dL_law_2121 rfl (lv_at hl 3 rfl) ?_
  refine l_cS (As := [.ref (q (0)), .int (lchr (xs (5 * j + 1))), .ref o]) (rest := []) (WO := gS 39 q2 (MX cy q2) μ) hx hb hml hown hts hK hX hNt hAO hP hO hM (l_dM hdM) hS (mL_arm l hlf hJ hoT h8 hz) (vx_cwSW 3 hts gL_law_L_arm rfl rfl rfl (by decide +kernel) ⟨Nat.le_of_ble_eq_true rfl, Nat.le_of_ble_eq_true rfl⟩) rfl hl.1 rfl (Nat.le_of_ble_eq_true rfl) dL_law_2122 ⟨by show C + _ ≤ 638203; omega, by show S + _ ≤ 7181496; omega⟩ (fun H locs hP hO hM hS => ?_)
  refine lv_istore (lv' := [(5, .int t), (0, .ref b), (1, .ref (q (0))), (2, .ref (q2 (0))), (3, .ref o), (4, .int (nI (5 * j)))]) hx hb dL_law_2125 hl (by decide) rfl (fun ls hl => ?_)
  refine lv_aload_n hx hb dL_law_2127 rfl (lv_at hl 3 rfl) ?_
  refine lv_aload_n hx hb dL_law_2128 rfl (lv_at hl 1 rfl) ?_
  refine lv_iload hx hb dL_law_2129 (lv_at hl 5 rfl) ?_
  refine lv_iconst (v := (1 : Int32)) hx hb dL_law_2131 (by decide) ?_
  refine lv_iadd hx hb dL_law_2132 ?_
  refine l_sld hx hb hXs hbl hS hL0 1 (by decide) (by omega) dL_law_2133 ?_
  refine lv_i2c (v := lchr (xs (5 * j + 1))) hx hb dL_law_2134 rfl ?_
  refine l_cVi (As := [.int (lchr (xs (5 * j + 1)))]) (rest := []) (WO := gS 78 q (TX cy q) u ++ oW o cy _) hx hb hml hown hts hK hAM hM (hP.app hO) (l_app (l_dM hdT) (h_odis hoM)) hS (mX9_arm l hJ2 h9) (cwV 1 hts gL_law_X9_arm rfl rfl rfl nVX9_arm ⟨Nat.le_of_ble_eq_true rfl, Nat.le_of_ble_eq_true rfl⟩) (g_recv hK hM kk_Mod ce_Mod rfl) rfl hl.1 rfl (Nat.le_of_ble_eq_true rfl) dL_law_2135 ⟨by show C + _ ≤ 638203; omega, by show S + _ ≤ 7181496; omega⟩ (fun H locs hM hPO hS => ?_)
  have hP := w_first hPO
  have hO := w_last hPO
  clear hPO
  refine lv_istore (lv' := [(6, .int bb), (5, .int t), (0, .ref b), (1, .ref (q (0))), (2, .ref (q2 (0))), (3, .ref o), (4, .int (nI (5 * j)))]) hx hb dL_law_2138 hl (by decide) rfl (fun ls hl => ?_)
  refine lv_aload_n hx hb dL_law_2140 rfl (lv_at hl 4 rfl) ?_
  refine l_cVi (As := []) (rest := []) (WO := gS 78 q (TX cy q) u ++ oW o cy _) hx hb hml hown hts hK hAM hM (hP.app hO) (l_app (l_dM hdT) (h_odis hoM)) hS (mX9_thrown (σ := v) (r := v 0 0) (u := v) l hJ2 rfl) (cwV 0 hts gL_law_X9_thrown rfl rfl rfl nVX9_thrown ⟨Nat.le_of_ble_eq_true rfl, Nat.le_of_ble_eq_true rfl⟩) (g_recv hK hM kk_Mod ce_Mod rfl) rfl hl.1 rfl (Nat.le_of_ble_eq_true rfl) dL_law_2141 ⟨by show C + _ ≤ 638203; omega, by show S + _ ≤ 7181496; omega⟩ (fun H locs hM hPO hS => ?_)
  have hP := w_first hPO
  have hO := w_last hPO
  clear hPO
  refine lv_iload hx hb dL_law_2144 (lv_at hl 1 rfl) ?_
  refine lv_icmp_eq (tgt := 2151) hx hb dL_law_2146 (by decide) (fun _ => ?_) (fun h => absurd ht h)
  refine lv_iload hx hb dL_law_2151 (lv_at hl 1 rfl) ?_
  by_cases ht0 : t = 0
  · have hzb := hcase ht0
    subst hzb
    refine lv_if_ne (tgt := 2168) hx hb dL_law_2153 (by decide) (fun h => absurd ht0 h) (fun _ => ?_)
    refine lv_aload_n hx hb dL_law_2156 rfl (lv_at hl 5 rfl) ?_
    refine lv_iconst (v := (0 : Int32)) hx hb dL_law_2157 (by decide) ?_
    refine va_lald hx hb hK hO 0 9 rfl rfl (i := (0 : Int32)) (vin_of (by decide)) dL_law_2158 ?_
    refine lv_iload hx hb dL_law_2159 (lv_at hl 0 rfl) ?_
    refine lv_i2l hx hb dL_law_2161 rfl ?_
    refine W.lcmp hx hb dL_law_2162 ?_
    have hcmp : lg_cmp (lo (.inl bb) fo ((0 : Int32).toNatClampNeg)) bb.toInt64 = 0 := l_cmp0 _
    refine lv_if_eq (tgt := 2168) hx hb dL_law_2163 (by decide) (fun _ => ?_) (fun h => absurd hcmp h)
    refine lv_goto (tgt := 2410) hx hb dL_law_2168 (by decide) ?_
    have hl9 := lv_sub hl [2, 3, 4, 5, 6] (l' := [(0, .ref b), (1, .ref (q (0))), (2, .ref (q2 (0))), (3, .ref o), (4, .int (nI (5 * j)))]) rfl
    exact W.widen (k := C + 4) (n := S + 24) (by omega) (by omega) (kk _ _ _ _ hP hM hO hS hl9)
  · refine lv_if_ne (tgt := 2168) hx hb dL_law_2153 (by decide) (fun _ => ?_) (fun h => absurd h ht0)
    refine lv_goto (tgt := 2410) hx hb dL_law_2168 (by decide) ?_
    have hl9 := lv_sub hl [2, 3, 4, 5, 6] (l' := [(0, .ref b), (1, .ref (q (0))), (2, .ref (q2 (0))), (3, .ref o), (4, .int (nI (5 * j)))]) rfl
    exact W.widen (k := C + 4) (n := S + 24) (by omega) (by omega) (kk _ _ _ _ hP hM hO hS hl9)
set_option maxHeartbeats 4000000 in
set_option maxRecDepth 100000 in
theorem lc_give {p : Program} {l : Launch} {e : Env} {s : State} {m : MethodId} {args : Array Value} {below : List Frame} {meth : Method} {c : Code} {Q : State → Prop} {b L : Nat} {xs : Nat → Int32} {D : va_G} {cy : Nat → ClassId} {q q2 : Nat → Nat} {o : Nat} (F0_ : lF p l s m args c b L xs D cy q q2 o) {σ μ : TS} {fo : Nat → Int64} {H : Heap} {locs : List Loc} (hP : va_P D vwCl (gS 78 q (TX cy q) σ) H) (hM : va_P D vwCl (gS 39 q2 (MX cy q2) μ) H) (hO : va_P D vwCl (oW o cy fo) H) (hS : va_S (fun a => s.heap.size ≤ a) s.heap H locs) {j : Nat} (hj : 5 * j + 5 ≤ L) {ls : Array Slot} (hl : lv_has ls 9 [(0, .ref b), (1, .ref (q (0))), (2, .ref (q2 (0))), (3, .ref o), (4, .int (nI (5 * j)))]) {u v : TS} {z : Int32 ⊕ Nat} {bb : Int32} (h8 : sX8_give (lchr (xs (5 * j + 1))) σ = some (z, u)) (h9 : sX9_give (lchr (xs (5 * j + 1))) μ = some (bb, v)) (hI : okI [(2, 1), (4, 2)] z bb (v 0 0)) {C S : Nat} (hC : C + 4 ≤ 638203) (hSl : S + 24 ≤ 7181496) (kk : ∀ (fo1 : Nat → Int64) (H1 : Heap) (locs1 : List Loc) (ls1 : Array Slot), va_P D vwCl (gS 78 q (TX cy q) u) H1 → va_P D vwCl (gS 39 q2 (MX cy q2) v) H1 → va_P D vwCl (oW o cy fo1) H1 → va_S (fun a => s.heap.size ≤ a) s.heap H1 locs1 → lv_has ls1 9 [(0, .ref b), (1, .ref (q (0))), (2, .ref (q2 (0))), (3, .ref o), (4, .int (nI (5 * j)))] → W p l e room_1 s m args below meth c H1 locs1 (C + 4) (S + 24) Q (F0 m 2410 ls1 [])) : W p l e room_1 s m args below meth c H locs C S Q (F0 m 2171 ls []) := by
  obtain ⟨hx, hb, hml, hown, hts, hXs, hbl, hL0, hK, hX, hNt, hlf, hJ, hJ2, hAT, hAM, hAo, hdis, hoT, hoM⟩ := F0_
  have hAO : ∀ a, hA q o a → s.heap.size ≤ a := fun a h => h.elim (fun h => hAT a h) (fun h => by rw [h]; exact hAo)
  have hdM : ∀ a, gA 39 q2 a → ¬ hA q o a := fun a h h2 => h2.elim (fun h3 => hdis a h h3) (fun h3 => hoM (by rw [← h3]; exact h))
  have hdT : ∀ a, gA 78 q a → ¬ gA 39 q2 a := fun a h h2 => hdis a h2 h
  obtain ⟨t, hz, ht, hcase⟩ := hI
  refine lv_aload_n hx hb dL_law_2171 rfl (lv_at hl 1 rfl) ?_
  refine lv_aload_n hx hb dL_law_2172 rfl (lv_at hl 0 rfl) ?_
  refine lv_iload hx hb dL_law_2173 (lv_at hl 4 rfl) ?_
  refine lv_iconst (v := (1 : Int32)) hx hb dL_law_2175 (by decide) ?_
  refine lv_iadd hx hb dL_law_2176 ?_
  refine l_sld hx hb hXs hbl hS hL0 1 (by decide) (by omega) dL_law_2177 ?_
  refine lv_i2c (v := lchr (xs (5 * j + 1))) hx hb dL_law_2178 rfl ?_
  refine lv_aload_n hx hb dL_law_2179 rfl (lv_at hl 3 rfl) ?_
  refine l_cS (As := [.ref (q (0)), .int (lchr (xs (5 * j + 1))), .ref o]) (rest := []) (WO := gS 39 q2 (MX cy q2) μ) hx hb hml hown hts hK hX hNt hAO hP hO hM (l_dM hdM) hS (mL_give l hlf hJ hoT h8 hz) (vx_cwSW 3 hts gL_law_L_give rfl rfl rfl (by decide +kernel) ⟨Nat.le_of_ble_eq_true rfl, Nat.le_of_ble_eq_true rfl⟩) rfl hl.1 rfl (Nat.le_of_ble_eq_true rfl) dL_law_2180 ⟨by show C + _ ≤ 638203; omega, by show S + _ ≤ 7181496; omega⟩ (fun H locs hP hO hM hS => ?_)
  refine lv_istore (lv' := [(5, .int t), (0, .ref b), (1, .ref (q (0))), (2, .ref (q2 (0))), (3, .ref o), (4, .int (nI (5 * j)))]) hx hb dL_law_2183 hl (by decide) rfl (fun ls hl => ?_)
  refine lv_aload_n hx hb dL_law_2185 rfl (lv_at hl 3 rfl) ?_
  refine lv_aload_n hx hb dL_law_2186 rfl (lv_at hl 1 rfl) ?_
  refine lv_iload hx hb dL_law_2187 (lv_at hl 5 rfl) ?_
  refine lv_iconst (v := (1 : Int32)) hx hb dL_law_2189 (by decide) ?_
  refine lv_iadd hx hb dL_law_2190 ?_
  refine l_sld hx hb hXs hbl hS hL0 1 (by decide) (by omega) dL_law_2191 ?_
  refine lv_i2c (v := lchr (xs (5 * j + 1))) hx hb dL_law_2192 rfl ?_
  refine l_cVi (As := [.int (lchr (xs (5 * j + 1)))]) (rest := []) (WO := gS 78 q (TX cy q) u ++ oW o cy _) hx hb hml hown hts hK hAM hM (hP.app hO) (l_app (l_dM hdT) (h_odis hoM)) hS (mX9_give l hJ2 h9) (cwV 1 hts gL_law_X9_give rfl rfl rfl nVX9_give ⟨Nat.le_of_ble_eq_true rfl, Nat.le_of_ble_eq_true rfl⟩) (g_recv hK hM kk_Mod ce_Mod rfl) rfl hl.1 rfl (Nat.le_of_ble_eq_true rfl) dL_law_2193 ⟨by show C + _ ≤ 638203; omega, by show S + _ ≤ 7181496; omega⟩ (fun H locs hM hPO hS => ?_)
  have hP := w_first hPO
  have hO := w_last hPO
  clear hPO
  refine lv_istore (lv' := [(6, .int bb), (5, .int t), (0, .ref b), (1, .ref (q (0))), (2, .ref (q2 (0))), (3, .ref o), (4, .int (nI (5 * j)))]) hx hb dL_law_2196 hl (by decide) rfl (fun ls hl => ?_)
  refine lv_aload_n hx hb dL_law_2198 rfl (lv_at hl 4 rfl) ?_
  refine l_cVi (As := []) (rest := []) (WO := gS 78 q (TX cy q) u ++ oW o cy _) hx hb hml hown hts hK hAM hM (hP.app hO) (l_app (l_dM hdT) (h_odis hoM)) hS (mX9_thrown (σ := v) (r := v 0 0) (u := v) l hJ2 rfl) (cwV 0 hts gL_law_X9_thrown rfl rfl rfl nVX9_thrown ⟨Nat.le_of_ble_eq_true rfl, Nat.le_of_ble_eq_true rfl⟩) (g_recv hK hM kk_Mod ce_Mod rfl) rfl hl.1 rfl (Nat.le_of_ble_eq_true rfl) dL_law_2199 ⟨by show C + _ ≤ 638203; omega, by show S + _ ≤ 7181496; omega⟩ (fun H locs hM hPO hS => ?_)
  have hP := w_first hPO
  have hO := w_last hPO
  clear hPO
  refine lv_iload hx hb dL_law_2202 (lv_at hl 1 rfl) ?_
  refine lv_icmp_eq (tgt := 2209) hx hb dL_law_2204 (by decide) (fun _ => ?_) (fun h => absurd ht h)
  refine lv_iload hx hb dL_law_2209 (lv_at hl 1 rfl) ?_
  by_cases ht0 : t = 0
  · have hzb := hcase ht0
    subst hzb
    refine lv_if_ne (tgt := 2226) hx hb dL_law_2211 (by decide) (fun h => absurd ht0 h) (fun _ => ?_)
    refine lv_aload_n hx hb dL_law_2214 rfl (lv_at hl 5 rfl) ?_
    refine lv_iconst (v := (0 : Int32)) hx hb dL_law_2215 (by decide) ?_
    refine va_lald hx hb hK hO 0 9 rfl rfl (i := (0 : Int32)) (vin_of (by decide)) dL_law_2216 ?_
    refine lv_iload hx hb dL_law_2217 (lv_at hl 0 rfl) ?_
    refine lv_i2l hx hb dL_law_2219 rfl ?_
    refine W.lcmp hx hb dL_law_2220 ?_
    have hcmp : lg_cmp (lo (.inl bb) fo ((0 : Int32).toNatClampNeg)) bb.toInt64 = 0 := l_cmp0 _
    refine lv_if_eq (tgt := 2226) hx hb dL_law_2221 (by decide) (fun _ => ?_) (fun h => absurd hcmp h)
    refine lv_goto (tgt := 2410) hx hb dL_law_2226 (by decide) ?_
    have hl9 := lv_sub hl [2, 3, 4, 5, 6] (l' := [(0, .ref b), (1, .ref (q (0))), (2, .ref (q2 (0))), (3, .ref o), (4, .int (nI (5 * j)))]) rfl
    exact W.widen (k := C + 4) (n := S + 24) (by omega) (by omega) (kk _ _ _ _ hP hM hO hS hl9)
  · refine lv_if_ne (tgt := 2226) hx hb dL_law_2211 (by decide) (fun _ => ?_) (fun h => absurd h ht0)
    refine lv_goto (tgt := 2410) hx hb dL_law_2226 (by decide) ?_
    have hl9 := lv_sub hl [2, 3, 4, 5, 6] (l' := [(0, .ref b), (1, .ref (q (0))), (2, .ref (q2 (0))), (3, .ref o), (4, .int (nI (5 * j)))]) rfl
    exact W.widen (k := C + 4) (n := S + 24) (by omega) (by omega) (kk _ _ _ _ hP hM hO hS hl9)
set_option maxHeartbeats 4000000 in
set_option maxRecDepth 100000 in
theorem lc_line {p : Program} {l : Launch} {e : Env} {s : State} {m : MethodId} {args : Array Value} {below : List Frame} {meth : Method} {c : Code} {Q : State → Prop} {b L : Nat} {xs : Nat → Int32} {D : va_G} {cy : Nat → ClassId} {q q2 : Nat → Nat} {o : Nat} (F0_ : lF p l s m args c b L xs D cy q q2 o) {σ μ : TS} {fo : Nat → Int64} {H : Heap} {locs : List Loc} (hP : va_P D vwCl (gS 78 q (TX cy q) σ) H) (hM : va_P D vwCl (gS 39 q2 (MX cy q2) μ) H) (hO : va_P D vwCl (oW o cy fo) H) (hS : va_S (fun a => s.heap.size ≤ a) s.heap H locs) {j : Nat} (hj : 5 * j + 5 ≤ L) {ls : Array Slot} (hl : lv_has ls 9 [(0, .ref b), (1, .ref (q (0))), (2, .ref (q2 (0))), (3, .ref o), (4, .int (nI (5 * j)))]) {u v : TS} {z : Int32 ⊕ Nat} {bb : Int32} (h8 : sX8_line (xs (5 * j + 1)) (lchr (xs (5 * j + 2))) σ = some (z, u)) (h9 : sX9_line (xs (5 * j + 1)) (lchr (xs (5 * j + 2))) μ = some (bb, v)) (hI : okI [(2, 1), (5, 2)] z bb (v 0 0)) {C S : Nat} (hC : C + 4 ≤ 638203) (hSl : S + 24 ≤ 7181496) (kk : ∀ (fo1 : Nat → Int64) (H1 : Heap) (locs1 : List Loc) (ls1 : Array Slot), va_P D vwCl (gS 78 q (TX cy q) u) H1 → va_P D vwCl (gS 39 q2 (MX cy q2) v) H1 → va_P D vwCl (oW o cy fo1) H1 → va_S (fun a => s.heap.size ≤ a) s.heap H1 locs1 → lv_has ls1 9 [(0, .ref b), (1, .ref (q (0))), (2, .ref (q2 (0))), (3, .ref o), (4, .int (nI (5 * j)))] → W p l e room_1 s m args below meth c H1 locs1 (C + 4) (S + 24) Q (F0 m 2410 ls1 [])) : W p l e room_1 s m args below meth c H locs C S Q (F0 m 2229 ls []) := by
  obtain ⟨hx, hb, hml, hown, hts, hXs, hbl, hL0, hK, hX, hNt, hlf, hJ, hJ2, hAT, hAM, hAo, hdis, hoT, hoM⟩ := F0_
  have hAO : ∀ a, hA q o a → s.heap.size ≤ a := fun a h => h.elim (fun h => hAT a h) (fun h => by rw [h]; exact hAo)
  have hdM : ∀ a, gA 39 q2 a → ¬ hA q o a := fun a h h2 => h2.elim (fun h3 => hdis a h h3) (fun h3 => hoM (by rw [← h3]; exact h))
  have hdT : ∀ a, gA 78 q a → ¬ gA 39 q2 a := fun a h h2 => hdis a h2 h
  obtain ⟨t, hz, ht, hcase⟩ := hI
  refine lv_aload_n hx hb dL_law_2229 rfl (lv_at hl 1 rfl) ?_
  refine lv_aload_n hx hb dL_law_2230 rfl (lv_at hl 0 rfl) ?_
  refine lv_iload hx hb dL_law_2231 (lv_at hl 4 rfl) ?_
  refine lv_iconst (v := (1 : Int32)) hx hb dL_law_2233 (by decide) ?_
  refine lv_iadd hx hb dL_law_2234 ?_
  refine l_sld hx hb hXs hbl hS hL0 1 (by decide) (by omega) dL_law_2235 ?_
  refine lv_aload_n hx hb dL_law_2236 rfl (lv_at hl 0 rfl) ?_
  refine lv_iload hx hb dL_law_2237 (lv_at hl 4 rfl) ?_
  refine lv_iconst (v := (2 : Int32)) hx hb dL_law_2239 (by decide) ?_
  refine lv_iadd hx hb dL_law_2240 ?_
  refine l_sld hx hb hXs hbl hS hL0 2 (by decide) (by omega) dL_law_2241 ?_
  refine lv_i2c (v := lchr (xs (5 * j + 2))) hx hb dL_law_2242 rfl ?_
  refine lv_aload_n hx hb dL_law_2243 rfl (lv_at hl 3 rfl) ?_
  refine l_cS (As := [.ref (q (0)), .int (xs (5 * j + 1)), .int (lchr (xs (5 * j + 2))), .ref o]) (rest := []) (WO := gS 39 q2 (MX cy q2) μ) hx hb hml hown hts hK hX hNt hAO hP hO hM (l_dM hdM) hS (mL_line l hlf hJ hoT h8 hz) (vx_cwSW 4 hts gL_law_L_line rfl rfl rfl (by decide +kernel) ⟨Nat.le_of_ble_eq_true rfl, Nat.le_of_ble_eq_true rfl⟩) rfl hl.1 rfl (Nat.le_of_ble_eq_true rfl) dL_law_2244 ⟨by show C + _ ≤ 638203; omega, by show S + _ ≤ 7181496; omega⟩ (fun H locs hP hO hM hS => ?_)
  refine lv_istore (lv' := [(5, .int t), (0, .ref b), (1, .ref (q (0))), (2, .ref (q2 (0))), (3, .ref o), (4, .int (nI (5 * j)))]) hx hb dL_law_2247 hl (by decide) rfl (fun ls hl => ?_)
  refine lv_aload_n hx hb dL_law_2249 rfl (lv_at hl 3 rfl) ?_
  refine lv_aload_n hx hb dL_law_2250 rfl (lv_at hl 1 rfl) ?_
  refine lv_iload hx hb dL_law_2251 (lv_at hl 5 rfl) ?_
  refine lv_iconst (v := (1 : Int32)) hx hb dL_law_2253 (by decide) ?_
  refine lv_iadd hx hb dL_law_2254 ?_
  refine l_sld hx hb hXs hbl hS hL0 1 (by decide) (by omega) dL_law_2255 ?_
  refine lv_aload_n hx hb dL_law_2256 rfl (lv_at hl 1 rfl) ?_
  refine lv_iload hx hb dL_law_2257 (lv_at hl 5 rfl) ?_
  refine lv_iconst (v := (2 : Int32)) hx hb dL_law_2259 (by decide) ?_
  refine lv_iadd hx hb dL_law_2260 ?_
  refine l_sld hx hb hXs hbl hS hL0 2 (by decide) (by omega) dL_law_2261 ?_
  refine lv_i2c (v := lchr (xs (5 * j + 2))) hx hb dL_law_2262 rfl ?_
  refine l_cVi (As := [.int (xs (5 * j + 1)), .int (lchr (xs (5 * j + 2)))]) (rest := []) (WO := gS 78 q (TX cy q) u ++ oW o cy _) hx hb hml hown hts hK hAM hM (hP.app hO) (l_app (l_dM hdT) (h_odis hoM)) hS (mX9_line l hJ2 h9) (cwV 2 hts gL_law_X9_line rfl rfl rfl nVX9_line ⟨Nat.le_of_ble_eq_true rfl, Nat.le_of_ble_eq_true rfl⟩) (g_recv hK hM kk_Mod ce_Mod rfl) rfl hl.1 rfl (Nat.le_of_ble_eq_true rfl) dL_law_2263 ⟨by show C + _ ≤ 638203; omega, by show S + _ ≤ 7181496; omega⟩ (fun H locs hM hPO hS => ?_)
  have hP := w_first hPO
  have hO := w_last hPO
  clear hPO
  refine lv_istore (lv' := [(6, .int bb), (5, .int t), (0, .ref b), (1, .ref (q (0))), (2, .ref (q2 (0))), (3, .ref o), (4, .int (nI (5 * j)))]) hx hb dL_law_2266 hl (by decide) rfl (fun ls hl => ?_)
  refine lv_aload_n hx hb dL_law_2268 rfl (lv_at hl 4 rfl) ?_
  refine l_cVi (As := []) (rest := []) (WO := gS 78 q (TX cy q) u ++ oW o cy _) hx hb hml hown hts hK hAM hM (hP.app hO) (l_app (l_dM hdT) (h_odis hoM)) hS (mX9_thrown (σ := v) (r := v 0 0) (u := v) l hJ2 rfl) (cwV 0 hts gL_law_X9_thrown rfl rfl rfl nVX9_thrown ⟨Nat.le_of_ble_eq_true rfl, Nat.le_of_ble_eq_true rfl⟩) (g_recv hK hM kk_Mod ce_Mod rfl) rfl hl.1 rfl (Nat.le_of_ble_eq_true rfl) dL_law_2269 ⟨by show C + _ ≤ 638203; omega, by show S + _ ≤ 7181496; omega⟩ (fun H locs hM hPO hS => ?_)
  have hP := w_first hPO
  have hO := w_last hPO
  clear hPO
  refine lv_iload hx hb dL_law_2272 (lv_at hl 1 rfl) ?_
  refine lv_icmp_eq (tgt := 2279) hx hb dL_law_2274 (by decide) (fun _ => ?_) (fun h => absurd ht h)
  refine lv_iload hx hb dL_law_2279 (lv_at hl 1 rfl) ?_
  by_cases ht0 : t = 0
  · have hzb := hcase ht0
    subst hzb
    refine lv_if_ne (tgt := 2296) hx hb dL_law_2281 (by decide) (fun h => absurd ht0 h) (fun _ => ?_)
    refine lv_aload_n hx hb dL_law_2284 rfl (lv_at hl 5 rfl) ?_
    refine lv_iconst (v := (0 : Int32)) hx hb dL_law_2285 (by decide) ?_
    refine va_lald hx hb hK hO 0 9 rfl rfl (i := (0 : Int32)) (vin_of (by decide)) dL_law_2286 ?_
    refine lv_iload hx hb dL_law_2287 (lv_at hl 0 rfl) ?_
    refine lv_i2l hx hb dL_law_2289 rfl ?_
    refine W.lcmp hx hb dL_law_2290 ?_
    have hcmp : lg_cmp (lo (.inl bb) fo ((0 : Int32).toNatClampNeg)) bb.toInt64 = 0 := l_cmp0 _
    refine lv_if_eq (tgt := 2296) hx hb dL_law_2291 (by decide) (fun _ => ?_) (fun h => absurd hcmp h)
    refine lv_goto (tgt := 2410) hx hb dL_law_2296 (by decide) ?_
    have hl9 := lv_sub hl [2, 3, 4, 5, 6] (l' := [(0, .ref b), (1, .ref (q (0))), (2, .ref (q2 (0))), (3, .ref o), (4, .int (nI (5 * j)))]) rfl
    exact W.widen (k := C + 4) (n := S + 24) (by omega) (by omega) (kk _ _ _ _ hP hM hO hS hl9)
  · refine lv_if_ne (tgt := 2296) hx hb dL_law_2281 (by decide) (fun _ => ?_) (fun h => absurd h ht0)
    refine lv_goto (tgt := 2410) hx hb dL_law_2296 (by decide) ?_
    have hl9 := lv_sub hl [2, 3, 4, 5, 6] (l' := [(0, .ref b), (1, .ref (q (0))), (2, .ref (q2 (0))), (3, .ref o), (4, .int (nI (5 * j)))]) rfl
    exact W.widen (k := C + 4) (n := S + 24) (by omega) (by omega) (kk _ _ _ _ hP hM hO hS hl9)
set_option maxHeartbeats 4000000 in
set_option maxRecDepth 100000 in
theorem lc_onShare {p : Program} {l : Launch} {e : Env} {s : State} {m : MethodId} {args : Array Value} {below : List Frame} {meth : Method} {c : Code} {Q : State → Prop} {b L : Nat} {xs : Nat → Int32} {D : va_G} {cy : Nat → ClassId} {q q2 : Nat → Nat} {o : Nat} (F0_ : lF p l s m args c b L xs D cy q q2 o) {σ μ : TS} {fo : Nat → Int64} {H : Heap} {locs : List Loc} (hP : va_P D vwCl (gS 78 q (TX cy q) σ) H) (hM : va_P D vwCl (gS 39 q2 (MX cy q2) μ) H) (hO : va_P D vwCl (oW o cy fo) H) (hS : va_S (fun a => s.heap.size ≤ a) s.heap H locs) {j : Nat} (hj : 5 * j + 5 ≤ L) {ls : Array Slot} (hl : lv_has ls 9 [(0, .ref b), (1, .ref (q (0))), (2, .ref (q2 (0))), (3, .ref o), (4, .int (nI (5 * j)))]) {u v : TS} {bb : UInt32} (h8 : sX8_onShare σ = some (bb, u)) (h9 : sX9_onShare μ = some (bb, v)) (hn : vf_n64 (FP.f2d bb)) (hc : Op.cmpValue (FP.dcmp (FP.f2d bb) (FP.f2d bb)) .l = 0) {C S : Nat} (hC : C + 4 ≤ 638203) (hSl : S + 24 ≤ 7181496) (kk : ∀ (fo1 : Nat → Int64) (H1 : Heap) (locs1 : List Loc) (ls1 : Array Slot), va_P D vwCl (gS 78 q (TX cy q) u) H1 → va_P D vwCl (gS 39 q2 (MX cy q2) v) H1 → va_P D vwCl (oW o cy fo1) H1 → va_S (fun a => s.heap.size ≤ a) s.heap H1 locs1 → lv_has ls1 9 [(0, .ref b), (1, .ref (q (0))), (2, .ref (q2 (0))), (3, .ref o), (4, .int (nI (5 * j)))] → W p l e room_1 s m args below meth c H1 locs1 (C + 4) (S + 24) Q (F0 m 2410 ls1 [])) : W p l e room_1 s m args below meth c H locs C S Q (F0 m 2299 ls []) := by
  obtain ⟨hx, hb, hml, hown, hts, hXs, hbl, hL0, hK, hX, hNt, hlf, hJ, hJ2, hAT, hAM, hAo, hdis, hoT, hoM⟩ := F0_
  have hAO : ∀ a, hA q o a → s.heap.size ≤ a := fun a h => h.elim (fun h => hAT a h) (fun h => by rw [h]; exact hAo)
  have hdM : ∀ a, gA 39 q2 a → ¬ hA q o a := fun a h h2 => h2.elim (fun h3 => hdis a h h3) (fun h3 => hoM (by rw [← h3]; exact h))
  have hdT : ∀ a, gA 78 q a → ¬ gA 39 q2 a := fun a h h2 => hdis a h2 h
  refine lv_aload_n hx hb dL_law_2299 rfl (lv_at hl 1 rfl) ?_
  refine l_cVf (As := []) (rest := []) (WO := gS 39 q2 (MX cy q2) μ ++ oW o cy fo) hx hb hml hown hts hK hAT hP (hM.app hO) (l_app (l_dM (fun a h => hdis a h)) (h_odis hoT)) hS (mX8_onShare l hJ h8) (cwV 0 hts gL_law_X8_onShare rfl rfl rfl nVX8_onShare ⟨Nat.le_of_ble_eq_true rfl, Nat.le_of_ble_eq_true rfl⟩) (g_recv hK hP kk_Tri ce_Tri rfl) rfl hl.1 rfl (Nat.le_of_ble_eq_true rfl) dL_law_2300 ⟨by show C ≤ 638203; omega, by show S ≤ 7181496; omega⟩ (fun H locs hP hMO hS => ?_)
  have hM := w_first hMO
  have hO := w_last hMO
  clear hMO
  refine lv_f2d hx hb dL_law_2303 hn ?_
  refine lv_dstore (lv' := [(5, .double (FP.f2d bb)), (0, .ref b), (1, .ref (q (0))), (2, .ref (q2 (0))), (3, .ref o), (4, .int (nI (5 * j)))]) hx hb dL_law_2304 hl (by decide) rfl (fun ls hl => ?_)
  refine lv_aload_n hx hb dL_law_2306 rfl (lv_at hl 3 rfl) ?_
  refine l_cVf (As := []) (rest := []) (WO := gS 78 q (TX cy q) u ++ oW o cy _) hx hb hml hown hts hK hAM hM (hP.app hO) (l_app (l_dM hdT) (h_odis hoM)) hS (mX9_onShare l hJ2 h9) (cwV 0 hts gL_law_X9_onShare rfl rfl rfl nVX9_onShare ⟨Nat.le_of_ble_eq_true rfl, Nat.le_of_ble_eq_true rfl⟩) (g_recv hK hM kk_Mod ce_Mod rfl) rfl hl.1 rfl (Nat.le_of_ble_eq_true rfl) dL_law_2307 ⟨by show C ≤ 638203; omega, by show S ≤ 7181496; omega⟩ (fun H locs hM hPO hS => ?_)
  have hP := w_first hPO
  have hO := w_last hPO
  clear hPO
  refine lv_f2d hx hb dL_law_2310 hn ?_
  refine lv_dstore (lv' := [(7, .double (FP.f2d bb)), (5, .double (FP.f2d bb)), (0, .ref b), (1, .ref (q (0))), (2, .ref (q2 (0))), (3, .ref o), (4, .int (nI (5 * j)))]) hx hb dL_law_2311 hl (by decide) rfl (fun ls hl => ?_)
  refine lv_dload hx hb dL_law_2313 (lv_at hl 1 rfl) ?_
  refine lv_dload hx hb dL_law_2315 (lv_at hl 0 rfl) ?_
  refine lv_dcmp hx hb dL_law_2317 ?_
  have hcmp := hc
  refine lv_if_eq (tgt := 2339) hx hb dL_law_2318 (by decide) (fun _ => ?_) (fun h => absurd hcmp h)
  refine lv_goto (tgt := 2410) hx hb dL_law_2339 (by decide) ?_
  have hl9 := lv_sub hl [2, 3, 4, 5, 6] (l' := [(0, .ref b), (1, .ref (q (0))), (2, .ref (q2 (0))), (3, .ref o), (4, .int (nI (5 * j)))]) rfl
  exact W.widen (k := C + 4) (n := S + 24) (by omega) (by omega) (kk _ _ _ _ hP hM hO hS hl9)
set_option maxHeartbeats 4000000 in
set_option maxRecDepth 100000 in
theorem lc_meanOutput {p : Program} {l : Launch} {e : Env} {s : State} {m : MethodId} {args : Array Value} {below : List Frame} {meth : Method} {c : Code} {Q : State → Prop} {b L : Nat} {xs : Nat → Int32} {D : va_G} {cy : Nat → ClassId} {q q2 : Nat → Nat} {o : Nat} (F0_ : lF p l s m args c b L xs D cy q q2 o) {σ μ : TS} {fo : Nat → Int64} {H : Heap} {locs : List Loc} (hP : va_P D vwCl (gS 78 q (TX cy q) σ) H) (hM : va_P D vwCl (gS 39 q2 (MX cy q2) μ) H) (hO : va_P D vwCl (oW o cy fo) H) (hS : va_S (fun a => s.heap.size ≤ a) s.heap H locs) {j : Nat} (hj : 5 * j + 5 ≤ L) {ls : Array Slot} (hl : lv_has ls 9 [(0, .ref b), (1, .ref (q (0))), (2, .ref (q2 (0))), (3, .ref o), (4, .int (nI (5 * j)))]) {u v : TS} {bb : UInt64} (h8 : sX8_meanOutput σ = some (bb, u)) (h9 : sX9_meanOutput μ = some (bb, v)) (hc : Op.cmpValue (FP.dcmp bb bb) .l = 0) {C S : Nat} (hC : C + 4 ≤ 638203) (hSl : S + 24 ≤ 7181496) (kk : ∀ (fo1 : Nat → Int64) (H1 : Heap) (locs1 : List Loc) (ls1 : Array Slot), va_P D vwCl (gS 78 q (TX cy q) u) H1 → va_P D vwCl (gS 39 q2 (MX cy q2) v) H1 → va_P D vwCl (oW o cy fo1) H1 → va_S (fun a => s.heap.size ≤ a) s.heap H1 locs1 → lv_has ls1 9 [(0, .ref b), (1, .ref (q (0))), (2, .ref (q2 (0))), (3, .ref o), (4, .int (nI (5 * j)))] → W p l e room_1 s m args below meth c H1 locs1 (C + 4) (S + 24) Q (F0 m 2410 ls1 [])) : W p l e room_1 s m args below meth c H locs C S Q (F0 m 2342 ls []) := by
  obtain ⟨hx, hb, hml, hown, hts, hXs, hbl, hL0, hK, hX, hNt, hlf, hJ, hJ2, hAT, hAM, hAo, hdis, hoT, hoM⟩ := F0_
  have hAO : ∀ a, hA q o a → s.heap.size ≤ a := fun a h => h.elim (fun h => hAT a h) (fun h => by rw [h]; exact hAo)
  have hdM : ∀ a, gA 39 q2 a → ¬ hA q o a := fun a h h2 => h2.elim (fun h3 => hdis a h h3) (fun h3 => hoM (by rw [← h3]; exact h))
  have hdT : ∀ a, gA 78 q a → ¬ gA 39 q2 a := fun a h h2 => hdis a h2 h
  refine lv_aload_n hx hb dL_law_2342 rfl (lv_at hl 1 rfl) ?_
  refine l_cVd (As := []) (rest := []) (WO := gS 39 q2 (MX cy q2) μ ++ oW o cy fo) hx hb hml hown hts hK hAT hP (hM.app hO) (l_app (l_dM (fun a h => hdis a h)) (h_odis hoT)) hS (mX8_meanOutput l hJ h8) (cwV 0 hts gL_law_X8_meanOutput rfl rfl rfl nVX8_meanOutput ⟨Nat.le_of_ble_eq_true rfl, Nat.le_of_ble_eq_true rfl⟩) (g_recv hK hP kk_Tri ce_Tri rfl) rfl hl.1 rfl (Nat.le_of_ble_eq_true rfl) dL_law_2343 ⟨by show C ≤ 638203; omega, by show S ≤ 7181496; omega⟩ (fun H locs hP hMO hS => ?_)
  have hM := w_first hMO
  have hO := w_last hMO
  clear hMO
  refine lv_dstore (lv' := [(5, .double bb), (0, .ref b), (1, .ref (q (0))), (2, .ref (q2 (0))), (3, .ref o), (4, .int (nI (5 * j)))]) hx hb dL_law_2346 hl (by decide) rfl (fun ls hl => ?_)
  refine lv_aload_n hx hb dL_law_2348 rfl (lv_at hl 3 rfl) ?_
  refine l_cVd (As := []) (rest := []) (WO := gS 78 q (TX cy q) u ++ oW o cy _) hx hb hml hown hts hK hAM hM (hP.app hO) (l_app (l_dM hdT) (h_odis hoM)) hS (mX9_meanOutput l hJ2 h9) (cwV 0 hts gL_law_X9_meanOutput rfl rfl rfl nVX9_meanOutput ⟨Nat.le_of_ble_eq_true rfl, Nat.le_of_ble_eq_true rfl⟩) (g_recv hK hM kk_Mod ce_Mod rfl) rfl hl.1 rfl (Nat.le_of_ble_eq_true rfl) dL_law_2349 ⟨by show C ≤ 638203; omega, by show S ≤ 7181496; omega⟩ (fun H locs hM hPO hS => ?_)
  have hP := w_first hPO
  have hO := w_last hPO
  clear hPO
  refine lv_dstore (lv' := [(7, .double bb), (5, .double bb), (0, .ref b), (1, .ref (q (0))), (2, .ref (q2 (0))), (3, .ref o), (4, .int (nI (5 * j)))]) hx hb dL_law_2352 hl (by decide) rfl (fun ls hl => ?_)
  refine lv_dload hx hb dL_law_2354 (lv_at hl 1 rfl) ?_
  refine lv_dload hx hb dL_law_2356 (lv_at hl 0 rfl) ?_
  refine lv_dcmp hx hb dL_law_2358 ?_
  have hcmp := hc
  refine lv_if_eq (tgt := 2380) hx hb dL_law_2359 (by decide) (fun _ => ?_) (fun h => absurd hcmp h)
  refine lv_goto (tgt := 2410) hx hb dL_law_2380 (by decide) ?_
  have hl9 := lv_sub hl [2, 3, 4, 5, 6] (l' := [(0, .ref b), (1, .ref (q (0))), (2, .ref (q2 (0))), (3, .ref o), (4, .int (nI (5 * j)))]) rfl
  exact W.widen (k := C + 4) (n := S + 24) (by omega) (by omega) (kk _ _ _ _ hP hM hO hS hl9)
set_option maxHeartbeats 4000000 in
set_option maxRecDepth 100000 in
theorem lc_checksum {p : Program} {l : Launch} {e : Env} {s : State} {m : MethodId} {args : Array Value} {below : List Frame} {meth : Method} {c : Code} {Q : State → Prop} {b L : Nat} {xs : Nat → Int32} {D : va_G} {cy : Nat → ClassId} {q q2 : Nat → Nat} {o : Nat} (F0_ : lF p l s m args c b L xs D cy q q2 o) {σ μ : TS} {fo : Nat → Int64} {H : Heap} {locs : List Loc} (hP : va_P D vwCl (gS 78 q (TX cy q) σ) H) (hM : va_P D vwCl (gS 39 q2 (MX cy q2) μ) H) (hO : va_P D vwCl (oW o cy fo) H) (hS : va_S (fun a => s.heap.size ≤ a) s.heap H locs) {j : Nat} (hj : 5 * j + 5 ≤ L) {ls : Array Slot} (hl : lv_has ls 9 [(0, .ref b), (1, .ref (q (0))), (2, .ref (q2 (0))), (3, .ref o), (4, .int (nI (5 * j)))]) {u v : TS} {bb : Int64} (h8 : sX8_checksum σ = some (bb, u)) (h9 : sX9_checksum μ = some (bb, v)) {C S : Nat} (hC : C + 4 ≤ 638203) (hSl : S + 24 ≤ 7181496) (kk : ∀ (fo1 : Nat → Int64) (H1 : Heap) (locs1 : List Loc) (ls1 : Array Slot), va_P D vwCl (gS 78 q (TX cy q) u) H1 → va_P D vwCl (gS 39 q2 (MX cy q2) v) H1 → va_P D vwCl (oW o cy fo1) H1 → va_S (fun a => s.heap.size ≤ a) s.heap H1 locs1 → lv_has ls1 9 [(0, .ref b), (1, .ref (q (0))), (2, .ref (q2 (0))), (3, .ref o), (4, .int (nI (5 * j)))] → W p l e room_1 s m args below meth c H1 locs1 (C + 4) (S + 24) Q (F0 m 2410 ls1 [])) : W p l e room_1 s m args below meth c H locs C S Q (F0 m 2383 ls []) := by
  obtain ⟨hx, hb, hml, hown, hts, hXs, hbl, hL0, hK, hX, hNt, hlf, hJ, hJ2, hAT, hAM, hAo, hdis, hoT, hoM⟩ := F0_
  have hAO : ∀ a, hA q o a → s.heap.size ≤ a := fun a h => h.elim (fun h => hAT a h) (fun h => by rw [h]; exact hAo)
  have hdM : ∀ a, gA 39 q2 a → ¬ hA q o a := fun a h h2 => h2.elim (fun h3 => hdis a h h3) (fun h3 => hoM (by rw [← h3]; exact h))
  have hdT : ∀ a, gA 78 q a → ¬ gA 39 q2 a := fun a h h2 => hdis a h2 h
  refine lv_aload_n hx hb dL_law_2383 rfl (lv_at hl 1 rfl) ?_
  refine l_cVl (As := []) (rest := []) (WO := gS 39 q2 (MX cy q2) μ ++ oW o cy fo) hx hb hml hown hts hK hAT hP (hM.app hO) (l_app (l_dM (fun a h => hdis a h)) (h_odis hoT)) hS (mX8_checksum l hJ h8) (cwV 0 hts gL_law_X8_checksum rfl rfl rfl nVX8_checksum ⟨Nat.le_of_ble_eq_true rfl, Nat.le_of_ble_eq_true rfl⟩) (g_recv hK hP kk_Tri ce_Tri rfl) rfl hl.1 rfl (Nat.le_of_ble_eq_true rfl) dL_law_2384 ⟨by show C ≤ 638203; omega, by show S ≤ 7181496; omega⟩ (fun H locs hP hMO hS => ?_)
  have hM := w_first hMO
  have hO := w_last hMO
  clear hMO
  refine lv_aload_n hx hb dL_law_2387 rfl (lv_at hl 2 rfl) ?_
  refine l_cVl (As := []) (rest := [.long bb]) (WO := gS 78 q (TX cy q) u ++ oW o cy _) hx hb hml hown hts hK hAM hM (hP.app hO) (l_app (l_dM hdT) (h_odis hoM)) hS (mX9_checksum l hJ2 h9) (cwV 0 hts gL_law_X9_checksum rfl rfl rfl nVX9_checksum ⟨Nat.le_of_ble_eq_true rfl, Nat.le_of_ble_eq_true rfl⟩) (g_recv hK hM kk_Mod ce_Mod rfl) rfl hl.1 rfl (Nat.le_of_ble_eq_true rfl) dL_law_2388 ⟨by show C ≤ 638203; omega, by show S ≤ 7181496; omega⟩ (fun H locs hM hPO hS => ?_)
  have hP := w_first hPO
  have hO := w_last hPO
  clear hPO
  refine W.lcmp hx hb dL_law_2391 ?_
  have hcmp : lg_cmp bb bb = 0 := l_cmp0 _
  refine lv_if_eq (tgt := 2410) hx hb dL_law_2392 (by decide) (fun _ => ?_) (fun h => absurd hcmp h)
  have hl9 := lv_sub hl [0, 1, 2, 3, 4] (l' := [(0, .ref b), (1, .ref (q (0))), (2, .ref (q2 (0))), (3, .ref o), (4, .int (nI (5 * j)))]) rfl
  exact W.widen (k := C + 4) (n := S + 24) (by omega) (by omega) (kk _ _ _ _ hP hM hO hS hl9)
set_option maxHeartbeats 4000000 in
set_option maxRecDepth 100000 in
theorem lc_isTrue {p : Program} {l : Launch} {e : Env} {s : State} {m : MethodId} {args : Array Value} {below : List Frame} {meth : Method} {c : Code} {Q : State → Prop} {b L : Nat} {xs : Nat → Int32} {D : va_G} {cy : Nat → ClassId} {q q2 : Nat → Nat} {o : Nat} (F0_ : lF p l s m args c b L xs D cy q q2 o) {σ μ : TS} {fo : Nat → Int64} {H : Heap} {locs : List Loc} (hP : va_P D vwCl (gS 78 q (TX cy q) σ) H) (hM : va_P D vwCl (gS 39 q2 (MX cy q2) μ) H) (hO : va_P D vwCl (oW o cy fo) H) (hS : va_S (fun a => s.heap.size ≤ a) s.heap H locs) {j : Nat} (hj : 5 * j + 5 ≤ L) {ls : Array Slot} (hl : lv_has ls 9 [(0, .ref b), (1, .ref (q (0))), (2, .ref (q2 (0))), (3, .ref o), (4, .int (nI (5 * j)))]) {u v : TS} {bb : Int32} (h8 : sX8_isTrue σ = some (bb, u)) (h9 : sX9_isTrue μ = some (bb, v)) {C S : Nat} (hC : C + 4 ≤ 638203) (hSl : S + 24 ≤ 7181496) (kk : ∀ (fo1 : Nat → Int64) (H1 : Heap) (locs1 : List Loc) (ls1 : Array Slot), va_P D vwCl (gS 78 q (TX cy q) u) H1 → va_P D vwCl (gS 39 q2 (MX cy q2) v) H1 → va_P D vwCl (oW o cy fo1) H1 → va_S (fun a => s.heap.size ≤ a) s.heap H1 locs1 → lv_has ls1 9 [(0, .ref b), (1, .ref (q (0))), (2, .ref (q2 (0))), (3, .ref o), (4, .int (nI (5 * j)))] → W p l e room_1 s m args below meth c H1 locs1 (C + 4) (S + 24) Q (F0 m 2410 ls1 [])) : W p l e room_1 s m args below meth c H locs C S Q (F0 m 2397 ls []) := by
  obtain ⟨hx, hb, hml, hown, hts, hXs, hbl, hL0, hK, hX, hNt, hlf, hJ, hJ2, hAT, hAM, hAo, hdis, hoT, hoM⟩ := F0_
  have hAO : ∀ a, hA q o a → s.heap.size ≤ a := fun a h => h.elim (fun h => hAT a h) (fun h => by rw [h]; exact hAo)
  have hdM : ∀ a, gA 39 q2 a → ¬ hA q o a := fun a h h2 => h2.elim (fun h3 => hdis a h h3) (fun h3 => hoM (by rw [← h3]; exact h))
  have hdT : ∀ a, gA 78 q a → ¬ gA 39 q2 a := fun a h h2 => hdis a h2 h
  refine lv_aload_n hx hb dL_law_2397 rfl (lv_at hl 1 rfl) ?_
  refine l_cVi (As := []) (rest := []) (WO := gS 39 q2 (MX cy q2) μ ++ oW o cy fo) hx hb hml hown hts hK hAT hP (hM.app hO) (l_app (l_dM (fun a h => hdis a h)) (h_odis hoT)) hS (mX8_isTrue l hJ h8) (cwV 0 hts gL_law_X8_isTrue rfl rfl rfl nVX8_isTrue ⟨Nat.le_of_ble_eq_true rfl, Nat.le_of_ble_eq_true rfl⟩) (g_recv hK hP kk_Tri ce_Tri rfl) rfl hl.1 rfl (Nat.le_of_ble_eq_true rfl) dL_law_2398 ⟨by show C ≤ 638203; omega, by show S ≤ 7181496; omega⟩ (fun H locs hP hMO hS => ?_)
  have hM := w_first hMO
  have hO := w_last hMO
  clear hMO
  refine lv_aload_n hx hb dL_law_2401 rfl (lv_at hl 2 rfl) ?_
  refine l_cVi (As := []) (rest := [.int bb]) (WO := gS 78 q (TX cy q) u ++ oW o cy _) hx hb hml hown hts hK hAM hM (hP.app hO) (l_app (l_dM hdT) (h_odis hoM)) hS (mX9_isTrue l hJ2 h9) (cwV 0 hts gL_law_X9_isTrue rfl rfl rfl nVX9_isTrue ⟨Nat.le_of_ble_eq_true rfl, Nat.le_of_ble_eq_true rfl⟩) (g_recv hK hM kk_Mod ce_Mod rfl) rfl hl.1 rfl (Nat.le_of_ble_eq_true rfl) dL_law_2402 ⟨by show C ≤ 638203; omega, by show S ≤ 7181496; omega⟩ (fun H locs hM hPO hS => ?_)
  have hP := w_first hPO
  have hO := w_last hPO
  clear hPO
  refine lv_icmp_eq (tgt := 2410) hx hb dL_law_2405 (by decide) (fun _ => ?_) (fun h => absurd rfl h)
  have hl9 := lv_sub hl [0, 1, 2, 3, 4] (l' := [(0, .ref b), (1, .ref (q (0))), (2, .ref (q2 (0))), (3, .ref o), (4, .int (nI (5 * j)))]) rfl
  exact W.widen (k := C + 4) (n := S + 24) (by omega) (by omega) (kk _ _ _ _ hP hM hO hS hl9)

theorem mwnL_full_1 : Cond.classLink RL 8 RX8 ∈ wsL_full := by decide +kernel
theorem mwnL_full_2 : Cond.instantiable RX8 16 ∈ wsL_full := by decide +kernel
theorem mwnL_full_3 : Cond.initialized RX8 ∈ wsL_full := by decide +kernel
theorem mwnL_full_4 : Cond.methodLink RL 138 yX8_init ∈ wsL_full := by decide +kernel
theorem mwnL_full_5 : Cond.instanceMethod yX8_init ∈ wsL_full := by decide +kernel
theorem mwbL_full_77 : Cond.constant RL 77 (-2000000003) ∈ wsL_full := by decide +kernel
theorem mwbL_full_80 : Cond.constant RL 80 (-2000000004) ∈ wsL_full := by decide +kernel
abbrev rmL_full : Room := { frames := 12, cells := 271, slots := 1814, locals := 460 }
theorem nVL_full : yL_full.cls ≠ "java/lang/invoke/MethodHandle" ∧ yL_full.cls ≠ "java/lang/invoke/VarHandle" ∧ (parseMethodDescriptor yL_full.desc).map (fun d => d.parameters.length) = some 1 := by decide +kernel
set_option maxHeartbeats 8000000 in
set_option maxRecDepth 100000 in
theorem mL_full (l : Launch) (hlf : l.stackTraces = false) {D : va_G} {cy : Nat → ClassId} {b L : Nat} {xs : Nat → Int32} (hL : L < 2 ^ 31) : Met l yL_full wsL_full rmL_full (va_Pc [.ref b] (fPre D cy b L xs)) (pQ 1) 271 1814 yN := by
  refine Met.ofW (cc := cL_full) (maxL := 4) (ret := (some .boolean)) (by decide +kernel) rfl ?_
  intro p e s m args below meth c s₁ B hml hv
  obtain ⟨rfl, ⟨hK, hN8⟩, ⟨hX, hNt⟩, hXs, hbl⟩ := hv
  have hx := B.exec
  have hb := B.bytes
  have hr := B.returns
  have hlocks := B.notSynchronized
  have hown : s.vm.findClass RL = some m.cls := findClass_of_methodNamed B.named
  have hts := atoms_spec (ws := wsL_full) B.pre
  have F : lG p l s m _ c cL_full 4 wsL_full D cy b L xs := ⟨hx, hb, hml, hown, hts, hK, hX, hNt, hlf, hN8, hXs, hbl⟩
  have hS : va_S (fun a : Nat => s.heap.size ≤ a) s.heap s.heap [] := va_S.rf
  have hP : va_P D vwCl [] s.heap := fun k q h => by simp at h
  have hD : va_D (fun a : Nat => s.heap.size ≤ a) [] := ⟨fun i j p q h => by simp at h, fun k q h => by simp at h⟩
  have hl := lv_entry ([.ref b]) (n := 4) (Nat.le_of_ble_eq_true rfl)
  rw [lg_entry_eq]
  generalize (lg_sl ([.ref b]) ++ List.replicate (4 - (lg_sl ([.ref b])).length) Slot.unset).toArray = ls at hl ⊢
  have hl : lv_has ls 4 [(0, .ref b)] := hl
  obtain ⟨r2, hr2, er⟩ := some_nI (if 70 < L then xs 70 else 0) (d := 2) (by decide) (by decide)
  obtain ⟨o1, o2, p1, p2, p3, p4, p5, p6, p7, p8, p9, pa, pb, pc, pd, ⟨a1, a2⟩, ⟨b1, b2, b3, b4, b5⟩, ⟨c1, c2, c3, c4, c5, c6⟩, d1, d2, d3, d4, d5, d6, d7⟩ := full_all
  refine ar_tri (WO := []) (ic := 8) (ii := 138) hx hb hml hown hts hK hN8 (fun _ h => h) hP hD hS (fun w h => (gx_full_ask_0 w h).1) mwnL_full_1 mwnL_full_2 mwnL_full_3 mwnL_full_4 mwnL_full_5 gL_full_X8_init ⟨Nat.le_of_ble_eq_true rfl, Nat.le_of_ble_eq_true rfl⟩ hl.1 (Nat.le_of_ble_eq_true rfl) (Nat.le_of_ble_eq_true rfl) dL_full_0 dL_full_3 dL_full_4 (fun q H locs hP hD hS => ?_)
  have hP : va_P D vwCl (gS 78 q (TX cy q) (oS 0) ++ []) H := by rw [List.append_nil]; exact hP
  have hD : va_D (fun a => s.heap.size ≤ a) (gS 78 q (TX cy q) (oS 0) ++ []) := by rw [List.append_nil]; exact hD
  refine lv_astore_n (lv' := [(1, .ref (q 0)), (0, .ref b)]) hx hb dL_full_7 rfl hl (by decide) rfl (fun ls hl => ?_)
  refine lv_iconst (v := (1 : Int32)) hx hb dL_full_8 (by decide) ?_
  refine lv_istore_n (lv' := [(2, .int (1 : Int32)), (1, .ref (q 0)), (0, .ref b)]) hx hb dL_full_9 rfl hl (by decide) rfl (fun ls hl => ?_)
  refine lv_iload_n hx hb dL_full_10 rfl (lv_at hl 0 rfl) ?_
  refine lv_bipush (v := (10 : Int32)) hx hb dL_full_11 (by decide) ?_
  refine lv_icmp_gt (tgt := 55) hx hb dL_full_13 (by decide) (fun h => absurd h (by decide)) (fun _ => ?_)
  refine sgL_full_16 F hP hD hS hl.1 (lv_at hl 1 rfl) (o_code (k := 0) (by decide)) (okZ_l _) ⟨Nat.le_of_ble_eq_true rfl, Nat.le_of_ble_eq_true rfl⟩ (Nat.le_of_ble_eq_true rfl) (Nat.le_of_ble_eq_true rfl) (fun H locs hP hD hS => ?_)
  refine lv_iload_n hx hb dL_full_43 rfl (lv_at hl 0 rfl) ?_
  refine lv_icmp_eq (tgt := 49) hx hb dL_full_44 (by decide) (fun _ => ?_) (fun h => (h rfl).elim)
  refine lv_iinc (k := 0) (v := (2 : Int32)) (lv' := [(2, .int (2 : Int32)), (1, .ref (q 0)), (0, .ref b)]) hx hb dL_full_49 hl rfl (by decide) (by decide) rfl (fun ls hl => ?_)
  refine lv_goto (tgt := 10) hx hb dL_full_52 (by decide) ?_
  refine lv_iload_n hx hb dL_full_10 rfl (lv_at hl 0 rfl) ?_
  refine lv_bipush (v := (10 : Int32)) hx hb dL_full_11 (by decide) ?_
  refine lv_icmp_gt (tgt := 55) hx hb dL_full_13 (by decide) (fun h => absurd h (by decide)) (fun _ => ?_)
  refine sgL_full_16 F hP hD hS hl.1 (lv_at hl 1 rfl) (o_code (k := 1) (by decide)) (okZ_l _) ⟨Nat.le_of_ble_eq_true rfl, Nat.le_of_ble_eq_true rfl⟩ (Nat.le_of_ble_eq_true rfl) (Nat.le_of_ble_eq_true rfl) (fun H locs hP hD hS => ?_)
  refine lv_iload_n hx hb dL_full_43 rfl (lv_at hl 0 rfl) ?_
  refine lv_icmp_eq (tgt := 49) hx hb dL_full_44 (by decide) (fun _ => ?_) (fun h => (h rfl).elim)
  refine lv_iinc (k := 0) (v := (3 : Int32)) (lv' := [(2, .int (3 : Int32)), (1, .ref (q 0)), (0, .ref b)]) hx hb dL_full_49 hl rfl (by decide) (by decide) rfl (fun ls hl => ?_)
  refine lv_goto (tgt := 10) hx hb dL_full_52 (by decide) ?_
  refine lv_iload_n hx hb dL_full_10 rfl (lv_at hl 0 rfl) ?_
  refine lv_bipush (v := (10 : Int32)) hx hb dL_full_11 (by decide) ?_
  refine lv_icmp_gt (tgt := 55) hx hb dL_full_13 (by decide) (fun h => absurd h (by decide)) (fun _ => ?_)
  refine sgL_full_16 F hP hD hS hl.1 (lv_at hl 1 rfl) (o_code (k := 2) (by decide)) (okZ_l _) ⟨Nat.le_of_ble_eq_true rfl, Nat.le_of_ble_eq_true rfl⟩ (Nat.le_of_ble_eq_true rfl) (Nat.le_of_ble_eq_true rfl) (fun H locs hP hD hS => ?_)
  refine lv_iload_n hx hb dL_full_43 rfl (lv_at hl 0 rfl) ?_
  refine lv_icmp_eq (tgt := 49) hx hb dL_full_44 (by decide) (fun _ => ?_) (fun h => (h rfl).elim)
  refine lv_iinc (k := 0) (v := (4 : Int32)) (lv' := [(2, .int (4 : Int32)), (1, .ref (q 0)), (0, .ref b)]) hx hb dL_full_49 hl rfl (by decide) (by decide) rfl (fun ls hl => ?_)
  refine lv_goto (tgt := 10) hx hb dL_full_52 (by decide) ?_
  refine lv_iload_n hx hb dL_full_10 rfl (lv_at hl 0 rfl) ?_
  refine lv_bipush (v := (10 : Int32)) hx hb dL_full_11 (by decide) ?_
  refine lv_icmp_gt (tgt := 55) hx hb dL_full_13 (by decide) (fun h => absurd h (by decide)) (fun _ => ?_)
  refine sgL_full_16 F hP hD hS hl.1 (lv_at hl 1 rfl) (o_code (k := 3) (by decide)) (okZ_l _) ⟨Nat.le_of_ble_eq_true rfl, Nat.le_of_ble_eq_true rfl⟩ (Nat.le_of_ble_eq_true rfl) (Nat.le_of_ble_eq_true rfl) (fun H locs hP hD hS => ?_)
  refine lv_iload_n hx hb dL_full_43 rfl (lv_at hl 0 rfl) ?_
  refine lv_icmp_eq (tgt := 49) hx hb dL_full_44 (by decide) (fun _ => ?_) (fun h => (h rfl).elim)
  refine lv_iinc (k := 0) (v := (5 : Int32)) (lv' := [(2, .int (5 : Int32)), (1, .ref (q 0)), (0, .ref b)]) hx hb dL_full_49 hl rfl (by decide) (by decide) rfl (fun ls hl => ?_)
  refine lv_goto (tgt := 10) hx hb dL_full_52 (by decide) ?_
  refine lv_iload_n hx hb dL_full_10 rfl (lv_at hl 0 rfl) ?_
  refine lv_bipush (v := (10 : Int32)) hx hb dL_full_11 (by decide) ?_
  refine lv_icmp_gt (tgt := 55) hx hb dL_full_13 (by decide) (fun h => absurd h (by decide)) (fun _ => ?_)
  refine sgL_full_16 F hP hD hS hl.1 (lv_at hl 1 rfl) (o_code (k := 4) (by decide)) (okZ_l _) ⟨Nat.le_of_ble_eq_true rfl, Nat.le_of_ble_eq_true rfl⟩ (Nat.le_of_ble_eq_true rfl) (Nat.le_of_ble_eq_true rfl) (fun H locs hP hD hS => ?_)
  refine lv_iload_n hx hb dL_full_43 rfl (lv_at hl 0 rfl) ?_
  refine lv_icmp_eq (tgt := 49) hx hb dL_full_44 (by decide) (fun _ => ?_) (fun h => (h rfl).elim)
  refine lv_iinc (k := 0) (v := (6 : Int32)) (lv' := [(2, .int (6 : Int32)), (1, .ref (q 0)), (0, .ref b)]) hx hb dL_full_49 hl rfl (by decide) (by decide) rfl (fun ls hl => ?_)
  refine lv_goto (tgt := 10) hx hb dL_full_52 (by decide) ?_
  refine lv_iload_n hx hb dL_full_10 rfl (lv_at hl 0 rfl) ?_
  refine lv_bipush (v := (10 : Int32)) hx hb dL_full_11 (by decide) ?_
  refine lv_icmp_gt (tgt := 55) hx hb dL_full_13 (by decide) (fun h => absurd h (by decide)) (fun _ => ?_)
  refine sgL_full_16 F hP hD hS hl.1 (lv_at hl 1 rfl) (o_code (k := 5) (by decide)) (okZ_l _) ⟨Nat.le_of_ble_eq_true rfl, Nat.le_of_ble_eq_true rfl⟩ (Nat.le_of_ble_eq_true rfl) (Nat.le_of_ble_eq_true rfl) (fun H locs hP hD hS => ?_)
  refine lv_iload_n hx hb dL_full_43 rfl (lv_at hl 0 rfl) ?_
  refine lv_icmp_eq (tgt := 49) hx hb dL_full_44 (by decide) (fun _ => ?_) (fun h => (h rfl).elim)
  refine lv_iinc (k := 0) (v := (7 : Int32)) (lv' := [(2, .int (7 : Int32)), (1, .ref (q 0)), (0, .ref b)]) hx hb dL_full_49 hl rfl (by decide) (by decide) rfl (fun ls hl => ?_)
  refine lv_goto (tgt := 10) hx hb dL_full_52 (by decide) ?_
  refine lv_iload_n hx hb dL_full_10 rfl (lv_at hl 0 rfl) ?_
  refine lv_bipush (v := (10 : Int32)) hx hb dL_full_11 (by decide) ?_
  refine lv_icmp_gt (tgt := 55) hx hb dL_full_13 (by decide) (fun h => absurd h (by decide)) (fun _ => ?_)
  refine sgL_full_16 F hP hD hS hl.1 (lv_at hl 1 rfl) (o_code (k := 6) (by decide)) (okZ_l _) ⟨Nat.le_of_ble_eq_true rfl, Nat.le_of_ble_eq_true rfl⟩ (Nat.le_of_ble_eq_true rfl) (Nat.le_of_ble_eq_true rfl) (fun H locs hP hD hS => ?_)
  refine lv_iload_n hx hb dL_full_43 rfl (lv_at hl 0 rfl) ?_
  refine lv_icmp_eq (tgt := 49) hx hb dL_full_44 (by decide) (fun _ => ?_) (fun h => (h rfl).elim)
  refine lv_iinc (k := 0) (v := (8 : Int32)) (lv' := [(2, .int (8 : Int32)), (1, .ref (q 0)), (0, .ref b)]) hx hb dL_full_49 hl rfl (by decide) (by decide) rfl (fun ls hl => ?_)
  refine lv_goto (tgt := 10) hx hb dL_full_52 (by decide) ?_
  refine lv_iload_n hx hb dL_full_10 rfl (lv_at hl 0 rfl) ?_
  refine lv_bipush (v := (10 : Int32)) hx hb dL_full_11 (by decide) ?_
  refine lv_icmp_gt (tgt := 55) hx hb dL_full_13 (by decide) (fun h => absurd h (by decide)) (fun _ => ?_)
  refine sgL_full_16 F hP hD hS hl.1 (lv_at hl 1 rfl) (o_code (k := 7) (by decide)) (okZ_l _) ⟨Nat.le_of_ble_eq_true rfl, Nat.le_of_ble_eq_true rfl⟩ (Nat.le_of_ble_eq_true rfl) (Nat.le_of_ble_eq_true rfl) (fun H locs hP hD hS => ?_)
  refine lv_iload_n hx hb dL_full_43 rfl (lv_at hl 0 rfl) ?_
  refine lv_icmp_eq (tgt := 49) hx hb dL_full_44 (by decide) (fun _ => ?_) (fun h => (h rfl).elim)
  refine lv_iinc (k := 0) (v := (9 : Int32)) (lv' := [(2, .int (9 : Int32)), (1, .ref (q 0)), (0, .ref b)]) hx hb dL_full_49 hl rfl (by decide) (by decide) rfl (fun ls hl => ?_)
  refine lv_goto (tgt := 10) hx hb dL_full_52 (by decide) ?_
  refine lv_iload_n hx hb dL_full_10 rfl (lv_at hl 0 rfl) ?_
  refine lv_bipush (v := (10 : Int32)) hx hb dL_full_11 (by decide) ?_
  refine lv_icmp_gt (tgt := 55) hx hb dL_full_13 (by decide) (fun h => absurd h (by decide)) (fun _ => ?_)
  refine sgL_full_16 F hP hD hS hl.1 (lv_at hl 1 rfl) (o_code (k := 8) (by decide)) (okZ_l _) ⟨Nat.le_of_ble_eq_true rfl, Nat.le_of_ble_eq_true rfl⟩ (Nat.le_of_ble_eq_true rfl) (Nat.le_of_ble_eq_true rfl) (fun H locs hP hD hS => ?_)
  refine lv_iload_n hx hb dL_full_43 rfl (lv_at hl 0 rfl) ?_
  refine lv_icmp_eq (tgt := 49) hx hb dL_full_44 (by decide) (fun _ => ?_) (fun h => (h rfl).elim)
  refine lv_iinc (k := 0) (v := (10 : Int32)) (lv' := [(2, .int (10 : Int32)), (1, .ref (q 0)), (0, .ref b)]) hx hb dL_full_49 hl rfl (by decide) (by decide) rfl (fun ls hl => ?_)
  refine lv_goto (tgt := 10) hx hb dL_full_52 (by decide) ?_
  refine lv_iload_n hx hb dL_full_10 rfl (lv_at hl 0 rfl) ?_
  refine lv_bipush (v := (10 : Int32)) hx hb dL_full_11 (by decide) ?_
  refine lv_icmp_gt (tgt := 55) hx hb dL_full_13 (by decide) (fun h => absurd h (by decide)) (fun _ => ?_)
  refine sgL_full_16 F hP hD hS hl.1 (lv_at hl 1 rfl) (o_code (k := 9) (by decide)) (okZ_l _) ⟨Nat.le_of_ble_eq_true rfl, Nat.le_of_ble_eq_true rfl⟩ (Nat.le_of_ble_eq_true rfl) (Nat.le_of_ble_eq_true rfl) (fun H locs hP hD hS => ?_)
  refine lv_iload_n hx hb dL_full_43 rfl (lv_at hl 0 rfl) ?_
  refine lv_icmp_eq (tgt := 49) hx hb dL_full_44 (by decide) (fun _ => ?_) (fun h => (h rfl).elim)
  refine lv_iinc (k := 0) (v := (11 : Int32)) (lv' := [(2, .int (11 : Int32)), (1, .ref (q 0)), (0, .ref b)]) hx hb dL_full_49 hl rfl (by decide) (by decide) rfl (fun ls hl => ?_)
  refine lv_goto (tgt := 10) hx hb dL_full_52 (by decide) ?_
  refine lv_iload_n hx hb dL_full_10 rfl (lv_at hl 0 rfl) ?_
  refine lv_bipush (v := (10 : Int32)) hx hb dL_full_11 (by decide) ?_
  refine lv_icmp_gt (tgt := 55) hx hb dL_full_13 (by decide) (fun _ => ?_) (fun h => (h (by decide)).elim)
  refine ar_tri (WO := (gS 78 q (TX cy q) (oS 10) ++ [])) (ic := 8) (ii := 138) hx hb hml hown hts hK hN8 (fun _ h => h) hP hD hS (fun w h => (gx_full_ask_0 w h).1) mwnL_full_1 mwnL_full_2 mwnL_full_3 mwnL_full_4 mwnL_full_5 gL_full_X8_init ⟨Nat.le_of_ble_eq_true rfl, Nat.le_of_ble_eq_true rfl⟩ hl.1 (Nat.le_of_ble_eq_true rfl) (Nat.le_of_ble_eq_true rfl) dL_full_55 dL_full_58 dL_full_59 (fun q2 H locs hP hD hS => ?_)
  have hP : va_P D vwCl (gS 78 q (TX cy q) (oS 10) ++ gS 78 q2 (TX cy q2) T0) H := by rw [List.append_nil] at hP; exact hP
  have hD : va_D (fun a => s.heap.size ≤ a) (gS 78 q (TX cy q) (oS 10) ++ gS 78 q2 (TX cy q2) T0) := by rw [List.append_nil] at hD; exact hD
  refine lv_astore_n (lv' := [(2, .ref (q2 0)), (1, .ref (q 0)), (0, .ref b)]) hx hb dL_full_62 rfl hl (by decide) rfl (fun ls hl => ?_)
  refine sgL_full_63 F hP hD hS hl.1 (lv_at hl 1 rfl) o_full (okZ_r (by decide)) ⟨Nat.le_of_ble_eq_true rfl, Nat.le_of_ble_eq_true rfl⟩ (Nat.le_of_ble_eq_true rfl) (Nat.le_of_ble_eq_true rfl) (fun H locs hP hD hS => ?_)
  refine lv_ldc (v := (-2000000003 : Int32)) hx hb hown (hts _ mwbL_full_77) dL_full_90 ?_
  refine lv_icmp_ne (tgt := 242) hx hb dL_full_92 (by decide) (fun h => (h (by decide)).elim) (fun _ => ?_)
  refine sgL_full_95 F hP hD hS hl.1 (lv_at hl 1 rfl) a1 (okZ_l _) ⟨Nat.le_of_ble_eq_true rfl, Nat.le_of_ble_eq_true rfl⟩ (Nat.le_of_ble_eq_true rfl) (Nat.le_of_ble_eq_true rfl) (fun H locs hP hD hS => ?_)
  refine lv_bipush (v := (10 : Int32)) hx hb dL_full_108 (by decide) ?_
  refine lv_icmp_ne (tgt := 242) hx hb dL_full_110 (by decide) (fun h => (h rfl).elim) (fun _ => ?_)
  refine sgL_full_113 F hP hD hS hl.1 (lv_at hl 1 rfl) a2 (okZ_l _) ⟨Nat.le_of_ble_eq_true rfl, Nat.le_of_ble_eq_true rfl⟩ (Nat.le_of_ble_eq_true rfl) (Nat.le_of_ble_eq_true rfl) (fun H locs hP hD hS => ?_)
  refine lv_if_ne (tgt := 242) hx hb dL_full_126 (by decide) (fun h => (h rfl).elim) (fun _ => ?_)
  have hP : va_P D vwCl (gS 78 q2 (TX cy q2) T0 ++ gS 78 q (TX cy q) o2) H := va_P.swap (a := []) hP
  have hD : va_D (fun a => s.heap.size ≤ a) (gS 78 q2 (TX cy q2) T0 ++ gS 78 q (TX cy q) o2) := va_D.swap (a := []) hD
  refine sgL_full_129 F hP hD hS hl.1 (lv_at hl 0 rfl) b1 (okZ_l _) ⟨Nat.le_of_ble_eq_true rfl, Nat.le_of_ble_eq_true rfl⟩ (Nat.le_of_ble_eq_true rfl) (Nat.le_of_ble_eq_true rfl) (fun H locs hP hD hS => ?_)
  refine lv_iconst (v := (1 : Int32)) hx hb dL_full_155 (by decide) ?_
  refine lv_icmp_ne (tgt := 242) hx hb dL_full_156 (by decide) (fun h => (h rfl).elim) (fun _ => ?_)
  refine sgL_full_159 F hP hD hS hl.1 (lv_at hl 0 rfl) b2 (okZ_l _) ⟨Nat.le_of_ble_eq_true rfl, Nat.le_of_ble_eq_true rfl⟩ (Nat.le_of_ble_eq_true rfl) (Nat.le_of_ble_eq_true rfl) (fun H locs hP hD hS => ?_)
  refine lv_iconst (v := (2 : Int32)) hx hb dL_full_185 (by decide) ?_
  refine lv_icmp_ne (tgt := 242) hx hb dL_full_186 (by decide) (fun h => (h rfl).elim) (fun _ => ?_)
  refine sgL_full_189 F hP hD hS hl.1 (lv_at hl 0 rfl) b3 (okZ_l _) ⟨Nat.le_of_ble_eq_true rfl, Nat.le_of_ble_eq_true rfl⟩ (Nat.le_of_ble_eq_true rfl) (Nat.le_of_ble_eq_true rfl) (fun H locs hP hD hS => ?_)
  refine lv_iconst (v := (-1 : Int32)) hx hb dL_full_210 (by decide) ?_
  refine lv_icmp_ne (tgt := 242) hx hb dL_full_211 (by decide) (fun h => (h rfl).elim) (fun _ => ?_)
  refine lv_aload_n hx hb dL_full_214 rfl (lv_at hl 0 rfl) ?_
  refine ar_cVi (As := []) (rest := []) hx hb hml hown hts hK hP hD hS (fun hJ => mX8_frame l hJ b4) (cwV 0 hts gL_full_X8_frame rfl rfl rfl nVX8_frame ⟨Nat.le_of_ble_eq_true rfl, Nat.le_of_ble_eq_true rfl⟩) (g_recv hK (w_first hP) kk_Tri ce_Tri rfl) rfl hl.1 rfl (Nat.le_of_ble_eq_true rfl) dL_full_215 ⟨Nat.le_of_ble_eq_true rfl, Nat.le_of_ble_eq_true rfl⟩ (fun H locs hP hD hS => ?_)
  refine lv_iconst (v := (3 : Int32)) hx hb dL_full_218 (by decide) ?_
  refine lv_icmp_ne (tgt := 242) hx hb dL_full_219 (by decide) (fun h => (h rfl).elim) (fun _ => ?_)
  refine sgL_full_222 F hP hD hS hl.1 (lv_at hl 0 rfl) b5 (okZ_l _) ⟨Nat.le_of_ble_eq_true rfl, Nat.le_of_ble_eq_true rfl⟩ (Nat.le_of_ble_eq_true rfl) (Nat.le_of_ble_eq_true rfl) (fun H locs hP hD hS => ?_)
  refine lv_if_ne (tgt := 242) hx hb dL_full_235 (by decide) (fun h => (h rfl).elim) (fun _ => ?_)
  refine lv_iconst (v := (1 : Int32)) hx hb dL_full_238 (by decide) ?_
  refine lv_goto (tgt := 243) hx hb dL_full_239 (by decide) ?_
  refine lv_istore_n (lv' := [(3, .int (1 : Int32)), (2, .ref (q2 0)), (1, .ref (q 0)), (0, .ref b)]) hx hb dL_full_243 rfl hl (by decide) rfl (fun ls hl => ?_)
  refine lv_iload_n hx hb dL_full_244 rfl (lv_at hl 0 rfl) ?_
  refine lv_if_eq (tgt := 338) hx hb dL_full_245 (by decide) (fun h => absurd h (by decide)) (fun _ => ?_)
  refine sgL_full_248 F hP hD hS hl.1 (lv_at hl 1 rfl) c1 (okZ_l _) ⟨Nat.le_of_ble_eq_true rfl, Nat.le_of_ble_eq_true rfl⟩ (Nat.le_of_ble_eq_true rfl) (Nat.le_of_ble_eq_true rfl) (fun H locs hP hD hS => ?_)
  refine lv_iconst (v := (4 : Int32)) hx hb dL_full_262 (by decide) ?_
  refine lv_icmp_ne (tgt := 338) hx hb dL_full_263 (by decide) (fun h => (h rfl).elim) (fun _ => ?_)
  refine sgL_full_266 F hP hD hS hl.1 (lv_at hl 1 rfl) c2 (okZ_l _) ⟨Nat.le_of_ble_eq_true rfl, Nat.le_of_ble_eq_true rfl⟩ (Nat.le_of_ble_eq_true rfl) (Nat.le_of_ble_eq_true rfl) (fun H locs hP hD hS => ?_)
  refine lv_iconst (v := (1 : Int32)) hx hb dL_full_280 (by decide) ?_
  refine lv_icmp_ne (tgt := 338) hx hb dL_full_281 (by decide) (fun h => (h rfl).elim) (fun _ => ?_)
  refine lv_aload_n hx hb dL_full_284 rfl (lv_at hl 1 rfl) ?_
  refine ar_cVi (As := []) (rest := []) hx hb hml hown hts hK hP hD hS (fun hJ => mX8_frame l hJ c3) (cwV 0 hts gL_full_X8_frame rfl rfl rfl nVX8_frame ⟨Nat.le_of_ble_eq_true rfl, Nat.le_of_ble_eq_true rfl⟩) (g_recv hK (w_first hP) kk_Tri ce_Tri rfl) rfl hl.1 rfl (Nat.le_of_ble_eq_true rfl) dL_full_285 ⟨Nat.le_of_ble_eq_true rfl, Nat.le_of_ble_eq_true rfl⟩ (fun H locs hP hD hS => ?_)
  refine lv_iconst (v := (3 : Int32)) hx hb dL_full_288 (by decide) ?_
  refine lv_icmp_ne (tgt := 338) hx hb dL_full_289 (by decide) (fun h => (h rfl).elim) (fun _ => ?_)
  refine sgL_full_292 F hP hD hS hl.1 (lv_at hl 1 rfl) c4 (okZ_l _) ⟨Nat.le_of_ble_eq_true rfl, Nat.le_of_ble_eq_true rfl⟩ (Nat.le_of_ble_eq_true rfl) (Nat.le_of_ble_eq_true rfl) (fun H locs hP hD hS => ?_)
  refine lv_iconst (v := (1 : Int32)) hx hb dL_full_305 (by decide) ?_
  refine lv_icmp_ne (tgt := 338) hx hb dL_full_306 (by decide) (fun h => (h rfl).elim) (fun _ => ?_)
  refine lv_aload_n hx hb dL_full_309 rfl (lv_at hl 1 rfl) ?_
  refine ar_cVi (As := []) (rest := []) hx hb hml hown hts hK hP hD hS (fun hJ => mX8_frame l hJ c5) (cwV 0 hts gL_full_X8_frame rfl rfl rfl nVX8_frame ⟨Nat.le_of_ble_eq_true rfl, Nat.le_of_ble_eq_true rfl⟩) (g_recv hK (w_first hP) kk_Tri ce_Tri rfl) rfl hl.1 rfl (Nat.le_of_ble_eq_true rfl) dL_full_310 ⟨Nat.le_of_ble_eq_true rfl, Nat.le_of_ble_eq_true rfl⟩ (fun H locs hP hD hS => ?_)
  refine lv_iconst (v := (3 : Int32)) hx hb dL_full_313 (by decide) ?_
  refine lv_icmp_ne (tgt := 338) hx hb dL_full_314 (by decide) (fun h => (h rfl).elim) (fun _ => ?_)
  refine sgL_full_317 F hP hD hS hl.1 (lv_at hl 1 rfl) c6 (okZ_l _) ⟨Nat.le_of_ble_eq_true rfl, Nat.le_of_ble_eq_true rfl⟩ (Nat.le_of_ble_eq_true rfl) (Nat.le_of_ble_eq_true rfl) (fun H locs hP hD hS => ?_)
  refine lv_iconst (v := (2 : Int32)) hx hb dL_full_330 (by decide) ?_
  refine lv_icmp_ne (tgt := 338) hx hb dL_full_331 (by decide) (fun h => (h rfl).elim) (fun _ => ?_)
  refine lv_iconst (v := (1 : Int32)) hx hb dL_full_334 (by decide) ?_
  refine lv_goto (tgt := 339) hx hb dL_full_335 (by decide) ?_
  refine lv_istore_n (lv' := [(3, .int (1 : Int32)), (2, .ref (q2 0)), (1, .ref (q 0)), (0, .ref b)]) hx hb dL_full_339 rfl hl (by decide) rfl (fun ls hl => ?_)
  refine lv_iload_n hx hb dL_full_340 rfl (lv_at hl 0 rfl) ?_
  refine lv_if_eq (tgt := 439) hx hb dL_full_341 (by decide) (fun h => absurd h (by decide)) (fun _ => ?_)
  refine sgL_full_344 F hP hD hS hl.1 (lv_at hl 1 rfl) d1 (okZ_l _) ⟨Nat.le_of_ble_eq_true rfl, Nat.le_of_ble_eq_true rfl⟩ (Nat.le_of_ble_eq_true rfl) (Nat.le_of_ble_eq_true rfl) (fun H locs hP hD hS => ?_)
  refine lv_bipush (v := (6 : Int32)) hx hb dL_full_358 (by decide) ?_
  refine lv_icmp_ne (tgt := 439) hx hb dL_full_360 (by decide) (fun h => (h rfl).elim) (fun _ => ?_)
  refine lv_aload_n hx hb dL_full_363 rfl (lv_at hl 1 rfl) ?_
  refine ar_cVi (As := []) (rest := []) hx hb hml hown hts hK hP hD hS (fun hJ => mX8_frame l hJ d2) (cwV 0 hts gL_full_X8_frame rfl rfl rfl nVX8_frame ⟨Nat.le_of_ble_eq_true rfl, Nat.le_of_ble_eq_true rfl⟩) (g_recv hK (w_first hP) kk_Tri ce_Tri rfl) rfl hl.1 rfl (Nat.le_of_ble_eq_true rfl) dL_full_364 ⟨Nat.le_of_ble_eq_true rfl, Nat.le_of_ble_eq_true rfl⟩ (fun H locs hP hD hS => ?_)
  refine lv_iconst (v := (3 : Int32)) hx hb dL_full_367 (by decide) ?_
  refine lv_icmp_ne (tgt := 439) hx hb dL_full_368 (by decide) (fun h => (h rfl).elim) (fun _ => ?_)
  refine lv_aload_n hx hb dL_full_371 rfl (lv_at hl 1 rfl) ?_
  refine ar_cVi (As := []) (rest := []) hx hb hml hown hts hK hP hD hS (fun hJ => mX8_frame l hJ d3) (cwV 0 hts gL_full_X8_frame rfl rfl rfl nVX8_frame ⟨Nat.le_of_ble_eq_true rfl, Nat.le_of_ble_eq_true rfl⟩) (g_recv hK (w_first hP) kk_Tri ce_Tri rfl) rfl hl.1 rfl (Nat.le_of_ble_eq_true rfl) dL_full_372 ⟨Nat.le_of_ble_eq_true rfl, Nat.le_of_ble_eq_true rfl⟩ (fun H locs hP hD hS => ?_)
  refine lv_iconst (v := (3 : Int32)) hx hb dL_full_375 (by decide) ?_
  refine lv_icmp_ne (tgt := 439) hx hb dL_full_376 (by decide) (fun h => (h rfl).elim) (fun _ => ?_)
  refine lv_aload_n hx hb dL_full_379 rfl (lv_at hl 1 rfl) ?_
  refine ar_cVi (As := []) (rest := []) hx hb hml hown hts hK hP hD hS (fun hJ => mX8_frame l hJ d4) (cwV 0 hts gL_full_X8_frame rfl rfl rfl nVX8_frame ⟨Nat.le_of_ble_eq_true rfl, Nat.le_of_ble_eq_true rfl⟩) (g_recv hK (w_first hP) kk_Tri ce_Tri rfl) rfl hl.1 rfl (Nat.le_of_ble_eq_true rfl) dL_full_380 ⟨Nat.le_of_ble_eq_true rfl, Nat.le_of_ble_eq_true rfl⟩ (fun H locs hP hD hS => ?_)
  refine lv_iconst (v := (3 : Int32)) hx hb dL_full_383 (by decide) ?_
  refine lv_icmp_ne (tgt := 439) hx hb dL_full_384 (by decide) (fun h => (h rfl).elim) (fun _ => ?_)
  refine lv_aload_n hx hb dL_full_387 rfl (lv_at hl 1 rfl) ?_
  refine ar_cVi (As := []) (rest := []) hx hb hml hown hts hK hP hD hS (fun hJ => mX8_frame l hJ d5) (cwV 0 hts gL_full_X8_frame rfl rfl rfl nVX8_frame ⟨Nat.le_of_ble_eq_true rfl, Nat.le_of_ble_eq_true rfl⟩) (g_recv hK (w_first hP) kk_Tri ce_Tri rfl) rfl hl.1 rfl (Nat.le_of_ble_eq_true rfl) dL_full_388 ⟨Nat.le_of_ble_eq_true rfl, Nat.le_of_ble_eq_true rfl⟩ (fun H locs hP hD hS => ?_)
  refine lv_iconst (v := (3 : Int32)) hx hb dL_full_391 (by decide) ?_
  refine lv_icmp_ne (tgt := 439) hx hb dL_full_392 (by decide) (fun h => (h rfl).elim) (fun _ => ?_)
  refine sgL_full_395 F hP hD hS hl.1 (lv_at hl 1 rfl) d6 (okZ_r (by decide)) ⟨Nat.le_of_ble_eq_true rfl, Nat.le_of_ble_eq_true rfl⟩ (Nat.le_of_ble_eq_true rfl) (Nat.le_of_ble_eq_true rfl) (fun H locs hP hD hS => ?_)
  refine lv_ldc (v := (-2000000004 : Int32)) hx hb hown (hts _ mwbL_full_80) dL_full_409 ?_
  refine lv_icmp_ne (tgt := 439) hx hb dL_full_411 (by decide) (fun h => (h (by decide)).elim) (fun _ => ?_)
  refine lv_aload_n hx hb dL_full_414 rfl (lv_at hl 1 rfl) ?_
  refine ar_cVi (As := []) (rest := []) hx hb hml hown hts hK hP hD hS (fun hJ => mX8_mode l hJ d7) (cwV 0 hts gL_full_X8_mode rfl rfl rfl nVX8_mode ⟨Nat.le_of_ble_eq_true rfl, Nat.le_of_ble_eq_true rfl⟩) (g_recv hK (w_first hP) kk_Tri ce_Tri rfl) rfl hl.1 rfl (Nat.le_of_ble_eq_true rfl) dL_full_415 ⟨Nat.le_of_ble_eq_true rfl, Nat.le_of_ble_eq_true rfl⟩ (fun H locs hP hD hS => ?_)
  refine lv_iconst (v := (1 : Int32)) hx hb dL_full_418 (by decide) ?_
  refine lv_icmp_ne (tgt := 439) hx hb dL_full_419 (by decide) (fun h => (h rfl).elim) (fun _ => ?_)
  refine lv_aload_n hx hb dL_full_422 rfl (lv_at hl 3 rfl) ?_
  refine lv_bipush (v := nI 70) hx hb dL_full_423 (by decide) ?_
  refine ar_at (k := 70) (rest := []) hx hb hml hown hts hXs hbl hL (by decide) hP hS (va_cwS 2 hts gL_full_L_at rfl rfl rfl nVL_at ⟨Nat.le_of_ble_eq_true rfl, Nat.le_of_ble_eq_true rfl⟩) hl.1 (Nat.le_of_ble_eq_true rfl) dL_full_425 ⟨Nat.le_of_ble_eq_true rfl, Nat.le_of_ble_eq_true rfl⟩ (fun H locs hP hS => ?_)
  refine lv_iconst (v := nI 2) hx hb dL_full_428 (by decide) ?_
  refine ar_some (rest := []) hx hb hml hown hts (by decide) hP hS (va_cwS 2 hts gL_full_L_some rfl rfl rfl nVL_some ⟨Nat.le_of_ble_eq_true rfl, Nat.le_of_ble_eq_true rfl⟩) hl.1 (Nat.le_of_ble_eq_true rfl) dL_full_429 ⟨Nat.le_of_ble_eq_true rfl, Nat.le_of_ble_eq_true rfl⟩ (fun H locs hP hS => ?_)
  rw [er]
  refine lv_if_lt (tgt := 439) hx hb dL_full_432 (by decide) (fun h => absurd h (nI_pos (by omega))) (fun _ => ?_)
  refine lv_iconst (v := (1 : Int32)) hx hb dL_full_435 (by decide) ?_
  refine lv_goto (tgt := 440) hx hb dL_full_436 (by decide) ?_
  refine W.widen (k := 271) (n := 1814) (Nat.le_of_ble_eq_true rfl) (Nat.le_of_ble_eq_true rfl) ?_
  exact law_ret hx hb hr hlocks hS rfl dL_full_440

/-! ===== the tables at the law's entry ===== -/
theorem s_arr {s : State} {ty : FieldType} {c comp : ClassId} {k : Class} (h1 : s.vm.classes[c]? = some k) (h2 : k.kind = .array comp ty) : ArrOfT s c ty := by
  intro n z
  simp [State.isArrayOf, arrV, h1, h2]
theorem s_c {s : State} {args : Array Value} {ty : FieldType} (h : (Cond.arrayClass ty).before args s = true) (hno : ∀ C, ty ≠ .object C) : ∃ c, ArrOfT s c ty ∧ va_RA s c ty := by
  obtain ⟨c, k, comp, h1, h2, h3⟩ := Cond.arrayClass_spec h
  refine ⟨c, s_arr h2 h3, ?_⟩
  cases ty with
  | object C => exact absurd rfl (hno C)
  | _ => exact h1
theorem s_o {s : State} {args : Array Value} {C : String} (h : (Cond.arrayOver (.object C)).before args s = true) : ∃ c, ArrOfT s c (.object C) ∧ va_RA s c (.object C) := by
  obtain ⟨comp, c, k, h1, h2, h3, h4, h5⟩ := Cond.arrayOver_spec h
  exact ⟨c, s_arr h3 h4, k, comp, h3, h4, h1, h5⟩
theorem s_a {s : State} {args : Array Value} {t : FieldType} (h : (Cond.arrayOver (.array t)).before args s = true) : ∃ c, ArrOfT s c (.array t) ∧ va_RA s c (.array t) := by
  obtain ⟨comp, c, k, h1, h2, h3, h4, h5⟩ := arrayOverA_spec h
  exact ⟨c, s_arr h3 h4, h5⟩
theorem s_K {s : State} {args : Array Value} (hts : ∀ w ∈ lw_tbl, w.before args s = true) : ∃ (D : va_G) (cy : Nat → ClassId), va_K D vwCl (tyL cy) s := by
  obtain ⟨d0, e0, k0⟩ := u_known (C := RX0) (T := TX0) (N := 3) (n := 3) hts inX0 (hts (.instantiable RX0 3) (by decide +kernel))
  obtain ⟨d1, e1, k1⟩ := u_known (C := RX1) (T := TX1) (N := 14) (n := 14) hts inX1 (hts (.instantiable RX1 14) (by decide +kernel))
  obtain ⟨d2, e2, k2⟩ := u_known (C := RX2) (T := TX2) (N := 3) (n := 3) hts inX2 (hts (.instantiable RX2 3) (by decide +kernel))
  obtain ⟨d3, e3, k3⟩ := u_known (C := RX3) (T := TX3) (N := 4) (n := 4) hts inX3 (hts (.instantiable RX3 4) (by decide +kernel))
  obtain ⟨d4, e4, k4⟩ := u_known (C := RX4) (T := TX4) (N := 3) (n := 3) hts inX4 (hts (.instantiable RX4 3) (by decide +kernel))
  obtain ⟨d6, e6, k6⟩ := u_known (C := RX6) (T := TX6) (N := 5) (n := 5) hts inX6 (hts (.instantiable RX6 5) (by decide +kernel))
  obtain ⟨d7, e7, k7⟩ := u_known (C := RX7) (T := TX7) (N := 4) (n := 4) hts inX7 (hts (.instantiable RX7 4) (by decide +kernel))
  obtain ⟨d8, e8, k8⟩ := u_known (C := RX8) (T := TX8) (N := 16) (n := 16) hts inX8 (hts (.instantiable RX8 16) (by decide +kernel))
  obtain ⟨d9, e9, k9⟩ := u_known (C := RX9) (T := TX9) (N := 44) (n := 44) hts inX9 (hts (.instantiable RX9 44) (by decide +kernel))
  obtain ⟨y0, z0⟩ := s_c (ty := .int) (hts (.arrayClass .int) (by decide +kernel)) (fun _ h => by cases h)
  obtain ⟨y1, z1⟩ := s_c (ty := .boolean) (hts (.arrayClass .boolean) (by decide +kernel)) (fun _ h => by cases h)
  obtain ⟨y2, z2⟩ := s_c (ty := .char) (hts (.arrayClass .char) (by decide +kernel)) (fun _ h => by cases h)
  obtain ⟨y3, z3⟩ := s_o (C := RX1) (hts (.arrayOver (.object RX1)) (by decide +kernel))
  obtain ⟨y4, z4⟩ := s_o (C := RX6) (hts (.arrayOver (.object RX6)) (by decide +kernel))
  obtain ⟨y5, z5⟩ := s_o (C := RX2) (hts (.arrayOver (.object RX2)) (by decide +kernel))
  obtain ⟨y6, z6⟩ := s_a (t := .int) (hts (.arrayOver (.array .int)) (by decide +kernel))
  obtain ⟨y7, z7⟩ := s_o (C := RX7) (hts (.arrayOver (.object RX7)) (by decide +kernel))
  obtain ⟨y8, z8⟩ := s_o (C := RX0) (hts (.arrayOver (.object RX0)) (by decide +kernel))
  obtain ⟨y9, z9⟩ := s_c (ty := .long) (hts (.arrayClass .long) (by decide +kernel)) (fun _ h => by cases h)
  refine ⟨(fun k => ([d0, d1, d2, d3, d4, d6, d7, d8, d9] : List ClassId).getD k d0, fun k => ([e0, e1, e2, e3, e4, e6, e7, e8, e9] : List (Nat → Nat)).getD k e0), fun k => ([y0, y1, y2, y3, y4, y5, y6, y7, y8, y9] : List ClassId).getD k y0, fun c q hq => ?_, fun k q hq => ?_⟩
  · have hc : c < 9 := (List.getElem?_eq_some_iff.mp hq).1
    rcases (show c = 0 ∨ c = 1 ∨ c = 2 ∨ c = 3 ∨ c = 4 ∨ c = 5 ∨ c = 6 ∨ c = 7 ∨ c = 8 by omega) with rfl | rfl | rfl | rfl | rfl | rfl | rfl | rfl | rfl <;> cases hq
    · exact k0
    · exact k1
    · exact k2
    · exact k3
    · exact k4
    · exact k6
    · exact k7
    · exact k8
    · exact k9
  · have hc : k < 10 := (List.getElem?_eq_some_iff.mp hq).1
    rcases (show k = 0 ∨ k = 1 ∨ k = 2 ∨ k = 3 ∨ k = 4 ∨ k = 5 ∨ k = 6 ∨ k = 7 ∨ k = 8 ∨ k = 9 by omega) with rfl | rfl | rfl | rfl | rfl | rfl | rfl | rfl | rfl | rfl <;> cases hq
    · exact z0
    · exact z1
    · exact z2
    · exact z3
    · exact z4
    · exact z5
    · exact z6
    · exact z7
    · exact z8
    · exact z9
theorem s_str {s : State} {args : Array Value} {own tx : String} {k : Nat} (h1 : (Cond.stringRef own k tx).before args s = true) (h2 : (Cond.exactly (.string own k) "java/lang/String").before args s = true) : ∃ sa, vk_R own k tx sa s := by
  obtain ⟨a, c, cA, kA, q1, -⟩ := Cond.exactly_spec (args := args) (first := s) (o := none) (s := s) (idx := []) (t := .string own k) (cls := "java/lang/String") h2
  exact ⟨a, vk_R.of h1 q1⟩
theorem s_m1 : ∀ k ∈ xStrs, Cond.stringRef RX8 k.1 k.2 ∈ lw_tbl := by decide +kernel
theorem s_m2 : ∀ k ∈ xStrs, Cond.exactly (.string RX8 k.1) "java/lang/String" ∈ flatC (Jvm.Cond.and given_1 narrow_1) := by decide +kernel
theorem s_m3 : ∀ k ∈ xCasts, Cond.castable k.1 k.2 ∈ lw_tbl := by decide +kernel
theorem s_m4 : ∀ y ∈ xDecls, Cond.declares y ∈ lw_tbl := by decide +kernel
theorem s_m5 : ∀ k ∈ xNots, Cond.not (.castable k.1 k.2) ∈ flatC (Jvm.Cond.and given_1 narrow_1) := by decide +kernel
theorem s_X {s : State} {args : Array Value} (hts : ∀ w ∈ lw_tbl, w.before args s = true) (hgv : (Jvm.Cond.and given_1 narrow_1).before args s = true) : xPre (fun a => s.heap.size ≤ a) s := by
  have hs := flat_of_before _ hgv
  have hA : ∀ a : Nat, a < s.heap.size → ¬ (s.heap.size ≤ a) := fun a h => Nat.not_le.mpr h
  refine ⟨vx_Zqof (args := args) (hts (.laysStatic Bundle.tN "UNASSIGNED_STACK" Bundle.steD) (by decide +kernel)) (hts (.initialized Bundle.tN) (by decide +kernel)) (hs (.isRef (.static Bundle.tN "UNASSIGNED_STACK" Bundle.steD)) (by decide +kernel)) hA, vx_Zqof (args := args) (hts (.laysStatic Bundle.tN "SUPPRESSED_SENTINEL" Bundle.listD) (by decide +kernel)) (hts (.initialized Bundle.tN) (by decide +kernel)) (hs (.isRef (.static Bundle.tN "SUPPRESSED_SENTINEL" Bundle.listD)) (by decide +kernel)) hA, fun k hk => s_str (hts _ (s_m1 k hk)) (hs _ (s_m2 k hk)), fun k hk => va_Nw.of rfl (hts _ (s_m3 k hk)), fun y hy => va_Nw.of rfl (hts _ (s_m4 y hy))⟩
theorem s_Nt {s : State} {args : Array Value} (hgv : (Jvm.Cond.and given_1 narrow_1).before args s = true) : ∀ k ∈ xNots, va_Nc k.1 k.2 s := fun k hk => va_Nc.of (flat_of_before _ hgv _ (s_m5 k hk))
theorem nover_of {t : FieldType} {args : Array Value} {s : State} (h : (Cond.arrayOver t).before args s = true) : va_Nw (.arrayOver t) s := by
  have e : (Cond.arrayOver t).before #[] s = (Cond.arrayOver t).before args s := by
    first
      | rfl
      | (unfold Cond.before Cond.holds; simp only [Cond.value]; rfl)
  exact e.trans h
theorem s_N8 {s : State} {args : Array Value} (hts : ∀ w ∈ lw_tbl, w.before args s = true) : nN nlX8 s := by
  intro w hw
  have h := hts w ((by decide +kernel : ∀ w ∈ nlX8, w ∈ lw_tbl) w hw)
  rcases okX8 w hw with ⟨a, i, x, h2, rfl⟩ | ⟨t, rfl⟩
  · exact va_Nw.of rfl h
  · exact nover_of h
theorem s_N9 {s : State} : nN nlX9 s := fun w hw => by cases hw
theorem s_three {A : Nat → Prop} {n k : Nat} {q r : Nat → Nat} {X Y : gX} {σ μ : TS} {o : Nat} {e : va_E} (hD : va_D A ((gS n q X σ ++ gS k r Y μ) ++ [(o, e)])) : gJ n q ∧ gJ k r ∧ (∀ a, gA n q a → A a) ∧ (∀ a, gA k r a → A a) ∧ A o ∧ (∀ a, gA k r a → ¬ gA n q a) ∧ ¬ gA n q o ∧ ¬ gA k r o := by
  have g1 : ∀ i, i < n → ((gS n q X σ ++ gS k r Y μ) ++ [(o, e)])[i]? = some (q i, X i (σ i)) := fun i hi => by
    rw [List.getElem?_append_left (by rw [List.length_append, h_len, h_len]; omega), List.getElem?_append_left (by rw [h_len]; exact hi)]
    exact gS_get hi rfl
  have g2 : ∀ i, i < k → ((gS n q X σ ++ gS k r Y μ) ++ [(o, e)])[n + i]? = some (r i, Y i (μ i)) := fun i hi => by
    rw [List.getElem?_append_left (by rw [List.length_append, h_len, h_len]; omega), List.getElem?_append_right (by rw [h_len]; omega), h_len, Nat.add_sub_cancel_left]
    exact gS_get hi rfl
  have g3 : ((gS n q X σ ++ gS k r Y μ) ++ [(o, e)])[n + k]? = some (o, e) := by
    rw [List.getElem?_append_right (by rw [List.length_append, h_len, h_len]; exact Nat.le_refl _), List.length_append, h_len, h_len, Nat.sub_self]
    rfl
  refine ⟨fun i j hi hj h => hD.1 i j _ _ (g1 i hi) (g1 j hj) h, fun i j hi hj h => ?_, ?_, ?_, hD.2 _ _ g3, ?_, ?_, ?_⟩
  · have h2 := hD.1 _ _ _ _ (g2 i hi) (g2 j hj) h
    omega
  · rintro a ⟨i, hi, rfl⟩
    exact hD.2 _ _ (g1 i hi)
  · rintro a ⟨i, hi, rfl⟩
    exact hD.2 _ _ (g2 i hi)
  · rintro a ⟨i, hi, rfl⟩ ⟨j, hj, h⟩
    have h2 := hD.1 _ _ _ _ (g2 i hi) (g1 j hj) h
    omega
  · rintro ⟨j, hj, h⟩
    have h2 := hD.1 _ _ _ _ g3 (g1 j hj) h
    omega
  · rintro ⟨j, hj, h⟩
    have h2 := hD.1 _ _ _ _ g3 (g2 j hj) h
    omega

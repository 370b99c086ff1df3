/-! THE CLAIM OUT OF ONE WALK OF THE LAW'S BODY. Your part is whole_start (and what it stands on); all else here is the same for every law, but numbers. -/
def R_law : String := "TriplaneLaw"
def lw_P (b : Addr) (xs : List Int32) (args : Array Value) (s : State) : Prop := args = #[.ref b] ∧ s.IntsAt b xs ∧ xs.length ≤ 260 ∧ (Jvm.Cond.and given_1 narrow_1).before args s = true
/-- what a walk over the start with the record d0 says of its end, said of the start itself -/
theorem lw_closed {s t : State} {o : Outcome} {d0 : Drawn} {L : List Loc} {k n : Nat} (hd0 : s.drawn.sameBut d0 lw_cs) (hv : ∃ v, o = .returned v) (hW : (s.setDrawn d0).WarmedH t.vm) (hs : (s.setDrawn d0).sameButNew ({ t with vm := s.vm } : State) L k n) : State.butDraws s t lw_cs (fun t1 => Framed s o t1 L k n) := by
  have h2 : t.drawn = d0 := congrArg State.drawn hs.1
  refine ⟨⟨hv, hW, State.sameButNew.setDrawn hs s.drawn⟩, ?_, by decide⟩
  rw [h2]
  exact hd0
def lw_Q (_ : Array Value) (s : State) (o : Outcome) (t : State) : Prop := o = .returned (some (.int 1)) ∧ State.butDraws s t lw_cs (fun t1 => Framed s o t1 [] 760453 6820264)
def lw_Z (below : List Frame) (a : Array Value) (s : State) : State → Prop := fun t => ∃ o, t.status = .running ∧ Ended t below o ∧ lw_Q a s o t
/-- the law's own end, with 1 on the stack, nothing written that was there before, its room as the claim has it; d0: the record of draws at this point (at the entry s.drawn: begin with 'refine W.base ?_' and 'have hd0 := Drawn.sameBut.refl s.drawn lw_cs') -/
theorem lw_ret {p : Program} {l : Launch} {e : Env} {s : State} {m : MethodId} {below : List Frame} {meth : Method} {c : Code} {b : Nat} {d0 : Drawn} (hd0 : s.drawn.sameBut d0 lw_cs) (hx : p.tables.exec = Jvm.exec) (hb : c.code = code) (hr : meth.sig.returnType = ret) (hlocks : meth.locks = false) {pc : Nat} {H : Heap} {ls : Array Slot} (hdg : decode code pc = .ok (.ireturn, 1)) : W p l e room_1 (s.setDrawn d0) m #[Value.ref b] below meth c H [] 760453 6820264 (lw_Z below #[Value.ref b] s) (F0 m pc ls [.int 1]) := by
  intro T hT X
  obtain ⟨fs, hret, hrun, hended, hW, hframe⟩ := X.leave (v := some (.int 1)) (hlocks := hlocks) (fun h => by rw [hr] at h; cases h)
  have hmeth' : T.vm.method? m = some meth := X.method'
  refine ⟨T.setFrames fs, ?_, .returned (some (.int 1)), hrun, hended, rfl, lw_closed hd0 ⟨_, rfl⟩ hW hframe⟩
  jvm_step X.here [X.here.top, hx, hb, hdg, hmeth', hr, ret, narrow_b1]
  (try refine ⟨rfl, ?_⟩); (try refine ⟨rfl, ?_⟩)
  first | (intro acts; rw [hret _ acts rfl rfl rfl]) | rw [hret _ _ rfl rfl rfl]
  exact Steps.refl _
/-- what holds at the law's entry: the machine, the code, the tables' words (any of lw_tbl by 'hts w (by decide +kernel)'), the script of L ints xs at the cell b, what the Statement gives of the start (any of its parts by flat_of_before) -/
def lw_At (p : Program) (s : State) (m : MethodId) (meth : Method) (c : Code) (b L : Nat) (xs : Nat → Int32) : Prop :=
  p.tables.exec = Jvm.exec ∧ c.code = code ∧ meth.sig.returnType = ret ∧ c.maxLocals = 2 ∧ s.vm.findClass R_law = some m.cls ∧ (∀ w ∈ lw_tbl, w.before #[Value.ref b] s = true) ∧ va_X b L xs s s.heap ∧ b < s.heap.size ∧ meth.locks = false ∧ (Jvm.Cond.and given_1 narrow_1).before #[Value.ref b] s = true
/-! ===== the tables at the law's entry ===== -/
theorem s_arr {s : State} {ty : FieldType} {c comp : ClassId} {k : Class} (h1 : s.vm.classes[c]? = some k) (h2 : k.kind = .array comp ty) : ArrOfT s c ty := by
  intro n z
  simp [State.isArrayOf, arrV, h1, h2]
theorem s_c {s : State} {args : Array Value} {ty : FieldType} (h : (Cond.arrayClass ty).before args s = true) (hno : ∀ C, ty ≠ .object C) : ∃ c, ArrOfT s c ty ∧ va_RA s c ty := by
  obtain ⟨c, k, comp, h1, h2, h3⟩ := Cond.arrayClass_spec h
  refine ⟨c, s_arr h2 h3, ?_⟩
  cases ty with
  | object C => exact absurd rfl (hno C)
  | _ => exact h1
theorem s_o {s : State} {args : Array Value} {C : String} (h : (Cond.arrayOver (.object C)).before args s = true) : ∃ c, ArrOfT s c (.object C) ∧ va_RA s c (.object C) := by
  obtain ⟨comp, c, k, h1, h2, h3, h4, h5⟩ := Cond.arrayOver_spec h
  exact ⟨c, s_arr h3 h4, k, comp, h3, h4, h1, h5⟩
theorem s_a {s : State} {args : Array Value} {t : FieldType} (h : (Cond.arrayOver (.array t)).before args s = true) : ∃ c, ArrOfT s c (.array t) ∧ va_RA s c (.array t) := by
  obtain ⟨comp, c, k, h1, h2, h3, h4, h5⟩ := arrayOverA_spec h
  exact ⟨c, s_arr h3 h4, h5⟩
theorem s_K {s : State} {args : Array Value} (hts : ∀ w ∈ lw_tbl, w.before args s = true) : ∃ (D : va_G) (cy : Nat → ClassId), va_K D vwCl (tyL cy) s := by
  obtain ⟨d0, e0, k0⟩ := u_known (C := RX0) (T := TX0) (N := 3) (n := 3) hts inX0 (hts (.instantiable RX0 3) (by decide +kernel))
  obtain ⟨d1, e1, k1⟩ := u_known (C := RX1) (T := TX1) (N := 14) (n := 14) hts inX1 (hts (.instantiable RX1 14) (by decide +kernel))
  obtain ⟨d2, e2, k2⟩ := u_known (C := RX2) (T := TX2) (N := 3) (n := 3) hts inX2 (hts (.instantiable RX2 3) (by decide +kernel))
  obtain ⟨d3, e3, k3⟩ := u_known (C := RX3) (T := TX3) (N := 4) (n := 4) hts inX3 (hts (.instantiable RX3 4) (by decide +kernel))
  obtain ⟨d4, e4, k4⟩ := u_known (C := RX4) (T := TX4) (N := 3) (n := 3) hts inX4 (hts (.instantiable RX4 3) (by decide +kernel))
  obtain ⟨d6, e6, k6⟩ := u_known (C := RX6) (T := TX6) (N := 5) (n := 5) hts inX6 (hts (.instantiable RX6 5) (by decide +kernel))
  obtain ⟨d7, e7, k7⟩ := u_known (C := RX7) (T := TX7) (N := 4) (n := 4) hts inX7 (hts (.instantiable RX7 4) (by decide +kernel))
  obtain ⟨d8, e8, k8⟩ := u_known (C := RX8) (T := TX8) (N := 16) (n := 16) hts inX8 (hts (.instantiable RX8 16) (by decide +kernel))
  obtain ⟨y0, z0⟩ := s_c (ty := .int) (hts (.arrayClass .int) (by decide +kernel)) (fun _ h => by cases h)
  obtain ⟨y1, z1⟩ := s_c (ty := .boolean) (hts (.arrayClass .boolean) (by decide +kernel)) (fun _ h => by cases h)
  obtain ⟨y2, z2⟩ := s_c (ty := .char) (hts (.arrayClass .char) (by decide +kernel)) (fun _ h => by cases h)
  obtain ⟨y3, z3⟩ := s_o (C := RX1) (hts (.arrayOver (.object RX1)) (by decide +kernel))
  obtain ⟨y4, z4⟩ := s_o (C := RX6) (hts (.arrayOver (.object RX6)) (by decide +kernel))
  obtain ⟨y5, z5⟩ := s_o (C := RX2) (hts (.arrayOver (.object RX2)) (by decide +kernel))
  obtain ⟨y6, z6⟩ := s_a (t := .int) (hts (.arrayOver (.array .int)) (by decide +kernel))
  obtain ⟨y7, z7⟩ := s_o (C := RX7) (hts (.arrayOver (.object RX7)) (by decide +kernel))
  obtain ⟨y8, z8⟩ := s_o (C := RX0) (hts (.arrayOver (.object RX0)) (by decide +kernel))
  refine ⟨(fun k => ([d0, d1, d2, d3, d4, d6, d7, d8] : List ClassId).getD k d0, fun k => ([e0, e1, e2, e3, e4, e6, e7, e8] : List (Nat → Nat)).getD k e0), fun k => ([y0, y1, y2, y3, y4, y5, y6, y7, y8] : List ClassId).getD k y0, fun c q hq => ?_, fun k q hq => ?_⟩
  · have hc : c < 8 := (List.getElem?_eq_some_iff.mp hq).1
    rcases (show c = 0 ∨ c = 1 ∨ c = 2 ∨ c = 3 ∨ c = 4 ∨ c = 5 ∨ c = 6 ∨ c = 7 by omega) with rfl | rfl | rfl | rfl | rfl | rfl | rfl | rfl <;> cases hq
    · exact k0
    · exact k1
    · exact k2
    · exact k3
    · exact k4
    · exact k6
    · exact k7
    · exact k8
  · have hc : k < 9 := (List.getElem?_eq_some_iff.mp hq).1
    rcases (show k = 0 ∨ k = 1 ∨ k = 2 ∨ k = 3 ∨ k = 4 ∨ k = 5 ∨ k = 6 ∨ k = 7 ∨ k = 8 by omega) with rfl | rfl | rfl | rfl | rfl | rfl | rfl | rfl | rfl <;> cases hq
    · exact z0
    · exact z1
    · exact z2
    · exact z3
    · exact z4
    · exact z5
    · exact z6
    · exact z7
    · exact z8

theorem s_str {s : State} {args : Array Value} {own tx : String} {k : Nat} (h1 : (Cond.stringRef own k tx).before args s = true) (h2 : (Cond.exactly (.string own k) "java/lang/String").before args s = true) : ∃ sa, vk_R own k tx sa s := by
  obtain ⟨a, c, cA, kA, q1, -⟩ := Cond.exactly_spec (args := args) (first := s) (o := none) (s := s) (idx := []) (t := .string own k) (cls := "java/lang/String") h2
  exact ⟨a, vk_R.of h1 q1⟩
theorem s_m1 : ∀ k ∈ xStrs, Cond.stringRef RX8 k.1 k.2 ∈ lw_tbl := by decide +kernel
theorem s_m2 : ∀ k ∈ xStrs, Cond.exactly (.string RX8 k.1) "java/lang/String" ∈ flatC (Jvm.Cond.and given_1 narrow_1) := by decide +kernel
theorem s_m3 : ∀ k ∈ xCasts, Cond.castable k.1 k.2 ∈ lw_tbl := by decide +kernel
theorem s_m4 : ∀ y ∈ xDecls, Cond.declares y ∈ lw_tbl := by decide +kernel
theorem s_m5 : ∀ k ∈ xNots, Cond.not (.castable k.1 k.2) ∈ flatC (Jvm.Cond.and given_1 narrow_1) := by decide +kernel
theorem s_X {s : State} {args : Array Value} (hts : ∀ w ∈ lw_tbl, w.before args s = true) (hgv : (Jvm.Cond.and given_1 narrow_1).before args s = true) : xPre (fun a => s.heap.size ≤ a) s := by
  have hs := flat_of_before _ hgv
  have hA : ∀ a : Nat, a < s.heap.size → ¬ (s.heap.size ≤ a) := fun a h => Nat.not_le.mpr h
  refine ⟨vx_Zqof (args := args) (hts (.laysStatic Bundle.tN "UNASSIGNED_STACK" Bundle.steD) (by decide +kernel)) (hts (.initialized Bundle.tN) (by decide +kernel)) (hs (.isRef (.static Bundle.tN "UNASSIGNED_STACK" Bundle.steD)) (by decide +kernel)) hA, vx_Zqof (args := args) (hts (.laysStatic Bundle.tN "SUPPRESSED_SENTINEL" Bundle.listD) (by decide +kernel)) (hts (.initialized Bundle.tN) (by decide +kernel)) (hs (.isRef (.static Bundle.tN "SUPPRESSED_SENTINEL" Bundle.listD)) (by decide +kernel)) hA, fun k hk => s_str (hts _ (s_m1 k hk)) (hs _ (s_m2 k hk)), fun k hk => va_Nw.of rfl (hts _ (s_m3 k hk)), fun y hy => va_Nw.of rfl (hts _ (s_m4 y hy))⟩
theorem s_Nt {s : State} {args : Array Value} (hgv : (Jvm.Cond.and given_1 narrow_1).before args s = true) : ∀ k ∈ xNots, va_Nc k.1 k.2 s := fun k hk => va_Nc.of (flat_of_before _ hgv _ (s_m5 k hk))
theorem nover_of {t : FieldType} {args : Array Value} {s : State} (h : (Cond.arrayOver t).before args s = true) : va_Nw (.arrayOver t) s := by
  have e : (Cond.arrayOver t).before #[] s = (Cond.arrayOver t).before args s := by
    first
      | rfl
      | (unfold Cond.before Cond.holds; simp only [Cond.value]; rfl)
  exact e.trans h
theorem s_N8 {s : State} {args : Array Value} (hts : ∀ w ∈ lw_tbl, w.before args s = true) : nN nlX8 s := by
  intro w hw
  have h := hts w ((by decide +kernel : ∀ w ∈ nlX8, w ∈ lw_tbl) w hw)
  rcases okX8 w hw with ⟨a, i, x, h2, rfl⟩ | ⟨t, rfl⟩
  · exact va_Nw.of rfl h
  · exact nover_of h

/-! ===== constructors: worlds that grow ===== -/
def okN (w : Cond) : Prop := (∃ a i x h, w = .methodLinkNest a i x h) ∨ (∃ t, w = .arrayOver t)
def nN (L : List Cond) (U : State) : Prop := ∀ w ∈ L, va_Nw w U
theorem nover_moved {t : FieldType} {u U : State} (hvm : u.vm.Alike U.vm) (h : va_Nw (.arrayOver t) u) : va_Nw (.arrayOver t) U := by
  have e : (Cond.arrayOver t).before #[] (u.setVm U.vm) = (Cond.arrayOver t).before #[] U := by
    first
      | rfl
      | (unfold Cond.before Cond.holds; simp only [Cond.value]; rfl)
  have h1 : (Cond.arrayOver t).before #[] (u.setVm U.vm) = true := by
    rw [Cond.arrayOver_setVmC hvm]
    exact h
  exact e.symm.trans h1
theorem nN_same {L : List Cond} (hL : ∀ w ∈ L, okN w) {u U : State} (h : u.vm = U.vm) (hN : nN L u) : nN L U := by
  intro w hw
  have h1 := hN w hw
  rcases hL w hw with ⟨a, i, x, h2, rfl⟩ | ⟨t, rfl⟩
  · exact va_Nw.same rfl h h1
  · exact nover_moved (by rw [h]; exact Vm.Alike.refl U.vm) h1
theorem nN_warm {L : List Cond} (hL : ∀ w ∈ L, okN w) {s U : State} (hW : s.WarmedH U.vm) (hN : nN L s) : nN L U := by
  intro w hw
  have h1 := hN w hw
  rcases hL w hw with ⟨a, i, x, h2, rfl⟩ | ⟨t, rfl⟩
  · exact va_Nw.warmM hW h1
  · exact nover_moved hW.alike h1
theorem ra_uni {U : State} {ty : FieldType} {a b : ClassId} (h1 : va_RA U a ty) (h2 : va_RA U b ty) : a = b := by
  cases ty with
  | object C =>
    obtain ⟨_, _, _, _, _, h3⟩ := h1
    obtain ⟨_, _, _, _, _, h4⟩ := h2
    exact Option.some.inj (h3.symm.trans h4)
  | _ => exact Option.some.inj (Eq.trans (Eq.symm h1) h2)
theorem ra_k {D : va_G} {cl : List vw_C} {tys : List (ClassId × FieldType)} {s : State} {t0 : Nat} {c0 cA : ClassId} {ty : FieldType} (ht : tys[t0]? = some (c0, ty)) (hK : va_K D cl (tys ++ [(cA, ty)]) s) : cA = c0 := by
  have h1 := (hK.2 t0 (c0, ty) (by rw [List.getElem?_append_left (List.getElem?_eq_some_iff.mp ht).1]; exact ht)).2
  have h2 := (hK.2 tys.length (cA, ty) (by rw [List.getElem?_append_right (Nat.le_refl _), Nat.sub_self]; rfl)).2
  exact ra_uni h2 h1
theorem arrV_c (c : ClassId) {n : Nat} {f g : Nat → Value} (h : ∀ i, i < n → f i = g i) : arrV c n f = arrV c n g := by
  have e : (fun j : Fin n => f j.val) = fun j => g j.val := funext fun j => h j.val j.isLt
  unfold arrV
  rw [e]
theorem cell_q (c : ClassId) {n : Nat} {f g : Nat → Option Nat} (h : ∀ i, i < n → f i = g i) : vp_cell c (n, .inr (.inr (.inr (.inr f)))) = vp_cell c (n, .inr (.inr (.inr (.inr g)))) := by
  rw [vp_cell_q, vp_cell_q]
  refine arrV_c c fun j hj => ?_
  rw [h j hj]
/-- before a constructor: the size of the heap, a world, the tables, and words of nest and arrays -/
def cPre (D : va_G) (cy : Nat → ClassId) (sz : Nat) (ws : va_W) (L : List Cond) : State → Prop := fun U => U.heap.size = sz ∧ va_P D vwCl ws U.heap ∧ va_K D vwCl (tyL cy) U ∧ va_D (fun _ => True) ws ∧ nN L U
abbrev cQ (D : va_G) (a : Nat) (Wc : (Nat → Nat) → va_W) (A : Nat → Prop) : Array Value → State → Outcome → State → Prop := va_Qv (fun u : Nat → Nat => u 0 = a) (fun u t => va_P D vwCl (Wc u) t.heap ∧ va_D A (Wc u)) A
theorem c_pre {D : va_G} {cy : Nat → ClassId} {s : State} {H : Heap} {a : Nat} {e : va_E} {L : List Cond} (hL : ∀ w ∈ L, okN w) (hK : va_K D vwCl (tyL cy) s) (hP : va_P D vwCl [(a, e)] H) (hN : nN L s) : PreS s H (va_Pc [.ref a] (cPre D cy H.size [(a, e)] L)) (.ref a :: []) :=
  ⟨fun a U g mk q => by
    obtain ⟨q0, q1, qP, qK, qD, qN⟩ := q
    exact ⟨q0, q1, qP, va_K.moved (u := U) (U := U.calling g mk a) (Vm.Alike.refl U.vm) qK, qD, nN_same (u := U) (U := U.calling g mk a) hL rfl qN⟩,
   fun U hU hW => by
    refine ⟨rfl, by rw [hU], by rw [hU]; exact hP, va_K.moved hW.alike hK, ⟨fun i j x y hi hj _ => ?_, fun _ _ _ => trivial⟩, nN_warm hL hW hN⟩
    have h1 : i < 1 := (List.getElem?_eq_some_iff.mp hi).1
    have h2 : j < 1 := (List.getElem?_eq_some_iff.mp hj).1
    omega⟩
theorem w_last {D : va_G} {cl : List vw_C} {ws w1 : va_W} {H : Heap} (h : va_P D cl (ws ++ w1) H) : va_P D cl w1 H := fun k x hx => h (ws.length + k) x (by rw [List.getElem?_append_right (by omega), Nat.add_sub_cancel_left]; exact hx)
theorem w_first {D : va_G} {cl : List vw_C} {ws w1 : va_W} {H : Heap} (h : va_P D cl (ws ++ w1) H) : va_P D cl ws H := fun k x hx => h k x (by rw [List.getElem?_append_left (List.getElem?_eq_some_iff.mp hx).1]; exact hx)
theorem w_firstD {A : Nat → Prop} {ws w1 : va_W} (h : va_D A (ws ++ w1)) : va_D A ws :=
  ⟨fun i j x y hi hj e => h.1 i j x y (by rw [List.getElem?_append_left (List.getElem?_eq_some_iff.mp hi).1]; exact hi) (by rw [List.getElem?_append_left (List.getElem?_eq_some_iff.mp hj).1]; exact hj) e,
   fun k x hx => h.2 k x (by rw [List.getElem?_append_left (List.getElem?_eq_some_iff.mp hx).1]; exact hx)⟩
theorem w_join {A : Nat → Prop} {D : va_G} {ws w1 : va_W} {a : Nat} {e : va_E} {H H1 : Heap} (hP : va_P D vwCl (ws ++ [(a, e)]) H) (hD : va_D A (ws ++ [(a, e)])) (hF : ∀ q, va_A [(a, e)] H.size q → A q) (hk : ∀ q : Nat, q < H.size → ¬ va_A [(a, e)] H.size q → H1[q]? = H[q]?) (hP1 : va_P D vwCl w1 H1) (hD1 : va_D (va_A [(a, e)] H.size) w1) : va_P D vwCl (ws ++ w1) H1 ∧ va_D A (ws ++ w1) := by
  have hlast : (ws ++ [(a, e)])[ws.length]? = some (a, e) := by
    rw [List.getElem?_append_right (Nat.le_refl _), Nat.sub_self]
    rfl
  have hap : ∀ (k : Nat) (x : Nat × va_E), ws[k]? = some x → x.1 < H.size ∧ ¬ va_A [(a, e)] H.size x.1 := by
    intro k x hx
    have hlt := (List.getElem?_eq_some_iff.mp hx).1
    have hx' : (ws ++ [(a, e)])[k]? = some x := by rw [List.getElem?_append_left hlt]; exact hx
    have h1 : x.1 < H.size := (hP k x hx').lt
    refine ⟨h1, ?_⟩
    rintro (⟨j, e', hj⟩ | hj)
    · have hj1 : j < 1 := (List.getElem?_eq_some_iff.mp hj).1
      rw [show j = 0 by omega] at hj
      have hj2 : (a, e) = (x.1, e') := Option.some.inj hj
      have h3 := hD.1 k ws.length x (a, e) hx' hlast (by rw [show a = x.1 from congrArg Prod.fst hj2])
      omega
    · omega
  refine ⟨((w_first hP).kept fun k x hx => hk x.1 (hap k x hx).1 (hap k x hx).2).app hP1, fun i j x y hi hj exy => ?_, fun k x hx => ?_⟩
  · by_cases h1 : i < ws.length
    · rw [List.getElem?_append_left h1] at hi
      by_cases h2 : j < ws.length
      · rw [List.getElem?_append_left h2] at hj
        exact (w_firstD hD).1 i j x y hi hj exy
      · rw [List.getElem?_append_right (by omega)] at hj
        exact absurd (by rw [exy]; exact hD1.2 _ y hj) (hap i x hi).2
    · rw [List.getElem?_append_right (by omega)] at hi
      by_cases h2 : j < ws.length
      · rw [List.getElem?_append_left h2] at hj
        exact absurd (by rw [← exy]; exact hD1.2 _ x hi) (hap j y hj).2
      · rw [List.getElem?_append_right (by omega)] at hj
        have h3 := hD1.1 _ _ x y hi hj exy
        omega
  · by_cases h1 : k < ws.length
    · rw [List.getElem?_append_left h1] at hx
      exact (w_firstD hD).2 k x hx
    · rw [List.getElem?_append_right (by omega)] at hx
      exact hF _ (hD1.2 _ x hx)
section CK
variable {p : Program} {l : Launch} {e : Env} {R : Room} {s : State} {m : MethodId} {args : Array Value} {below : List Frame} {meth : Method} {c : Code} {H : Heap} {locs : List Loc} {cells slots : Nat} {Q : State → Prop}
variable {cc : ByteArray} {pc : Nat} {ls : Array Slot} {rest : List Value} {D : va_G} {A : Nat → Prop} {a : Nat} {tys : List (ClassId × FieldType)} {ws : va_W} {H0 : Heap}
theorem n_after {mc ms : Nat} {st0 : List Value} {av : Array Value} {e0 : va_E} {Wc : (Nat → Nat) → va_W} (hr : va_Run p l e R s m args below meth c H locs cells slots mc ms (F0 m pc ls st0) rest (cQ D a Wc (va_A [(a, e0)] H.size) av) (va_A [(a, e0)] H.size)) (hP : va_P D vwCl (ws ++ [(a, e0)]) H) (hD : va_D A (ws ++ [(a, e0)])) (hS : va_S A H0 H locs) (hA : ∀ q, H0.size ≤ q → A q)
    (kk : ∀ (u : Nat → Nat) (H1 : Heap) (locs1 : List Loc), u 0 = a → va_P D vwCl (ws ++ Wc u) H1 → va_D A (ws ++ Wc u) → va_S A H0 H1 locs1 → W p l e R s m args below meth c H1 locs1 (cells + mc) (slots + ms) Q (F0 m (pc + 3) ls rest)) : W p l e R s m args below meth c H locs cells slots Q (F0 m pc ls st0) := by
  have hlast : (ws ++ [(a, e0)])[ws.length]? = some (a, e0) := by
    rw [List.getElem?_append_right (Nat.le_refl _), Nat.sub_self]
    rfl
  have hF : ∀ q, va_A [(a, e0)] H.size q → A q := by
    rintro q (⟨j, e', hj⟩ | hj)
    · have hj1 : j < 1 := (List.getElem?_eq_some_iff.mp hj).1
      rw [show j = 0 by omega] at hj
      have hj2 : (a, e0) = (q, e') := Option.some.inj hj
      have h3 := hD.2 ws.length _ hlast
      rw [show q = a from (congrArg Prod.fst hj2).symm]
      exact h3
    · exact hA q (Nat.le_trans hS.1 hj)
  refine va_callv hr hS (fun q _ h => hF q h) hF (fun u t H1 locs1 ht hvm hu hB hz1 hk1 hS1 => ?_)
  obtain ⟨hP1, hD1⟩ := hB
  rw [ht] at hP1
  obtain ⟨h1, h2⟩ := w_join hP hD hF hk1 hP1 hD1
  exact kk u H1 locs1 hu h1 h2 hS1
theorem n_newa (hexec : p.tables.exec = Jvm.exec) (hb : c.code = cc) {atype : ArrayType} (harr : (Cond.arrayClass (newarray.typeOf atype)).before args s = true) {ty : FieldType} (hty : newarray.typeOf atype = ty) (hK : va_K D vwCl tys s) (hP : va_P D vwCl ws H) (hD : va_D A ws) (hS : va_S A H0 H locs) (hA : ∀ q, H0.size ≤ q → A q)
    {n : Int32} {N' : Nat} {a0 : vp_A} (t0 : Nat) {c0 : ClassId} (ht : tys[t0]? = some (c0, ty)) (ha : ∀ cA : ClassId, vp_cell cA a0 = arrV cA N' (fun _ => defaultValue ty)) (hn : ¬ n < 0) (hN : n.toNatClampNeg = N') (hbytes : N' * componentBytes ty ≤ 536870912) (hcells : cells + 1 ≤ R.cells) (hslots : slots + N' ≤ R.slots) (hdg : decode cc pc = .ok (.newarray atype, 2))
    (kk : ∀ (q : Nat) (H1 : Heap), va_P D vwCl (ws ++ [(q, .inl (c0, a0))]) H1 → va_D A (ws ++ [(q, .inl (c0, a0))]) → va_S A H0 H1 locs →
      W p l e R s m args below meth c H1 locs (cells + 1) (slots + N') Q (F0 m (pc + 2) ls (.ref q :: rest))) : W p l e R s m args below meth c H locs cells slots Q (F0 m pc ls (.int n :: rest)) := by
  refine va_newa hexec hb harr hty hK hP hD hS hA ha hn hN hbytes hcells hslots hdg fun q cA H1 hK1 hP1 hD1 hS1 => ?_
  have hc := ra_k ht hK1
  subst hc
  exact kk q H1 hP1 hD1 hS1
theorem n_newq (hexec : p.tables.exec = Jvm.exec) (hb : c.code = cc) {own C : String} {index : Nat} (hown : s.vm.findClass own = some m.cls) (hclink : (Cond.classLink own index C).before args s = true) (hover : va_AO C s) (hK : va_K D vwCl tys s) (hP : va_P D vwCl ws H) (hD : va_D A ws) (hS : va_S A H0 H locs) (hA : ∀ q, H0.size ≤ q → A q)
    {n : Int32} {N' : Nat} (t0 : Nat) {c0 : ClassId} (ht : tys[t0]? = some (c0, .object C)) (hn : ¬ n < 0) (hN : n.toNatClampNeg = N') (hbytes : N' * 4 ≤ 536870912) (hcells : cells + 1 ≤ R.cells) (hslots : slots + N' ≤ R.slots) (hdg : decode cc pc = .ok (.anewarray index, 3))
    (kk : ∀ (q : Nat) (H1 : Heap), va_P D vwCl (ws ++ [(q, .inl (c0, N', .inr (.inr (.inr (.inr (fun _ => none))))))]) H1 → va_D A (ws ++ [(q, .inl (c0, N', .inr (.inr (.inr (.inr (fun _ => none))))))]) → va_S A H0 H1 locs →
      W p l e R s m args below meth c H1 locs (cells + 1) (slots + N') Q (F0 m (pc + 3) ls (.ref q :: rest))) : W p l e R s m args below meth c H locs cells slots Q (F0 m pc ls (.int n :: rest)) := by
  refine va_newq hexec hb hown hclink hover hK hP hD hS hA hn hN hbytes hcells hslots hdg fun q cA H1 hK1 hP1 hD1 hS1 => ?_
  have hc := ra_k ht hK1
  subst hc
  exact kk q H1 hP1 hD1 hS1
/-- new int[2][n] -/
theorem n_mna2 (hexec : p.tables.exec = Jvm.exec) (hb : c.code = cc) {own : String} {index : Nat} (hown : s.vm.findClass own = some m.cls) (hclink : (Cond.classLink own index "[[I").before args s = true) (hover : va_AOA .int s) (harr : (Cond.arrayClass .int).before args s = true) (hK : va_K D vwCl tys s) (hP : va_P D vwCl ws H) (hD : va_D A ws) (hS : va_S A H0 H locs) (hA : ∀ q, H0.size ≤ q → A q)
    {k : Int32} {K' : Nat} (t0 t1 : Nat) {c0 c1 : ClassId} (ht0 : tys[t0]? = some (c0, .int)) (ht1 : tys[t1]? = some (c1, .array .int)) (hk : ¬ k < 0) (hM : k.toNatClampNeg = K') (hb2 : K' * 4 ≤ 536870912) (hcells : cells + (1 + 2) ≤ R.cells) (hslots : slots + (2 + 2 * K') ≤ R.slots) (hdg : decode cc pc = .ok (.multianewarray index 2, 4))
    (kk : ∀ (q r0 r1 : Nat) (H1 : Heap), va_P D vwCl (ws ++ [(q, .inl (c1, 2, .inr (.inr (.inr (.inr (fun i => if i = 0 then some r0 else some r1)))))), (r0, .inl (c0, K', .inl (fun _ => 0))), (r1, .inl (c0, K', .inl (fun _ => 0)))]) H1 → va_D A (ws ++ [(q, .inl (c1, 2, .inr (.inr (.inr (.inr (fun i => if i = 0 then some r0 else some r1)))))), (r0, .inl (c0, K', .inl (fun _ => 0))), (r1, .inl (c0, K', .inl (fun _ => 0)))]) → va_S A H0 H1 locs →
      W p l e R s m args below meth c H1 locs (cells + 1 + 2) (slots + 2 + 2 * K') Q (F0 m (pc + 4) ls (.ref q :: rest))) : W p l e R s m args below meth c H locs cells slots Q (F0 m pc ls (.int k :: .int 2 :: rest)) := by
  have hz0 : ∀ f : Nat → va_E, ws ++ va_pl [] f = ws := fun f => List.append_nil _
  have hcy : s.vm.findClass (FieldType.array .int).toString = some c0 := (hK.2 t0 _ ht0).2
  refine va_mna (X := ws) (L := []) (f := fun _ => .inr (0, [])) (ty := .int) (z := (K', .inl (fun _ => 0))) (N' := 2) hexec hb hown hclink hover harr hcy hK (by rw [hz0]; exact hP) (by rw [hz0]; exact hD) hS hA (by decide) hk rfl hM (by decide) hb2 (by omega) (by decide) (by decide) hcells hslots (fun c => arrV_new c K' (.int 0)) hdg fun q r cA H1 hinj hnot hK1 hP1 hD1 hS1 => ?_
  have hc := ra_k ht1 hK1
  subst hc
  have hr01 : r 0 ≠ r 1 := fun h => by
    have := hinj 0 1 (by omega) (by omega) h
    omega
  have e1 : va_pl ([] ++ (List.range 2).map r) (vr_up (fun _ => (.inr (0, []) : va_E)) ((List.range 2).map r) (.inl (c0, (K', .inl (fun _ => 0))))) = [(r 0, .inl (c0, K', .inl (fun _ => 0))), (r 1, .inl (c0, K', .inl (fun _ => 0)))] := by
    have h0 : vr_up (fun _ => (.inr (0, []) : va_E)) [r 0, r 1] (.inl (c0, (K', .inl (fun _ => 0)))) (r 0) = .inl (c0, (K', .inl (fun _ => 0))) := vr_up_in (by simp)
    have h1 : vr_up (fun _ => (.inr (0, []) : va_E)) [r 0, r 1] (.inl (c0, (K', .inl (fun _ => 0)))) (r 1) = .inl (c0, (K', .inl (fun _ => 0))) := vr_up_in (by simp)
    show [(r 0, vr_up (fun _ => (.inr (0, []) : va_E)) [r 0, r 1] (.inl (c0, (K', .inl (fun _ => 0)))) (r 0)), (r 1, vr_up (fun _ => (.inr (0, []) : va_E)) [r 0, r 1] (.inl (c0, (K', .inl (fun _ => 0)))) (r 1))] = _
    rw [h0, h1]
  rw [e1, List.append_assoc] at hP1 hD1
  refine kk q (r 0) (r 1) H1 (fun i x hx => ?_) ?_ hS1
  · by_cases hi : i = ws.length
    · subst hi
      rw [List.getElem?_append_right (Nat.le_refl _), Nat.sub_self] at hx
      have h1 := hP1 ws.length _ (by rw [List.getElem?_append_right (Nat.le_refl _), Nat.sub_self]; rfl)
      cases hx
      show H1[q]? = some (vp_cell _ _)
      rw [cell_q (g := fun i => if i < 2 then some (r i) else none) _ (fun j hj => by
        rcases (show j = 0 ∨ j = 1 by omega) with rfl | rfl <;> rfl)]
      exact h1
    · refine hP1 i x ?_
      by_cases hl : i < ws.length
      · rw [List.getElem?_append_left hl] at hx ⊢
        exact hx
      · rw [List.getElem?_append_right (by omega)] at hx ⊢
        obtain ⟨j, hj⟩ : ∃ j, i - ws.length = j + 1 := ⟨i - ws.length - 1, by omega⟩
        rw [hj] at hx ⊢
        exact hx
  · have hmap : ∀ (i : Nat) (x : Nat × va_E), (ws ++ [(q, (.inl (cA, 2, .inr (.inr (.inr (.inr (fun i => if i = 0 then some (r 0) else some (r 1)))))) : va_E)), (r 0, .inl (c0, K', .inl (fun _ => 0))), (r 1, .inl (c0, K', .inl (fun _ => 0)))])[i]? = some x → ∃ e', (ws ++ ([(q, (.inl (cA, 2, .inr (.inr (.inr (.inr (fun i => if i < 2 then some (r i) else none))))) : va_E))] ++ [(r 0, .inl (c0, K', .inl (fun _ => 0))), (r 1, .inl (c0, K', .inl (fun _ => 0)))]))[i]? = some (x.1, e') := by
      intro i x hx
      by_cases hl : i < ws.length
      · rw [List.getElem?_append_left hl] at hx ⊢
        exact ⟨x.2, hx⟩
      · rw [List.getElem?_append_right (by omega)] at hx ⊢
        have h3 : i - ws.length < 3 := (List.getElem?_eq_some_iff.mp hx).1
        rcases (show i - ws.length = 0 ∨ i - ws.length = 1 ∨ i - ws.length = 2 by omega) with h | h | h <;> rw [h] at hx ⊢ <;> cases hx <;> exact ⟨_, rfl⟩
    refine ⟨fun i j x y hi hj hxy => ?_, fun i x hx => ?_⟩
    · obtain ⟨e2, h2⟩ := hmap i x hi
      obtain ⟨e3, h3⟩ := hmap j y hj
      exact hD1.1 i j _ _ h2 h3 hxy
    · obtain ⟨e2, h2⟩ := hmap i x hx
      exact hD1.2 i (x.1, e2) h2
end CK

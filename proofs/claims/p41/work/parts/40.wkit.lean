/-! ===== the law's bodies: the end; arrays of the law beside a Triplane ===== -/
section WK
variable {p : Program} {l : Launch} {e : Env} {R : Room} {s : State} {m : MethodId} {args : Array Value} {below : List Frame} {meth : Method} {c : Code} {H : Heap} {locs : List Loc} {cells slots : Nat} {Q : State → Prop}
variable {cc : ByteArray} {pc : Nat} {ls : Array Slot} {rest : List Value} {D : va_G} {cy : Nat → ClassId} {q q2 : Nat → Nat} {X : gX} {n : Nat} {σ ρ : TS} {A : Nat → Prop} {H0 : Heap}
/-- a body of the law ends with a yes -/
theorem law_ret (hx : p.tables.exec = Jvm.exec) (hb : c.code = cc) (hr : meth.sig.returnType = some .boolean) (hlocks : meth.locks = false) (hS : va_S (fun a => s.heap.size ≤ a) s.heap H locs) {r : Int32} (h1 : r = 1) (hdg : decode cc pc = .ok (.ireturn, 1)) : W p l e R s m args below meth c H locs cells slots (MQ below (pQ 1) args s cells slots yN) (F0 m pc ls [.int r]) := by
  subst h1
  have hS' : va_S yN s.heap H [] := ⟨hS.1, fun a ha _ => hS.2.1 a ha (fun h => absurd ha (Nat.not_lt.mpr h)), fun q h => by cases h⟩
  refine va_forget hS.2.2 ?_
  exact W.zret (v := 1) hx hb hr (by decide) (fun t ht hW => ⟨⟨1, (), rfl, rfl, trivial⟩, hS'.F ht⟩) hS'.2.2 hdg
theorem w2_get {k : Nat} {e0 : va_E} (hk : k < n) (hX : X k (ρ k) = e0) : (gS 78 q (TX cy q) σ ++ gS n q2 X ρ)[78 + k]? = some (q2 k, e0) := by
  rw [List.getElem?_append_right (by rw [h_len]; omega), h_len, Nat.add_sub_cancel_left]
  exact gS_get hk hX
theorem w2_set {k j : Nat} {v : Int32} {e0 : va_E} (hk : k < n) (hX : X k (upd (ρ k) j v) = e0) : (gS 78 q (TX cy q) σ ++ gS n q2 X ρ).set (78 + k) (q2 k, e0) = gS 78 q (TX cy q) σ ++ gS n q2 X (st2 ρ k j v) := by
  rw [List.set_append_right _ _ (by rw [h_len]; omega), h_len, Nat.add_sub_cancel_left, gS_set hk hX]
theorem w2_iald (hexec : p.tables.exec = Jvm.exec) (hb : c.code = cc) (hK : va_K D vwCl (tyL cy) s) (hP : va_P D vwCl (gS 78 q (TX cy q) σ ++ gS n q2 X ρ) H) {k : Nat} (hk : k < n) {cA : ClassId} {len : Nat} (hX : ∀ r, X k r = .inl (cA, len, .inl r)) (t0 : Nat) (ht : (tyL cy)[t0]? = some (cA, .int)) {i : Int32} (hin : vin i len = true) {j : Nat} (hj : i.toNatClampNeg = j) (hdg : decode cc pc = .ok (.iaload, 1))
    (kk : W p l e R s m args below meth c H locs cells slots Q (F0 m (pc + 1) ls (.int (ρ k j) :: rest))) : W p l e R s m args below meth c H locs cells slots Q (F0 m pc ls (.int i :: .ref (q2 k) :: rest)) :=
  va_iald hexec hb hK hP (78 + k) t0 (w2_get hk (hX _)) ht (vin_of hin) hdg (by rw [hj]; exact kk)
theorem w2_zald (hexec : p.tables.exec = Jvm.exec) (hb : c.code = cc) (hK : va_K D vwCl (tyL cy) s) (hP : va_P D vwCl (gS 78 q (TX cy q) σ ++ gS n q2 X ρ) H) {k : Nat} (hk : k < n) {cA : ClassId} {len : Nat} (hX : ∀ r, X k r = .inl (cA, len, .inl r)) (t0 : Nat) (ht : (tyL cy)[t0]? = some (cA, .boolean)) {i : Int32} (hin : vin i len = true) {j : Nat} (hj : i.toNatClampNeg = j) (hdg : decode cc pc = .ok (.baload, 1))
    (kk : W p l e R s m args below meth c H locs cells slots Q (F0 m (pc + 1) ls (.int (ρ k j) :: rest))) : W p l e R s m args below meth c H locs cells slots Q (F0 m pc ls (.int i :: .ref (q2 k) :: rest)) :=
  va_zald hexec hb hK hP (78 + k) t0 (w2_get hk (hX _)) ht (vin_of hin) hdg (by rw [hj]; exact kk)
theorem w2_aald (hexec : p.tables.exec = Jvm.exec) (hb : c.code = cc) (hK : va_K D vwCl (tyL cy) s) (hP : va_P D vwCl (gS 78 q (TX cy q) σ ++ gS n q2 X ρ) H) {k : Nat} (hk : k < n) {cA : ClassId} {len : Nat} {g : Nat → Nat} (hX : ∀ r, X k r = .inl (cA, len, .inr (.inr (.inr (.inr (fun i => some (g i))))))) (t0 : Nat) {ty : FieldType} (ht : (tyL cy)[t0]? = some (cA, ty)) (hty : ty.isReference = true) {i : Int32} (hin : vin i len = true) {j : Nat} (hj : i.toNatClampNeg = j) (hdg : decode cc pc = .ok (.aaload, 1))
    (kk : W p l e R s m args below meth c H locs cells slots Q (F0 m (pc + 1) ls (.ref (g j) :: rest))) : W p l e R s m args below meth c H locs cells slots Q (F0 m pc ls (.int i :: .ref (q2 k) :: rest)) := by
  subst hj
  have hlt : i.toNatClampNeg < len := vin_lt hin
  exact W.aald (v := va_rf (some (g i.toNatClampNeg))) (ty := ty) hexec hb (hP (78 + k) _ (w2_get hk (hX _))) ((hK.2 t0 _ ht).1 len (fun j => va_rf (some (g j)))) hty (fun q => by cases q) (by show ¬ (i < 0 ∨ (arrV _ _ _).slots.size ≤ _); rw [arrV_size]; exact vin_of hin) (by show (arrV _ _ _).slots[_]? = _; rw [arrV_read _ _ hlt]) rfl rfl hdg kk
theorem w2_iast (hexec : p.tables.exec = Jvm.exec) (hb : c.code = cc) (hK : va_K D vwCl (tyL cy) s) (hP : va_P D vwCl (gS 78 q (TX cy q) σ ++ gS n q2 X ρ) H) (hD : va_D A (gS 78 q (TX cy q) σ ++ gS n q2 X ρ)) (hS : va_S A H0 H locs) {k : Nat} (hk : k < n) {cA : ClassId} {len : Nat} (hX : ∀ r, X k r = .inl (cA, len, .inl r)) (t0 : Nat) (ht : (tyL cy)[t0]? = some (cA, .int)) {i x : Int32} (hin : vin i len = true) {j : Nat} (hj : i.toNatClampNeg = j) (hdg : decode cc pc = .ok (.iastore, 1))
    (kk : ∀ (H1 : Heap) (locs1 : List Loc), va_P D vwCl (gS 78 q (TX cy q) σ ++ gS n q2 X (st2 ρ k j x)) H1 → va_D A (gS 78 q (TX cy q) σ ++ gS n q2 X (st2 ρ k j x)) → va_S A H0 H1 locs1 → W p l e R s m args below meth c H1 locs1 cells slots Q (F0 m (pc + 1) ls rest)) : W p l e R s m args below meth c H locs cells slots Q (F0 m pc ls (.int x :: .int i :: .ref (q2 k) :: rest)) := by
  subst hj
  refine va_iast hexec hb hK hP hD hS (78 + k) t0 (w2_get hk (hX _)) ht (vin_of hin) hdg (fun H1 locs1 hP1 hD1 hS1 => ?_)
  rw [w2_set (j := i.toNatClampNeg) (v := x) hk (hX _)] at hP1 hD1
  exact kk H1 locs1 hP1 hD1 hS1
theorem w2_zast (hexec : p.tables.exec = Jvm.exec) (hb : c.code = cc) (hK : va_K D vwCl (tyL cy) s) (hP : va_P D vwCl (gS 78 q (TX cy q) σ ++ gS n q2 X ρ) H) (hD : va_D A (gS 78 q (TX cy q) σ ++ gS n q2 X ρ)) (hS : va_S A H0 H locs) {k : Nat} (hk : k < n) {cA : ClassId} {len : Nat} (hX : ∀ r, X k r = .inl (cA, len, .inl r)) (t0 : Nat) (ht : (tyL cy)[t0]? = some (cA, .boolean)) {i x : Int32} (hin : vin i len = true) {j : Nat} (hj : i.toNatClampNeg = j) {y : Int32} (hy : vp_nar .boolean x = y) (hdg : decode cc pc = .ok (.bastore, 1))
    (kk : ∀ (H1 : Heap) (locs1 : List Loc), va_P D vwCl (gS 78 q (TX cy q) σ ++ gS n q2 X (st2 ρ k j y)) H1 → va_D A (gS 78 q (TX cy q) σ ++ gS n q2 X (st2 ρ k j y)) → va_S A H0 H1 locs1 → W p l e R s m args below meth c H1 locs1 cells slots Q (F0 m (pc + 1) ls rest)) : W p l e R s m args below meth c H locs cells slots Q (F0 m pc ls (.int x :: .int i :: .ref (q2 k) :: rest)) := by
  subst hj hy
  refine va_zast hexec hb hK hP hD hS (78 + k) t0 (w2_get hk (hX _)) ht (vin_of hin) hdg (fun H1 locs1 hP1 hD1 hS1 => ?_)
  rw [w2_set (j := i.toNatClampNeg) (v := vp_nar .boolean x) hk (hX _)] at hP1 hD1
  exact kk H1 locs1 hP1 hD1 hS1
/-- a static method over the Triplane's world, which changes nothing of the law's own -/
theorem ar_cSi {own : String} {y : MethodName} {bytes : ByteArray} {maxL nn index nL : Nat} {ret : Option FieldType} {ws Ts : List Cond} {rm : Room} {WO : va_W} {As stk : List Value} {u : TS} {r : Int32} (hx : p.tables.exec = Jvm.exec) (hb : c.code = cc) (hml : c.maxLocals = nL) (hown : s.vm.findClass own = some m.cls) (hts : ∀ w ∈ Ts, w.before args s = true) (hK : va_K D vwCl (tyL cy) s) (hP : va_P D vwCl (gS 78 q X σ ++ WO) H) (hD : va_D A (gS 78 q X σ ++ WO)) (hS : va_S A s.heap H locs)
    (hM : gJ 78 q → Met l y ws rm (va_Pc As (gPre D vwCl (tyL cy) (gS 78 q X σ))) (gQi D vwCl r (gS 78 q X u) (gA 78 q)) 0 0 (gA 78 q)) (cw : CallB R s args own index y bytes maxL ret ws rm 0 0 nn ∧ (Cond.static y).before args s = true)
    (hn : As.length = nn) (hsize : ls.size = nL) (hstk : stk = As.reverse ++ rest) (hW : (rest.map fun v => v.category).sum ≤ 8) (hdg : decode cc pc = .ok (.invokestatic index, 3)) (hf : cells ≤ R.cells ∧ slots ≤ R.slots)
    (kk : ∀ (H1 : Heap) (locs1 : List Loc), va_P D vwCl (gS 78 q X u ++ WO) H1 → va_D A (gS 78 q X u ++ WO) → va_S A s.heap H1 locs1 → W p l e R s m args below meth c H1 locs1 cells slots Q (F0 m (pc + 3) ls (.int r :: rest))) : W p l e R s m args below meth c H locs cells slots Q (F0 m pc ls stk) := by
  subst hstk
  obtain ⟨hJ, hA, hdis⟩ := r_split hD
  refine va_calli (va_runS (As := As) (rest := rest) ⟨hx, hb, hml, hown, hts⟩ (hM hJ) cw ⟨gPre_blind, fun U hU hWm => ⟨rfl, by rw [hU]; exact w_first hP, va_K.moved hWm.alike hK⟩⟩ rfl hn hsize rfl (lv_room hW) hdg hf) hS (fun a _ h => hA a h) hA (fun r' u t H1 locs1 ht hvm hw hB hz1 hk1 hS1 => ?_)
  subst hw
  rw [ht] at hB
  exact kk H1 locs1 (hB.app (h_keep (w_last hP) hdis hk1)) (r_D hD) hS1
end WK

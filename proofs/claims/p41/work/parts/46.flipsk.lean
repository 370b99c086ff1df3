/-! ===== flips: the law's own arrays ===== -/
def BX (cy : Nat → ClassId) (r : Nat → Nat) : gX := fun k f => match k with
  | 0 => .inl (cy 6, 3, .inr (.inr (.inr (.inr (fun i => some (r i))))))
  | 1 => .inl (cy 0, 18, .inl f)
  | 2 => .inl (cy 0, 18, .inl f)
  | 3 => .inl (cy 0, 18, .inl f)
  | 4 => .inl (cy 0, 3, .inl f)
  | _ => .inl (cy 1, 3, .inl f)
theorem bx_row (cy : Nat → ClassId) (r : Nat → Nat) {c : Nat} (hc : c < 3) (f : Nat → Int32) : BX cy r (1 + c) f = .inl (cy 0, 18, .inl f) := by
  rcases (show c = 0 ∨ c = 1 ∨ c = 2 by omega) with rfl | rfl | rfl <;> rfl
def qB (q0 a4 a5 : Nat) (r : Nat → Nat) : Nat → Nat
  | 0 => q0
  | 1 => r 0
  | 2 => r 1
  | 3 => r 2
  | 4 => a4
  | _ => a5
theorem qB_r {q0 a4 a5 : Nat} {r : Nat → Nat} {i : Nat} (hi : i < 3) : r i = qB q0 a4 a5 r (1 + i) := by
  rcases (show i = 0 ∨ i = 1 ∨ i = 2 by omega) with rfl | rfl | rfl <;> rfl
theorem lkT_r (i : Nat) {k c : Nat} {ρ : TS} (hk : k < 3) (hc : c < 3) (hck : c ≠ k) {j : Nat} : lkT i k ρ (1 + c) j = ρ (1 + c) j := by
  unfold lkT lk2 lk1
  rw [st2_ne _ _ _ (by omega)]
  split
  · split
    · rw [st2_ne _ _ _ (by omega), st2_ne _ _ _ (by omega)]
    · rfl
  · rfl
section CK3
variable {p : Program} {l : Launch} {e : Env} {R : Room} {s : State} {m : MethodId} {args : Array Value} {below : List Frame} {meth : Method} {c : Code} {H : Heap} {locs : List Loc} {cells slots : Nat} {Q : State → Prop}
variable {cc : ByteArray} {pc : Nat} {ls : Array Slot} {rest : List Value} {D : va_G} {A : Nat → Prop} {a : Nat} {tys : List (ClassId × FieldType)} {ws : va_W} {H0 : Heap}
/-- new int[3][n] -/
theorem n_mna3 (hexec : p.tables.exec = Jvm.exec) (hb : c.code = cc) {own : String} {index : Nat} (hown : s.vm.findClass own = some m.cls) (hclink : (Cond.classLink own index "[[I").before args s = true) (hover : va_AOA .int s) (harr : (Cond.arrayClass .int).before args s = true) (hK : va_K D vwCl tys s) (hP : va_P D vwCl ws H) (hD : va_D A ws) (hS : va_S A H0 H locs) (hA : ∀ q, H0.size ≤ q → A q)
    {k : Int32} {K' : Nat} (t0 t1 : Nat) {c0 c1 : ClassId} (ht0 : tys[t0]? = some (c0, .int)) (ht1 : tys[t1]? = some (c1, .array .int)) (hk : ¬ k < 0) (hM : k.toNatClampNeg = K') (hb2 : K' * 4 ≤ 536870912) (hcells : cells + (1 + 3) ≤ R.cells) (hslots : slots + (3 + 3 * K') ≤ R.slots) (hdg : decode cc pc = .ok (.multianewarray index 2, 4))
    (kk : ∀ (q : Nat) (r : Nat → Nat) (H1 : Heap), va_P D vwCl (ws ++ [(q, .inl (c1, 3, .inr (.inr (.inr (.inr (fun i => some (r i))))))), (r 0, .inl (c0, K', .inl (fun _ => 0))), (r 1, .inl (c0, K', .inl (fun _ => 0))), (r 2, .inl (c0, K', .inl (fun _ => 0)))]) H1 → va_D A (ws ++ [(q, .inl (c1, 3, .inr (.inr (.inr (.inr (fun i => some (r i))))))), (r 0, .inl (c0, K', .inl (fun _ => 0))), (r 1, .inl (c0, K', .inl (fun _ => 0))), (r 2, .inl (c0, K', .inl (fun _ => 0)))]) → va_S A H0 H1 locs →
      W p l e R s m args below meth c H1 locs (cells + 1 + 3) (slots + 3 + 3 * K') Q (F0 m (pc + 4) ls (.ref q :: rest))) : W p l e R s m args below meth c H locs cells slots Q (F0 m pc ls (.int k :: .int 3 :: rest)) := by
  have hz0 : ∀ f : Nat → va_E, ws ++ va_pl [] f = ws := fun f => List.append_nil _
  have hcy : s.vm.findClass (FieldType.array .int).toString = some c0 := (hK.2 t0 _ ht0).2
  refine va_mna (X := ws) (L := []) (f := fun _ => .inr (0, [])) (ty := .int) (z := (K', .inl (fun _ => 0))) (N' := 3) hexec hb hown hclink hover harr hcy hK (by rw [hz0]; exact hP) (by rw [hz0]; exact hD) hS hA (by decide) hk rfl hM (by decide) hb2 (by omega) (by decide) (by decide) hcells hslots (fun c => arrV_new c K' (.int 0)) hdg fun q r cA H1 hinj hnot hK1 hP1 hD1 hS1 => ?_
  have hc := ra_k ht1 hK1
  subst hc
  have e1 : va_pl ([] ++ (List.range 3).map r) (vr_up (fun _ => (.inr (0, []) : va_E)) ((List.range 3).map r) (.inl (c0, (K', .inl (fun _ => 0))))) = [(r 0, .inl (c0, K', .inl (fun _ => 0))), (r 1, .inl (c0, K', .inl (fun _ => 0))), (r 2, .inl (c0, K', .inl (fun _ => 0)))] := by
    have h0 : vr_up (fun _ => (.inr (0, []) : va_E)) [r 0, r 1, r 2] (.inl (c0, (K', .inl (fun _ => 0)))) (r 0) = .inl (c0, (K', .inl (fun _ => 0))) := vr_up_in (by simp)
    have h1 : vr_up (fun _ => (.inr (0, []) : va_E)) [r 0, r 1, r 2] (.inl (c0, (K', .inl (fun _ => 0)))) (r 1) = .inl (c0, (K', .inl (fun _ => 0))) := vr_up_in (by simp)
    have h2 : vr_up (fun _ => (.inr (0, []) : va_E)) [r 0, r 1, r 2] (.inl (c0, (K', .inl (fun _ => 0)))) (r 2) = .inl (c0, (K', .inl (fun _ => 0))) := vr_up_in (by simp)
    show [(r 0, vr_up (fun _ => (.inr (0, []) : va_E)) [r 0, r 1, r 2] (.inl (c0, (K', .inl (fun _ => 0)))) (r 0)), (r 1, vr_up (fun _ => (.inr (0, []) : va_E)) [r 0, r 1, r 2] (.inl (c0, (K', .inl (fun _ => 0)))) (r 1)), (r 2, vr_up (fun _ => (.inr (0, []) : va_E)) [r 0, r 1, r 2] (.inl (c0, (K', .inl (fun _ => 0)))) (r 2))] = _
    rw [h0, h1, h2]
  rw [e1, List.append_assoc] at hP1 hD1
  refine kk q r H1 (fun i x hx => ?_) ?_ hS1
  · by_cases hi : i = ws.length
    · subst hi
      rw [List.getElem?_append_right (Nat.le_refl _), Nat.sub_self] at hx
      have h1 := hP1 ws.length _ (by rw [List.getElem?_append_right (Nat.le_refl _), Nat.sub_self]; rfl)
      cases hx
      show H1[q]? = some (vp_cell _ _)
      rw [cell_q (g := fun i => if i < 3 then some (r i) else none) _ (fun j hj => (if_pos hj).symm)]
      exact h1
    · refine hP1 i x ?_
      by_cases hl : i < ws.length
      · rw [List.getElem?_append_left hl] at hx ⊢
        exact hx
      · rw [List.getElem?_append_right (by omega)] at hx ⊢
        obtain ⟨j, hj⟩ : ∃ j, i - ws.length = j + 1 := ⟨i - ws.length - 1, by omega⟩
        rw [hj] at hx ⊢
        exact hx
  · have hmap : ∀ (i : Nat) (x : Nat × va_E), (ws ++ [(q, (.inl (cA, 3, .inr (.inr (.inr (.inr (fun i => some (r i)))))) : va_E)), (r 0, .inl (c0, K', .inl (fun _ => 0))), (r 1, .inl (c0, K', .inl (fun _ => 0))), (r 2, .inl (c0, K', .inl (fun _ => 0)))])[i]? = some x → ∃ e', (ws ++ ([(q, (.inl (cA, 3, .inr (.inr (.inr (.inr (fun i => if i < 3 then some (r i) else none))))) : va_E))] ++ [(r 0, .inl (c0, K', .inl (fun _ => 0))), (r 1, .inl (c0, K', .inl (fun _ => 0))), (r 2, .inl (c0, K', .inl (fun _ => 0)))]))[i]? = some (x.1, e') := by
      intro i x hx
      by_cases hl : i < ws.length
      · rw [List.getElem?_append_left hl] at hx ⊢
        exact ⟨x.2, hx⟩
      · rw [List.getElem?_append_right (by omega)] at hx ⊢
        have h3 : i - ws.length < 4 := (List.getElem?_eq_some_iff.mp hx).1
        rcases (show i - ws.length = 0 ∨ i - ws.length = 1 ∨ i - ws.length = 2 ∨ i - ws.length = 3 by omega) with h | h | h | h <;> rw [h] at hx ⊢ <;> cases hx <;> exact ⟨_, rfl⟩
    refine ⟨fun i j x y hi hj hxy => ?_, fun i x hx => ?_⟩
    · obtain ⟨e2, h2⟩ := hmap i x hi
      obtain ⟨e3, h3⟩ := hmap j y hj
      exact hD1.1 i j _ _ h2 h3 hxy
    · obtain ⟨e2, h2⟩ := hmap i x hx
      exact hD1.2 i (x.1, e2) h2
end CK3

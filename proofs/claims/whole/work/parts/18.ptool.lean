/-! ===== tools: what a call refuses, what a call leaves of the relation ===== -/
theorem o_x_l (r : Int32) (σ : TS) (f : Int32 → TS → Option XR) : o_x (Sum.inl r, σ) f = f r σ := rfl
theorem o_x_r (k : Nat) (σ : TS) (f : Int32 → TS → Option XR) : o_x (Sum.inr k, σ) f = some (.inr k, σ) := rfl
theorem zok0 : zok 0 = true := rfl
theorem zok1 : zok 1 = true := rfl
theorem e10 : ((1 : Int32) = 0) = False := by decide
theorem e20 : ((2 : Int32) = 0) = False := by decide
theorem e30 : ((3 : Int32) = 0) = False := by decide
theorem em1 : ((-1 : Int32) = 0) = False := by decide
theorem l00 : ((0 : Int32) ≤ 0) = True := by decide
theorem l10 : ((1 : Int32) ≤ 0) = False := by decide
theorem l20 : ((2 : Int32) ≤ 0) = False := by decide
theorem l30 : ((3 : Int32) ≤ 0) = False := by decide
theorem in_lo {x a b : Int32} (h : x < a) (μ : TS) : sX9_in x a b μ = some (0, μ) := by
  unfold sX9_in sX9_in_0
  rw [if_pos h]
  rfl
theorem in_hi {x a b : Int32} (h : b < x) (μ : TS) : sX9_in x a b μ = some (0, μ) := by
  unfold sX9_in sX9_in_0
  by_cases h1 : x < a
  · rw [if_pos h1]
    rfl
  · rw [if_neg h1, if_pos h]
    rfl
theorem in_ok {x a b : Int32} (h1 : ¬ x < a) (h2 : ¬ b < x) (μ : TS) : sX9_in x a b μ = some (1, μ) := by
  unfold sX9_in sX9_in_0
  rw [if_neg h1, if_neg h2]
  rfl
theorem wi_lo {x a b : Int32} (h : x < a) (μ : TS) : sX5_isWithin x a b μ = some (0, μ) := by
  unfold sX5_isWithin sX5_isWithin_0
  rw [if_pos h]
  rfl
theorem wi_hi {x a b : Int32} (h : b < x) (μ : TS) : sX5_isWithin x a b μ = some (0, μ) := by
  unfold sX5_isWithin sX5_isWithin_0
  by_cases h1 : x < a
  · rw [if_pos h1]
    rfl
  · rw [if_neg h1, if_pos h]
    rfl
theorem wi_ok {x a b : Int32} (h1 : ¬ x < a) (h2 : ¬ b < x) (μ : TS) : sX5_isWithin x a b μ = some (1, μ) := by
  unfold sX5_isWithin sX5_isWithin_0
  rw [if_neg h1, if_neg h2]
  rfl
/-- within bounds or not, for both -/
theorem iw (x a b : Int32) {A B : Int} (hA : a.toInt = A) (hB : b.toInt = B) : ((∀ σ, sX5_isWithin x a b σ = some (0, σ)) ∧ (∀ μ, sX9_in x a b μ = some (0, μ))) ∨ (A ≤ x.toInt ∧ x.toInt ≤ B ∧ (∀ σ, sX5_isWithin x a b σ = some (1, σ)) ∧ (∀ μ, sX9_in x a b μ = some (1, μ))) := by
  subst hA
  subst hB
  by_cases h1 : x < a
  · exact Or.inl ⟨wi_lo h1, in_lo h1⟩
  · by_cases h2 : b < x
    · exact Or.inl ⟨wi_hi h2, in_hi h2⟩
    · have g1 := h1
      have g2 := h2
      rw [lt_iff] at g1 g2
      exact Or.inr ⟨by omega, by omega, wi_ok h1 h2, in_ok h1 h2⟩
/-- an index in range, or refused by both -/
theorem ixG (x : Int32) {n : Nat} (hn : n < 2 ^ 31) (h0 : 0 < n) : ((∀ σ, sX8_requireIndex x (nI n) σ = some (.inr 1, σ)) ∧ (∀ μ, sX9_in x 0 (nI (n - 1)) μ = some (0, μ))) ∨ ∃ j, j < n ∧ x = nI j ∧ (∀ σ, sX8_requireIndex (nI j) (nI n) σ = some (.inl 0, σ)) ∧ (∀ μ, sX9_in (nI j) 0 (nI (n - 1)) μ = some (1, μ)) := by
  rcases pk_ix x hn with h | h | ⟨j, hj, rfl⟩
  · refine Or.inl ⟨fun σ => ?_, in_lo h⟩
    unfold sX8_requireIndex sX8_requireIndex_0
    rw [if_pos h]
    rfl
  · have h1 : (n : Int) ≤ x.toInt := by
      rw [le_iff, nI_toInt hn] at h
      exact h
    refine Or.inl ⟨fun σ => ?_, in_hi (by rw [lt_iff, nI_toInt (by omega)]; omega)⟩
    unfold sX8_requireIndex sX8_requireIndex_0
    have h2 : ¬ x < nI n := by
      rw [lt_iff, nI_toInt hn]
      omega
    rw [if_neg h2, ite_self]
    rfl
  · refine Or.inr ⟨j, hj, rfl, fun σ => ?_, in_ok (nI_pos (by omega)) (by rw [nI_ltI (by omega) (by omega)]; omega)⟩
    unfold sX8_requireIndex sX8_requireIndex_0
    rw [if_neg (nI_pos (by omega)), if_pos (nI_lt hj hn)]
theorem ix2 (x : Int32) : ((∀ σ, sX8_requireIndex x 2 σ = some (.inr 1, σ)) ∧ (∀ μ, sX9_in x 0 1 μ = some (0, μ))) ∨ ∃ j, j < 2 ∧ x = nI j ∧ (∀ σ, sX8_requireIndex (nI j) 2 σ = some (.inl 0, σ)) ∧ (∀ μ, sX9_in (nI j) 0 1 μ = some (1, μ)) := ixG x (n := 2) (by decide) (by decide)
theorem ix6 (x : Int32) : ((∀ σ, sX8_requireIndex x 6 σ = some (.inr 1, σ)) ∧ (∀ μ, sX9_in x 0 5 μ = some (0, μ))) ∨ ∃ j, j < 6 ∧ x = nI j ∧ (∀ σ, sX8_requireIndex (nI j) 6 σ = some (.inl 0, σ)) ∧ (∀ μ, sX9_in (nI j) 0 5 μ = some (1, μ)) := ixG x (n := 6) (by decide) (by decide)
theorem ix16 (x : Int32) : ((∀ σ, sX8_requireIndex x 16 σ = some (.inr 1, σ)) ∧ (∀ μ, sX9_in x 0 15 μ = some (0, μ))) ∨ ∃ j, j < 16 ∧ x = nI j ∧ (∀ σ, sX8_requireIndex (nI j) 16 σ = some (.inl 0, σ)) ∧ (∀ μ, sX9_in (nI j) 0 15 μ = some (1, μ)) := ixG x (n := 16) (by decide) (by decide)
theorem isT_of {x r : Int32} (h : ∀ μ, sX9_in x 0 2 μ = some (r, μ)) (hr : zok r = true) (μ : TS) : sX9_isThree x μ = some (r, μ) := by
  unfold sX9_isThree sX9_isThree_0 sX9_isThree_6
  rw [h, Option.bind_some, if_pos hr]
theorem isF_of {x r : Int32} (h : ∀ μ, sX9_in x 0 3 μ = some (r, μ)) (hr : zok r = true) (μ : TS) : sX9_isFour x μ = some (r, μ) := by
  unfold sX9_isFour sX9_isFour_0 sX9_isFour_6
  rw [h, Option.bind_some, if_pos hr]
theorem ix3 (x : Int32) : ((∀ σ, sX8_requireIndex x 3 σ = some (.inr 1, σ)) ∧ (∀ μ, sX9_isThree x μ = some (0, μ))) ∨ ∃ j, j < 3 ∧ x = nI j ∧ (∀ σ, sX8_requireIndex (nI j) 3 σ = some (.inl 0, σ)) ∧ (∀ μ, sX9_isThree (nI j) μ = some (1, μ)) := by
  rcases (ixG x (n := 3) (by decide) (by decide)) with ⟨h1, h2⟩ | ⟨j, hj, h0, h1, h2⟩
  · exact Or.inl ⟨h1, isT_of h2 rfl⟩
  · exact Or.inr ⟨j, hj, h0, h1, isT_of h2 rfl⟩
theorem ix4 (x : Int32) : ((∀ σ, sX8_requireIndex x 4 σ = some (.inr 1, σ)) ∧ (∀ μ, sX9_isFour x μ = some (0, μ))) ∨ ∃ j, j < 4 ∧ x = nI j ∧ (∀ σ, sX8_requireIndex (nI j) 4 σ = some (.inl 0, σ)) ∧ (∀ μ, sX9_isFour (nI j) μ = some (1, μ)) := by
  rcases (ixG x (n := 4) (by decide) (by decide)) with ⟨h1, h2⟩ | ⟨j, hj, h0, h1, h2⟩
  · exact Or.inl ⟨h1, isF_of h2 rfl⟩
  · exact Or.inr ⟨j, hj, h0, h1, isF_of h2 rfl⟩
theorem isOut0 (μ : TS) : sX9_isOut 0 μ = some (1, st2 μ 0 0 1) := by
  simp only [sX9_isOut, sX9_isOut_0, sX9_isOut_10, sX9_isOut_25, st2_eq, l10, zok1, eq_self, if_true, if_false]
theorem isOut1 (μ : TS) : sX9_isOut 1 μ = some (0, st2 μ 0 0 0) := by
  simp only [sX9_isOut, sX9_isOut_0, sX9_isOut_10, sX9_isOut_25, st2_eq, e10, l00, zok0, eq_self, if_true, if_false]
theorem rf0 (σ : TS) : sX8_requireFit 0 σ = some (.inr 2, σ) := rfl
theorem rf1 (σ : TS) : sX8_requireFit 1 σ = some (.inl 0, σ) := rfl
theorem rs0 (σ : TS) : sX8_requireState 0 σ = some (.inr 4, σ) := rfl
theorem rs1 (σ : TS) : sX8_requireState 1 σ = some (.inl 0, σ) := rfl
theorem isN_of {x r : Int32} (h : ∀ σ, sX5_isWithin x (-32768) 32767 σ = some (r, σ)) (hr : zok r = true) (σ : TS) : sX5_isNumber x σ = some (r, σ) := by
  unfold sX5_isNumber sX5_isNumber_0 sX5_isNumber_10
  rw [h, Option.bind_some, if_pos hr]
theorem isM_of {x r : Int32} (h : ∀ μ, sX9_in x (-32768) 32767 μ = some (r, μ)) (hr : zok r = true) (μ : TS) : sX9_isNumber x μ = some (r, μ) := by
  unfold sX9_isNumber sX9_isNumber_0 sX9_isNumber_10
  rw [h, Option.bind_some, if_pos hr]
/-- a number, or not, for both -/
theorem isNum (x : Int32) : ((∀ σ, sX5_isNumber x σ = some (0, σ)) ∧ (∀ μ, sX9_isNumber x μ = some (0, μ))) ∨ (-32768 ≤ x.toInt ∧ x.toInt ≤ 32767 ∧ (∀ σ, sX5_isNumber x σ = some (1, σ)) ∧ (∀ μ, sX9_isNumber x μ = some (1, μ))) := by
  rcases iw x (-32768) 32767 (A := -32768) (B := 32767) (by decide) (by decide) with ⟨h1, h2⟩ | ⟨h0, h00, h1, h2⟩
  · exact Or.inl ⟨isN_of h1 rfl, isM_of h2 rfl⟩
  · exact Or.inr ⟨h0, h00, isN_of h1 rfl, isM_of h2 rfl⟩
/-! what the relation keeps -/
theorem onM00 : onM 0 0 = false := by decide +kernel
theorem rel_thr {j : Nat} {σ μ : TS} (h : Rel j σ μ) (x : Int32) : Rel (j + 1) σ (st2 μ 0 0 x) := by
  obtain ⟨h1, h2, h3, h4, h5, h6⟩ := rel_skip _ _ _ h
  exact ⟨rE_M h1 onM00 x, iB_up h2 (i32_any x), h3, h4, h5, h6⟩
theorem rel_thr2 {j : Nat} {σ μ : TS} (h : Rel j σ μ) (x y : Int32) : Rel (j + 1) σ (st2 (st2 μ 0 0 x) 0 0 y) := by
  rw [st2_twice]
  exact rel_thr h y
/-- nodes of the reference that only the table speaks of -/
def freeM (k : Nat) : Bool := [2, 4, 5, 8, 9, 14, 15, 16, 18, 19, 20, 21, 24, 26, 27, 28, 29, 31, 33, 34, 35, 36].contains k
/-- cells of the class that the ties beside the table, and the two flags, speak of -/
def tieT (k j : Nat) : Prop := (66 ≤ k ∧ k ≤ 69 ∧ j = 0) ∨ (k = 0 ∧ 12 ≤ j) ∨ ((k = 15 ∨ k = 21 ∨ k = 27) ∧ j = 7) ∨ (53 ≤ k ∧ k ≤ 54) ∨ (58 ≤ k ∧ k ≤ 59) ∨ (63 ≤ k ∧ k ≤ 64)
theorem iT_T {σ μ : TS} (h : InvT σ μ) {k j : Nat} (v : Int32) (hk : ¬ tieT k j) : InvT (st2 σ k j v) μ := by
  unfold tieT at hk
  obtain ⟨h1, h2, h3, h4⟩ := h
  refine ⟨fun s hs => ?_, ?_, fun c hc h10 => ?_, fun p hp i hi h32 w hw => ?_⟩
  · rw [st2_off _ _ (by omega)]
    exact h1 s hs
  · rw [st2_off _ _ (by omega)]
    exact h2
  · rw [st2_off _ _ (by omega)]
    exact h3 c hc h10
  · rw [st2_off _ _ (by omega)]
    exact h4 p hp i hi h32 w hw
theorem iF_T {σ μ : TS} (h : InvF σ μ) {k j : Nat} (v : Int32) (hk : ¬ tieT k j) : InvF (st2 σ k j v) μ := by
  unfold tieT at hk
  unfold InvF
  rw [st2_off _ _ (by omega), st2_off _ _ (by omega)]
  exact h
theorem free_ne {k : Nat} (h : freeM k = true) : k ≠ 0 ∧ k ≠ 1 ∧ k ≠ 3 ∧ k ≠ 6 ∧ k ≠ 7 ∧ k ≠ 10 ∧ k ≠ 11 ∧ k ≠ 12 ∧ k ≠ 13 ∧ k ≠ 17 ∧ k ≠ 22 ∧ k ≠ 23 ∧ k ≠ 25 ∧ k ≠ 30 ∧ k ≠ 32 ∧ k ≠ 37 ∧ k ≠ 38 := by
  refine ⟨?_, ?_, ?_, ?_, ?_, ?_, ?_, ?_, ?_, ?_, ?_, ?_, ?_, ?_, ?_, ?_, ?_⟩ <;> (rintro rfl; revert h; decide)
theorem rel_M {n : Nat} {σ μ : TS} (h3 : InvM n μ) (h4 : InvT σ μ) (h5 : InvF σ μ) (h6 : InvL μ) {k : Nat} (hk : freeM k = true) (j : Nat) (v : Int32) : InvM n (st2 μ k j v) ∧ InvT σ (st2 μ k j v) ∧ InvF σ (st2 μ k j v) ∧ InvL (st2 μ k j v) := by
  obtain ⟨k0, k1, k3, k6, k7, k10, k11, k12, k13, k17, k22, k23, k25, k30, k32, k37, k38⟩ := free_ne hk
  have e0 : st2 μ k j v 0 = μ 0 := st2_ne _ _ _ (Ne.symm k0)
  have e1 : st2 μ k j v 1 = μ 1 := st2_ne _ _ _ (Ne.symm k1)
  have e3 : st2 μ k j v 3 = μ 3 := st2_ne _ _ _ (Ne.symm k3)
  have e6 : st2 μ k j v 6 = μ 6 := st2_ne _ _ _ (Ne.symm k6)
  have e7 : st2 μ k j v 7 = μ 7 := st2_ne _ _ _ (Ne.symm k7)
  have e10 : st2 μ k j v 10 = μ 10 := st2_ne _ _ _ (Ne.symm k10)
  have e11 : st2 μ k j v 11 = μ 11 := st2_ne _ _ _ (Ne.symm k11)
  have e12 : st2 μ k j v 12 = μ 12 := st2_ne _ _ _ (Ne.symm k12)
  have e13 : st2 μ k j v 13 = μ 13 := st2_ne _ _ _ (Ne.symm k13)
  have e17 : st2 μ k j v 17 = μ 17 := st2_ne _ _ _ (Ne.symm k17)
  have e22 : st2 μ k j v 22 = μ 22 := st2_ne _ _ _ (Ne.symm k22)
  have e23 : st2 μ k j v 23 = μ 23 := st2_ne _ _ _ (Ne.symm k23)
  have e25 : st2 μ k j v 25 = μ 25 := st2_ne _ _ _ (Ne.symm k25)
  have e30 : st2 μ k j v 30 = μ 30 := st2_ne _ _ _ (Ne.symm k30)
  have e32 : st2 μ k j v 32 = μ 32 := st2_ne _ _ _ (Ne.symm k32)
  have e37 : st2 μ k j v 37 = μ 37 := st2_ne _ _ _ (Ne.symm k37)
  have e38 : st2 μ k j v 38 = μ 38 := st2_ne _ _ _ (Ne.symm k38)
  refine ⟨?_, ?_, ?_, ?_⟩
  · unfold InvM
    rw [e0, e1, e3, e7, e10, e11, e12, e13, e17]
    exact h3
  · unfold InvT
    rw [e0, e10, e11, e25, e30, e32]
    exact h4
  · unfold InvF
    rw [e6, e7, e10, e12, e17, e22, e23]
    exact h5
  · unfold InvL
    rw [e0, e10, e37, e38]
    exact h6
/-- a pair of cells that the table ties, and nothing else speaks of -/
theorem rel_up {n : Nat} {σ μ : TS} (h : Rel n σ μ) {k j k' j' t : Nat} {v v' : Int32} (he : (k, j, k', j', t) ∈ tabL) (hv : v = tr t v') (hb : (bd k').1 ≤ v'.toInt ∧ v'.toInt ≤ (bd k').2) (hT : ¬ tieT k j) (hM : freeM k' = true) : Rel n (st2 σ k j v) (st2 μ k' j' v') := by
  obtain ⟨h1, h2, h3, h4, h5, h6⟩ := h
  obtain ⟨g3, g4, g5, g6⟩ := rel_M h3 h4 h5 h6 hM j' v'
  exact ⟨rE_up h1 he hv, iB_up h2 hb, g3, iT_T g4 v hT, iF_T g5 v hT, g6⟩

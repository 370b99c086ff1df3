/-! ===== all four do one instruction: the class has the plain one last, the reference first ===== -/
def allS : Nat → Bool := fun _ => true
def nP : Nat → Bool := fun l => !(decide (l = 3) || decide (l = 5))
def oP : Nat → Bool := fun l => decide (l = 3) || decide (l = 5)
theorem tab_o3 : ∀ e ∈ tabL, (((e.2.2.1 = 9 ∨ e.2.2.1 = 16 ∨ e.2.2.1 = 20 ∨ e.2.2.1 = 21) ∧ e.2.2.2.1 = 3) ∨ ((e.2.2.1 = 6 ∨ e.2.2.1 = 7) ∧ 18 * 3 ≤ e.2.2.2.1 ∧ e.2.2.2.1 < 18 * 3 + 18) ∨ (e.2.2.1 = 8 ∧ 4 * 3 ≤ e.2.2.2.1 ∧ e.2.2.2.1 < 4 * 3 + 4)) → lab e = 3 := by decide +kernel
theorem tab_23 : ∀ e ∈ tabL, e.2.2.1 = 23 → lab e = 5 := by decide +kernel
theorem tab_l3 : ∀ e ∈ tabL, lab e = 3 → (((e.2.2.1 = 9 ∨ e.2.2.1 = 16 ∨ e.2.2.1 = 20 ∨ e.2.2.1 = 21) ∧ e.2.2.2.1 = 3) ∨ ((e.2.2.1 = 6 ∨ e.2.2.1 = 7) ∧ 18 * 3 ≤ e.2.2.2.1 ∧ e.2.2.2.1 < 18 * 3 + 18) ∨ (e.2.2.1 = 8 ∧ 4 * 3 ≤ e.2.2.2.1 ∧ e.2.2.2.1 < 4 * 3 + 4)) ∨ (e.2.2.1 = 17 ∧ e.2.2.2.1 = 3) ∨ (e.2.2.1 = 10 ∧ e.2.2.2.1 = 3) := by decide +kernel
theorem tab_l5 : ∀ e ∈ tabL, lab e = 5 → e.2.2.1 = 23 := by decide +kernel
theorem tab_t3 : ∀ e ∈ tabL, lab e = 3 → 33 ≤ e.1 ∧ e.1 ≤ 38 := by decide +kernel
theorem tab_t5 : ∀ e ∈ tabL, lab e = 5 → e.1 = 10 := by decide +kernel
theorem tab_tn : ∀ e ∈ tabL, lab e ≠ 3 → lab e ≠ 5 → e.1 < 33 ∨ 38 < e.1 := by decide +kernel
theorem tab_tm : ∀ e ∈ tabL, lab e ≠ 5 → e.1 ≠ 10 := by decide +kernel
/-- the plain one's gift, handed on -/
def hM (μ : TS) : TS := if μ 20 3 = 0 then μ else st2 μ 23 ((μ 20 3 - 1).toNatClampNeg) (μ 21 3)
theorem m_32 {μ : TS} (hB : InvB μ) (K20 : Int32 → Int32 → TS → Option (Int32 × TS)) (x1 x2 : Int32) : sX9_run_32 K20 x1 x2 μ = sX9_run_60 K20 x1 x2 (hM μ) := by
  obtain ⟨g, hg, he⟩ := b_nI hB 20 3 (n := 4) rfl
  unfold sX9_run_32 hM
  rw [he]
  by_cases hg0 : g = 0
  · subst hg0
    rw [if_pos (show nI 0 ≤ 0 by decide), if_pos (show nI 0 = 0 from rfl)]
  · obtain ⟨g', rfl⟩ : ∃ g', g = g' + 1 := ⟨g - 1, by omega⟩
    rw [if_neg (nI_nle (by omega) (by omega)), if_neg (nI_ne0 (by omega) (by omega)), nI_pred, if_pos (vin_nI (show g' < 4 by omega) (by decide))]
theorem hM_fr (μ : TS) {k : Nat} (h : k ≠ 23) : hM μ k = μ k := by
  unfold hM
  split
  · rfl
  · rw [st2_ne _ _ _ h]
theorem hM_g {μ : TS} (hB : InvB μ) (h0 : ¬ μ 20 3 = 0) : ∃ g, g < 4 ∧ (μ 20 3 - 1).toNatClampNeg = g ∧ μ 20 3 - 1 = nI g := by
  obtain ⟨g, hg, he⟩ := b_nI hB 20 3 (n := 4) rfl
  obtain ⟨g', rfl⟩ : ∃ g', g = g' + 1 := ⟨g - 1, by
    have : g ≠ 0 := fun h => h0 (by rw [he, h]; rfl)
    omega⟩
  refine ⟨g', by omega, ?_, ?_⟩
  · rw [he, nI_pred, nI_clamp (by omega)]
  · rw [he, nI_pred]
theorem iB_hM {μ : TS} (hB : InvB μ) : InvB (hM μ) := by
  unfold hM
  split
  · exact hB
  · exact iB_up (k := 23) hB (hB 21 3)
/-- class: the plain one hands its number on -/
theorem t_hand {S : Nat → Bool} {σ μ : TS} (hR : RS S σ μ) (hS3 : S 3 = true) (hB : InvB μ) (hg : GC 3 σ μ) : ∃ u, sX1_handTo 3 1 σ = some (0, u) ∧ RS S u (hM μ) ∧ (∀ k, k ≠ 10 → u k = σ k) := by
  have h13 : σ (15 + 6 * 3) 13 = μ 21 3 := rS_c hR hS3 (tm_val 3 (by decide)) (by decide) (by omega)
  unfold GC at hg
  unfold sX1_handTo sX1_handTo_0 sX1_handTo_18 hM
  rw [hg, h13]
  by_cases h0 : μ 20 3 = 0
  · rw [if_pos (show μ 20 3 - 1 = -1 by rw [h0]; rfl), if_pos h0]
    exact ⟨σ, rfl, hR, fun _ _ => rfl⟩
  · obtain ⟨g, hg4, e1, e2⟩ := hM_g hB h0
    rw [if_neg (by rw [e2]; exact nI_ne_m1 (by omega)), if_neg h0, e1, e2, if_pos (vin_nI hg4 (by decide))]
    exact ⟨_, rfl, rS_up hR (tm_plain g hg4) rfl, fun k hk => st2_ne _ _ _ hk⟩
/-- the three, one behind the other -/
theorem three {S : Nat → Bool} {n N : Nat} {σ μ : TS} {p : Nat} (h : RI S n N σ μ) (hsk : SK μ) (hS : ∀ c, c < 3 → S c = true) (hS4 : S 4 = true) (hS6 : S 6 = true) (hp : p < 3) :
    ∃ u v0 v1 v, sX8_doInstructions p (nI p) σ = sX8_doInstructions_2 1 p (nI p) (nI 3) u ∧ sX9_does (nI 0) (nI p) μ = some (0, v0) ∧ sX9_does (nI 1) (nI p) v0 = some (0, v1) ∧ sX9_does (nI 2) (nI p) v1 = some (0, v) ∧ RI S n N u v ∧ SK v ∧ (∀ c, c < 3 → v 10 c = 0 → GC c u v) ∧ (∀ k, k < 11 ∨ 33 ≤ k → u k = σ k) ∧ (∀ k j, ownM 3 k j → v k j = μ k j) ∧ v 23 = μ 23 := by
  obtain ⟨u0, v0, a0, b0, r0, s0, g0, p0, f0, d0, o0, -, e0⟩ := one_c h hsk (hS 0 (by decide)) hS4 hS6 (show 0 < 3 by decide) hp 3
  obtain ⟨u1, v1, a1, b1, r1, s1, g1, p1, f1, d1, o1, -, e1⟩ := one_c r0 s0 (hS 1 (by decide)) hS4 hS6 (show 1 < 3 by decide) hp 2
  obtain ⟨u2, v2, a2, b2, r2, s2, g2, p2, f2, d2, o2, -, e2⟩ := one_c r1 s1 (hS 2 (by decide)) hS4 hS6 (show 2 < 3 by decide) hp 1
  have hd : sX8_doInstructions p (nI p) σ = sX8_doInstructions_2 4 p (nI p) (nI 0) σ := rfl
  refine ⟨u2, v0, v1, v2, by rw [hd, a0, a1, a2], b0, b1, b2, r2, s2, fun c hc hv => ?_, fun k hk => by rw [f2 k hk, f1 k hk, f0 k hk], fun k j hk => by rw [o2 k j hk, o1 k j hk, o0 k j hk], by rw [e2, e1, e0]⟩
  rcases (show c = 0 ∨ c = 1 ∨ c = 2 by omega) with rfl | rfl | rfl
  · rw [d2 0 (by decide), d1 0 (by decide)] at hv
    exact p2 0 (by decide) (by decide) (p1 0 (by decide) (by decide) (g0 hv))
  · rw [d2 1 (by decide)] at hv
    exact p2 1 (by decide) (by decide) (g1 hv)
  · exact g2 hv
theorem doAll {n N : Nat} {σ μ : TS} {p : Nat} (h : RI allS n N σ μ) (hsk : SK μ) (hp : p < 3) :
    ∃ u m1 v0 v1 v, sX8_doInstructions p (nI p) σ = some (0, u) ∧ sX9_does (nI 3) (nI p) μ = some (0, m1) ∧ InvB m1 ∧ sX9_does (nI 0) (nI p) (hM m1) = some (0, v0) ∧ sX9_does (nI 1) (nI p) v0 = some (0, v1) ∧ sX9_does (nI 2) (nI p) v1 = some (0, v) ∧ RI allS n N u v ∧ SK v ∧ (∀ c, c < 3 → v 10 c = 0 → GC c u v) ∧ u 0 = σ 0 ∧ (∀ k j, ¬ ownM 3 k j → k ≠ 23 → hM m1 k j = μ k j) ∧ IC n N (hM m1) := by
  obtain ⟨hR, hI, hT⟩ := h
  have hB := ic_B hI
  have hP := ic_P hI
  have hz : ∀ j, j < 18 → cntb (μ 7 (18 * 3 + j)) ≤ 1 := fun j hj => by
    rw [hP.2.2 _ (by omega), cnt_z]
    decide
  rcases next_c hR hB (ic_V hI) hP.2.1 rfl rfl (show 3 < 4 by decide) hp hP.1 with hgood | ⟨⟨i, hi, hk⟩, -, -⟩
  case inr => exact absurd (hz i hi) hk
  obtain ⟨-, m1, -, b1, -, B1, -, -, -, M1, O1, Z1⟩ := hgood
  have hM7 : ∀ i, 54 ≤ i → hM m1 7 i = 0 := fun i hi => by
    rw [hM_fr m1 (by decide)]
    exact Z1 i (hP.2.2 i hi)
  have hMk : ∀ k, k ≠ 6 ∧ k ≠ 7 ∧ k ≠ 8 ∧ k ≠ 9 ∧ k ≠ 16 ∧ k ≠ 20 ∧ k ≠ 21 ∧ k ≠ 23 → hM m1 k = μ k := fun k hk => by
    rw [hM_fr m1 (by omega), M1 k (by omega)]
  have hMo : ∀ k j, ¬ ownM 3 k j → k ≠ 23 → hM m1 k j = μ k j := fun k j hk h23 => by
    rw [hM_fr m1 h23, O1 k j hk]
  have hI1 : IC n N (hM m1) := ic_same hI (hMk 0 (by decide)) (hMk 1 (by decide)) (hMk 3 (by decide)) (hMk 10 (by decide)) (hMk 11 (by decide)) (hMk 13 (by decide)) (hMk 17 (by decide)) (hMk 37 (by decide)) (hMk 38 (by decide)) hM7 (iB_hM B1)
  have hR1 : RS nP σ (hM m1) := by
    intro e he hS
    have h3 : lab e ≠ 3 := fun h => by rw [h] at hS; exact absurd hS (by decide)
    have h5 : lab e ≠ 5 := fun h => by rw [h] at hS; exact absurd hS (by decide)
    rw [hMo _ _ (fun h => h3 (tab_o3 e he h)) (fun h => h5 (tab_23 e he h))]
    exact hR e he rfl
  have hT1 : InvT σ (hM m1) := it_same hT (fun _ _ _ => rfl) (hMk 0 (by decide)) (hMk 10 (by decide)) (hMk 11 (by decide)) (hMk 25 (by decide)) (hMk 30 (by decide)) (hMk 32 (by decide))
  have hsk1 : SK (hM m1) := by
    unfold SK
    rw [hMk 10 (by decide), hMk 12 (by decide)]
    exact hsk
  obtain ⟨u3, v0, v1, v, a3, c0, c1, c2, ⟨R3, I3, T3⟩, s3, g3, f3, o3, e3⟩ := three ⟨hR1, hI1, hT1⟩ hsk1 (fun c hc => by rcases (show c = 0 ∨ c = 1 ∨ c = 2 by omega) with rfl | rfl | rfl <;> rfl) rfl rfl hp
  -- the plain one, in the class
  have hRp : RS (fun l => decide (l = 3) || decide (l = 4)) u3 μ := by
    intro e he hS
    have h33 : 33 ≤ e.1 := by
      rcases (show lab e = 3 ∨ lab e = 4 by simpa using hS) with h | h
      · exact (tab_t3 e he h).1
      · unfold lab at h
        split at h
        · omega
        · split at h
          · omega
          · split at h
            · omega
            · omega
    rw [f3 e.1 (by omega)]
    exact hR e he rfl
  rcases next_c hRp hB (ic_V hI) hP.2.1 rfl rfl (show 3 < 4 by decide) hp hP.1 with hgood2 | ⟨⟨i, hi, hk⟩, -, -⟩
  case inr => exact absurd (hz i hi) hk
  obtain ⟨u4, m1', e4, b1', R4, -, G4, F4, -, -, -, -⟩ := hgood2
  have hmm : m1' = m1 := congrArg Prod.snd (Option.some.inj (b1'.symm.trans b1))
  subst hmm
  have hR5 : RS oP u4 m1' := by
    intro e he hS
    rcases (show lab e = 3 ∨ lab e = 5 by simpa [oP] using hS) with h | h
    · exact R4 e he (by rw [h]; rfl)
    · have h10 := tab_t5 e he h
      have h23 := tab_l5 e he h
      rw [F4 e.1 (by omega), f3 e.1 (by omega), h23, M1 23 (by decide), ← h23]
      exact hR e he rfl
  obtain ⟨u5, a5, R5, F5⟩ := t_hand hR5 rfl B1 G4
  have hfin : sX8_doInstructions_2 1 p (nI p) (nI 3) u3 = some (0, u5) := by
    have hd : sX8_doInstructions_2 1 p (nI p) (nI 3) u3 = ((sX1_doNext 3 p (6 * nI p) u3).bind (fun z => sX8_doInstructions_69 z.1 z.2)) := if_pos (show (3 : Int32) ≤ nI 3 by decide)
    rw [hd, m6_nI, e4, Option.bind_some]
    unfold sX8_doInstructions_69
    rw [a5, Option.bind_some]
    rfl
  have hu5 : ∀ k, k ≠ 10 ∧ (k < 33 ∨ 38 < k) → u5 k = u3 k := fun k hk => by
    rw [F5 k hk.1, F4 k (by omega)]
  refine ⟨u5, m1', v0, v1, v, a3.trans hfin, b1, B1, c0, c1, c2, ⟨?_, I3, ?_⟩, s3, fun c hc hv => ?_, ?_, hMo, hI1⟩
  · intro e he _
    by_cases h3 : lab e = 3
    · have hv : v e.2.2.1 e.2.2.2.1 = hM m1' e.2.2.1 e.2.2.2.1 := by
        rcases tab_l3 e he h3 with h | ⟨h1, h2⟩ | ⟨h1, h2⟩
        · exact o3 _ _ h
        · rw [h1, h2, (ic_P I3).2.1, (ic_P hI1).2.1]
        · rw [h1, h2, (ic_P I3).1, (ic_P hI1).1]
      rw [hv]
      exact R5 e he (by rw [h3]; rfl)
    · by_cases h5 : lab e = 5
      · have h23 := tab_l5 e he h5
        have hv : v e.2.2.1 e.2.2.2.1 = hM m1' e.2.2.1 e.2.2.2.1 := by rw [h23, e3]
        rw [hv]
        exact R5 e he (by rw [h5]; rfl)
      · rw [hu5 e.1 ⟨tab_tm e he h5, tab_tn e he h3 h5⟩]
        exact R3 e he (by unfold nP; simp [h3, h5])
  · refine it_same T3 (fun k j hk => ?_) rfl rfl rfl rfl rfl rfl
    unfold tieT at hk
    rw [hu5 k (by omega)]
  · have hg := g3 c hc hv
    unfold GC at hg ⊢
    rw [hu5 (15 + 6 * c) (by omega)]
    exact hg
  · rw [hu5 0 (by decide), f3 0 (by decide)]

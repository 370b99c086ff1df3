/-! ===== those with three strikes; a beat ===== -/
theorem t_stk_def (K : Nat) (a : Int32) (σ : TS) : sX8_shutOffStruckOnes_2 (K + 1) a σ = (if ((3 : Int32)) ≤ a then some (0, σ) else (if vin a 3 = true then (if (σ (15+6*(a.toNatClampNeg)) 6) = 0 then sX8_shutOffStruckOnes_39 (sX8_shutOffStruckOnes_2 K) a σ else (if (σ (15+6*(a.toNatClampNeg)) 4) < ((3 : Int32)) then sX8_shutOffStruckOnes_39 (sX8_shutOffStruckOnes_2 K) a σ else ((sX8_shutOff a ((118 : Int32)) σ).bind (fun z => sX8_shutOffStruckOnes_39 (sX8_shutOffStruckOnes_2 K) a z.2)))) else none)) := rfl
theorem m_173_def (K : Nat) (a : Int32) (μ : TS) : sX9_vote_173 (K + 1) a μ = (if ((3 : Int32)) ≤ a then some (0, μ) else (if vin a 4 = true then (if (μ 10 (a.toNatClampNeg)) = 0 then (if (μ 12 (a.toNatClampNeg)) < ((3 : Int32)) then sX9_vote_204 (sX9_vote_173 K) a μ else ((sX9_off a ((118 : Int32)) μ).bind (fun z => sX9_vote_204 (sX9_vote_173 K) a z.2))) else sX9_vote_204 (sX9_vote_173 K) a μ) else none)) := rfl
theorem off_fr (c : Nat) (w : Int32) (σ : TS) {k : Nat} (h : k ≠ 11 ∧ k ≠ 12 ∧ k ≠ 13 ∧ k ≠ 14 ∧ k ≠ 15 + 6 * c) : offT c w σ k = σ k := by
  unfold offT logT
  rw [st2_ne _ _ _ h.1, st2_ne _ _ _ h.2.2.2.1, st2_ne _ _ _ h.2.2.1, st2_ne _ _ _ h.2.1, st2_ne _ _ _ h.2.2.2.2, st2_ne _ _ _ h.2.2.2.2]
theorem offM_fr (c : Nat) (w : Int32) (μ : TS) {k : Nat} (h : k ≠ 0 ∧ k ≠ 10 ∧ k ≠ 11 ∧ k ≠ 36 ∧ k ≠ 37 ∧ k ≠ 38) : offM c w μ k = μ k := by
  unfold offM logM
  rw [st2_ne _ _ _ h.1, st2_ne _ _ _ h.2.2.2.2.2, st2_ne _ _ _ h.2.2.2.2.1, st2_ne _ _ _ h.2.2.2.1, st2_ne _ _ _ h.2.2.1, st2_ne _ _ _ h.2.1]
theorem tot_T {S : Nat → Bool} {σ μ : TS} (hR : RS S σ μ) (hS6 : S 6 = true) {a : Nat} (h43 : μ 0 43 = nI a) : σ 11 3 = nI a := (hR _ tm_total (by show S (lab (11, 3, 0, 43, 0)) = true; rw [show lab (11, 3, 0, 43, 0) = 6 from rfl]; exact hS6)).trans h43
theorem on_T {S : Nat → Bool} {n N : Nat} {σ μ : TS} (hR : RS S σ μ) (hI : IC n N μ) {c : Nat} (hS : S c = true) (hc : c < 4) : σ (15 + 6 * c) 6 = 0 ↔ ¬ μ 10 c = 0 := by
  have t6 : σ (15 + 6 * c) 6 = 1 - μ 10 c := rS_c hR hS (tm_off c hc) hc (by omega)
  have hb := ic_B hI 10 c
  rw [t6]
  rcases i32_z hb.1 hb.2 with h0 | h0
  · rw [h0]
    exact ⟨fun h => absurd h (by decide), fun h => absurd rfl h⟩
  · rw [h0]
    exact ⟨fun _ => by decide, fun _ => by decide⟩
theorem struck_c {S : Nat → Bool} {n N : Nat} {σ μ : TS} {c : Nat} (h : RI S n N σ μ) (hS : S c = true) (hS6 : S 6 = true) (hc : c < 3) (K : Nat) :
    ∃ u v, sX8_shutOffStruckOnes_2 (K + 1) (nI c) σ = sX8_shutOffStruckOnes_2 K (nI (c + 1)) u ∧ sX9_vote_173 (K + 1) (nI c) μ = sX9_vote_173 K (nI (c + 1)) v ∧ RI S n N u v ∧ (v 10 c = 0 → (v 12 c).toInt ≤ 2) ∧ (∀ d, d ≠ c → v 10 d = μ 10 d) ∧ (∀ k, k < 11 ∨ 33 ≤ k → u k = σ k) ∧ (∀ k, k ≠ 0 ∧ k ≠ 10 ∧ k ≠ 11 ∧ k ≠ 36 ∧ k ≠ 37 ∧ k ≠ 38 → v k = μ k) := by
  obtain ⟨hR, hI, hT⟩ := h
  have t6 := on_T hR hI hS (show c < 4 by omega)
  have t4 : σ (15 + 6 * c) 4 = μ 12 c := rS_c hR hS (tm_strikes c hc) (by omega) (by omega)
  rw [t_stk_def, m_173_def, if_neg (show ¬ (3 : Int32) ≤ nI c from nI_ge (b := 3) hc (by decide)), if_neg (show ¬ (3 : Int32) ≤ nI c from nI_ge (b := 3) hc (by decide)), if_pos (vin_nI hc (by decide)), if_pos (vin_nI (show c < 4 by omega) (by decide)), nI_clamp (show c < 2 ^ 31 by omega), t4]
  unfold sX8_shutOffStruckOnes_39 sX9_vote_204
  by_cases h10 : μ 10 c = 0
  · rw [if_neg (fun h => t6.mp h h10), if_pos h10]
    by_cases h3 : μ 12 c < 3
    · rw [if_pos h3, if_pos h3, nI_1]
      refine ⟨σ, μ, rfl, rfl, ⟨hR, hI, hT⟩, fun _ => ?_, fun _ _ => rfl, fun _ _ => rfl, fun _ _ => rfl⟩
      rw [lt_iff, show (3 : Int32).toInt = 3 by decide] at h3
      omega
    · obtain ⟨a, ha, h43, hav, hcl⟩ := tot_nI hI
      rw [if_neg h3, if_neg h3, t_off hc rfl ha (tot_T hR hS6 h43), m_off 118 (show c < 4 by omega) ha h43, Option.bind_some, Option.bind_some, nI_1]
      refine ⟨_, _, rfl, rfl, ⟨rS_off hR hS6 hc 118, ic_off hI hc h10 (by decide), it_off hT hc 118⟩, fun hv => ?_, fun d hd => ?_, fun k hk => off_fr _ _ _ (by omega), fun k hk => offM_fr _ _ _ hk⟩
      · exfalso
        have : (st2 μ 10 c 1) 10 c = 0 := hv
        rw [st2_eq] at this
        exact absurd this (by decide)
      · show (st2 μ 10 c 1) 10 d = μ 10 d
        rw [st2_nj _ _ hd]
  · rw [if_pos (t6.mpr h10), if_neg h10, nI_1]
    exact ⟨σ, μ, rfl, rfl, ⟨hR, hI, hT⟩, fun h => absurd h h10, fun _ _ => rfl, fun _ _ => rfl, fun _ _ => rfl⟩
theorem struck {S : Nat → Bool} {n N : Nat} {σ μ : TS} (h : RI S n N σ μ) (hS : ∀ c, c < 3 → S c = true) (hS6 : S 6 = true) :
    ∃ u v, sX8_shutOffStruckOnes σ = some (0, u) ∧ sX9_vote_171 μ = some (0, v) ∧ RI S n N u v ∧ SK v ∧ (∀ k, k < 11 ∨ 33 ≤ k → u k = σ k) ∧ (∀ k, k ≠ 0 ∧ k ≠ 10 ∧ k ≠ 11 ∧ k ≠ 36 ∧ k ≠ 37 ∧ k ≠ 38 → v k = μ k) := by
  obtain ⟨u0, v0, a0, b0, r0, s0, d0, f0, g0⟩ := struck_c h (hS 0 (by decide)) hS6 (show 0 < 3 by decide) 3
  obtain ⟨u1, v1, a1, b1, r1, s1, d1, f1, g1⟩ := struck_c r0 (hS 1 (by decide)) hS6 (show 1 < 3 by decide) 2
  obtain ⟨u2, v2, a2, b2, r2, s2, d2, f2, g2⟩ := struck_c r1 (hS 2 (by decide)) hS6 (show 2 < 3 by decide) 1
  refine ⟨u2, v2, ?_, ?_, r2, fun c hc hv => ?_, fun k hk => by rw [f2 k hk, f1 k hk, f0 k hk], fun k hk => by rw [g2 k hk, g1 k hk, g0 k hk]⟩
  · have h0 : sX8_shutOffStruckOnes σ = sX8_shutOffStruckOnes_2 4 (nI 0) σ := rfl
    rw [h0, a0, a1, a2, t_stk_def, if_pos (show (3 : Int32) ≤ nI (2 + 1) by decide)]
  · have h0 : sX9_vote_171 μ = sX9_vote_173 4 (nI 0) μ := rfl
    rw [h0, b0, b1, b2, m_173_def, if_pos (show (3 : Int32) ≤ nI (2 + 1) by decide)]
  · rcases (show c = 0 ∨ c = 1 ∨ c = 2 by omega) with rfl | rfl | rfl
    · rw [g2 12 (by decide), g1 12 (by decide)]
      rw [d2 0 (by decide), d1 0 (by decide)] at hv
      exact s0 hv
    · rw [g2 12 (by decide)]
      rw [d2 1 (by decide)] at hv
      exact s1 hv
    · exact s2 hv
theorem m_171_no {μ : TS} (h : SK μ) : sX9_vote_171 μ = some (0, μ) := by
  have hs : ∀ K c, c < 3 → sX9_vote_173 (K + 1) (nI c) μ = sX9_vote_173 K (nI (c + 1)) μ := fun K c hc => by
    rw [m_173_def, if_neg (show ¬ (3 : Int32) ≤ nI c from nI_ge (b := 3) hc (by decide)), if_pos (vin_nI (show c < 4 by omega) (by decide)), nI_clamp (show c < 2 ^ 31 by omega)]
    unfold sX9_vote_204
    by_cases h10 : μ 10 c = 0
    · have h2 := h c hc h10
      rw [if_pos h10, if_pos (by rw [lt_iff, show (3 : Int32).toInt = 3 by decide]; omega), nI_1]
    · rw [if_neg h10, nI_1]
  have h0 : sX9_vote_171 μ = sX9_vote_173 4 (nI 0) μ := rfl
  rw [h0, hs 3 0 (by decide), hs 2 1 (by decide), hs 1 2 (by decide), m_173_def, if_pos (show (3 : Int32) ≤ nI (2 + 1) by decide)]
theorem mS_0 {f : Nat → Int32} {μ : TS} (h : ∀ c, c < 3 → f c = 0) : mS f μ = μ := by
  unfold mS
  rw [h 0 (by decide), h 1 (by decide), h 2 (by decide), a0, st2_same (σ := μ) rfl, a0, st2_same (σ := μ) rfl, a0, st2_same (σ := μ) rfl]
/-- all that are on are alike: no strike -/
theorem m_vlike {μ : TS} (hB : InvB μ) (hsk : SK μ) (hl : ∀ c d, c < 3 → d < 3 → μ 10 c = 0 → μ 10 d = 0 → lb μ c d = true) : (∀ t, t < 3 → μ 10 t = 0 → sX9_vote μ = some (0, if μ 20 t = 0 then μ else st2 μ 22 ((μ 20 t - 1).toNatClampNeg) (μ 21 t))) ∧ ((∀ c, c < 3 → ¬ μ 10 c = 0) → sX9_vote μ = some (0, μ)) := by
  have hcA : ∀ c, c < 3 → μ 10 c = 0 → cA μ c = nOn μ := fun c hc h10 => by
    have e : ∀ d, d < 3 → (ob μ d && lb μ d c) = ob μ d := fun d hd => by
      by_cases h : μ 10 d = 0
      · rw [hl d c hd hc h h10, Bool.and_true]
      · rw [ob_f h, Bool.false_and]
    unfold cA nOn vN
    rw [e 0 (by decide), e 1 (by decide), e 2 (by decide)]
  have hpos : ∀ c, c < 3 → μ 10 c = 0 → 1 ≤ nOn μ := fun c hc h10 => by
    have h1 := ob_t h10
    unfold nOn vN
    rcases (show c = 0 ∨ c = 1 ∨ c = 2 by omega) with rfl | rfl | rfl <;> (rw [h1]; simp only [Bool.toNat_true]; omega)
  rcases vkey μ with ⟨h1, h2⟩ | ⟨t, ht, h1, h10, h2⟩
  · have hno : ∀ c, c < 3 → ¬ μ 10 c = 0 := fun c hc h10 => by
      have a := h2 c hc h10
      have b := hcA c hc h10
      have d := hpos c hc h10
      omega
    refine ⟨fun t ht h10 => absurd h10 (hno t ht), fun _ => ?_⟩
    rw [m_vA h1, mS_0 (fun c hc => by unfold fA; rw [if_neg (hno c hc)]), m_171_no hsk]
  · refine ⟨fun s hs hs10 => ?_, fun hno => absurd h10 (hno t ht)⟩
    have hst := of_decide_eq_true (hl s t hs ht hs10 h10)
    rw [m_vB ht h1 hB, mS_0 (fun c hc => by unfold fB; rw [if_neg (fun g => g.2 (hl c t hc ht g.1 h10))])]
    by_cases h0 : μ 20 t = 0
    · rw [if_pos h0, if_pos (hst.1.trans h0), m_171_no hsk]
    · have h21 : μ 21 s = μ 21 t := hst.2.elim (fun g => absurd (hst.1.symm.trans g) h0) id
      rw [if_neg h0, if_neg (fun g => h0 (hst.1.symm.trans g)), hst.1, h21, m_171_no (μ := st2 μ 22 ((μ 20 t - 1).toNatClampNeg) (μ 21 t)) hsk]
/-! who is done -/
def dn (μ : TS) (p c : Nat) : Bool := !(decide (μ 10 c = 0) && decide (μ 9 c < μ 4 p))
theorem m_dn (μ : TS) {p c : Nat} (hc : c < 4) (hp : p < 3) : sX9_isDone (nI c) (nI p) μ = some (if dn μ p c = true then 1 else 0, μ) := by
  unfold sX9_isDone sX9_isDone_0 sX9_isDone_24 sX9_isDone_29 dn
  rw [if_pos (vin_nI hc (by decide)), nI_clamp (show c < 2 ^ 31 by omega), if_pos (vin_nI hp (by decide)), nI_clamp (show p < 2 ^ 31 by omega)]
  by_cases h1 : μ 10 c = 0
  · by_cases h2 : μ 9 c < μ 4 p
    · rw [if_pos h1, if_pos h2, decide_eq_true h1, decide_eq_true h2]
      rfl
    · rw [if_pos h1, if_neg h2, decide_eq_true h1, decide_eq_false h2]
      rfl
  · rw [if_neg h1, decide_eq_false h1, Bool.false_and]
    rfl
def aD (μ : TS) (p : Nat) : Bool := dn μ p 0 && dn μ p 1 && dn μ p 2
theorem m_aD (μ : TS) {p : Nat} (hp : p < 3) : sX9_areDone (nI p) μ = some (if aD μ p = true then 1 else 0, μ) := by
  have h0 : sX9_areDone (nI p) μ = (sX9_isDone (nI 0) (nI p) μ).bind (fun z => sX9_areDone_6 (nI p) z.1 z.2) := rfl
  rw [h0, m_dn μ (show 0 < 4 by decide) hp, Option.bind_some]
  unfold sX9_areDone_6 sX9_areDone_15 sX9_areDone_24 sX9_areDone_31 sX9_areDone_32 aD
  simp only [show (1 : Int32) = nI 1 from rfl, show (2 : Int32) = nI 2 from rfl, m_dn μ (show 1 < 4 by decide) hp, m_dn μ (show 2 < 4 by decide) hp, Option.bind_some]
  cases dn μ p 0 <;> cases dn μ p 1 <;> cases dn μ p 2 <;> rfl
theorem t_hL {S : Nat → Bool} {n N : Nat} {σ μ : TS} (hR : RS S σ μ) (hI : IC n N μ) {c p : Nat} (hS : S c = true) (hS4 : S 4 = true) (hc : c < 4) (hp : p < 3) : sX1_hasLeft c p σ = some (if μ 9 c < μ 4 p then 1 else 0, σ) := by
  obtain ⟨t, ht, h9⟩ := b_nI (ic_B hI) 9 c (n := 10) rfl
  obtain ⟨s, hs, h4⟩ := b_nI (ic_B hI) 4 p (n := 10) rfl
  rw [t_hasLeft (t := t) (s := s) ((rS_c hR hS (tm_next c hc) hc (by omega)).trans h9) ((rS_4 hR hS4 (tm_size p hp) (by omega)).trans h4) (by omega) (by omega), h9, h4]
  by_cases h : t < s
  · rw [if_pos h, if_pos (nI_lt h (by omega))]
  · rw [if_neg h, if_neg (nI_nlt (by omega) (by omega))]
theorem t_one_def (K p : Nat) (a : Int32) (σ : TS) : sX8_isOneOfThreeLeft_2 (K + 1) p a σ = (if ((3 : Int32)) ≤ a then some ((0 : Int32), σ) else (if vin a 3 = true then (if (σ (15+6*(a.toNatClampNeg)) 6) = 0 then sX8_isOneOfThreeLeft_34 (sX8_isOneOfThreeLeft_2 K) p a σ else ((sX1_hasLeft (a.toNatClampNeg) p σ).bind (fun z => sX8_isOneOfThreeLeft_29 (sX8_isOneOfThreeLeft_2 K) p a z.1 z.2))) else none)) := rfl
theorem t_one {S : Nat → Bool} {n N : Nat} {σ μ : TS} (hR : RS S σ μ) (hI : IC n N μ) {p : Nat} (hS : ∀ c, c < 3 → S c = true) (hS4 : S 4 = true) (hp : p < 3) : sX8_isOneOfThreeLeft p σ = some (if aD μ p = true then 0 else 1, σ) := by
  have hs : ∀ K c, c < 3 → sX8_isOneOfThreeLeft_2 (K + 1) p (nI c) σ = if dn μ p c = true then sX8_isOneOfThreeLeft_2 K p (nI (c + 1)) σ else some (1, σ) := fun K c hc => by
    have t6 := on_T hR hI (hS c hc) (show c < 4 by omega)
    rw [t_one_def, if_neg (show ¬ (3 : Int32) ≤ nI c from nI_ge (b := 3) hc (by decide)), if_pos (vin_nI hc (by decide)), nI_clamp (show c < 2 ^ 31 by omega)]
    unfold sX8_isOneOfThreeLeft_29 sX8_isOneOfThreeLeft_34 dn
    by_cases h1 : μ 10 c = 0
    · rw [if_neg (fun h => t6.mp h h1), t_hL hR hI (hS c hc) hS4 (show c < 4 by omega) hp, Option.bind_some, decide_eq_true h1]
      by_cases h2 : μ 9 c < μ 4 p
      · rw [if_pos h2, decide_eq_true h2]
        rfl
      · rw [if_neg h2, decide_eq_false h2, nI_1]
        rfl
    · rw [if_pos (t6.mpr h1), decide_eq_false h1, nI_1]
      rfl
  have h0 : sX8_isOneOfThreeLeft p σ = sX8_isOneOfThreeLeft_2 4 p (nI 0) σ := rfl
  rw [h0, hs 3 0 (by decide), hs 2 1 (by decide), hs 1 2 (by decide), t_one_def, if_pos (show (3 : Int32) ≤ nI (2 + 1) by decide)]
  unfold aD
  cases dn μ p 0 <;> cases dn μ p 1 <;> cases dn μ p 2 <;> rfl
theorem t_any {S : Nat → Bool} {n N : Nat} {σ μ : TS} (hR : RS S σ μ) (hI : IC n N μ) {p : Nat} (hS : ∀ c, c < 4 → S c = true) (hS4 : S 4 = true) (hp : p < 3) : sX8_isAnyLeft p σ = some (if dn μ p 3 = true ∧ aD μ p = true then 0 else 1, σ) := by
  have h0 : sX8_isAnyLeft p σ = (sX1_hasLeft 3 p σ).bind (fun z => sX8_isAnyLeft_8 p z.1 z.2) := rfl
  have h3 : dn μ p 3 = !decide (μ 9 3 < μ 4 p) := by
    unfold dn
    rw [decide_eq_true (ic_P hI).1, Bool.true_and]
  rw [h0, t_hL hR hI (hS 3 (by decide)) hS4 (by decide) hp, Option.bind_some]
  unfold sX8_isAnyLeft_8 sX8_isAnyLeft_16 sX8_isAnyLeft_19 sX8_isAnyLeft_24
  simp only [t_one hR hI (fun c hc => hS c (by omega)) hS4 hp, Option.bind_some, h3]
  by_cases h2 : μ 9 3 < μ 4 p
  · rw [if_pos h2, decide_eq_true h2]
    rfl
  · rw [if_neg h2, decide_eq_false h2]
    cases aD μ p <;> rfl

/-! ===== the three computers, one instruction each ===== -/
def RI (S : Nat → Bool) (n N : Nat) (σ μ : TS) : Prop := RS S σ μ ∧ IC n N μ ∧ InvT σ μ
theorem ic_B {n N : Nat} {μ : TS} (h : IC n N μ) : InvB μ := h.2.2.2.2.2.2.2.2
theorem ic_V {n N : Nat} {μ : TS} (h : IC n N μ) : ∀ i, okV (μ 1 i) (μ 3 i) := h.1
theorem ic_P {n N : Nat} {μ : TS} (h : IC n N μ) : μ 10 3 = 0 ∧ μ 17 3 = 0 ∧ ∀ i, 54 ≤ i → μ 7 i = 0 := h.2.2.2.2.2.1
theorem b_nI {μ : TS} (h : InvB μ) (k j : Nat) {n : Nat} (hb : bd k = (0, (n : Int))) : ∃ a, a ≤ n ∧ μ k j = nI a := by
  have h1 := h k j
  rw [hb] at h1
  exact i32_nI h1.1 h1.2
theorem iAt_of {μ : TS} {p t : Nat} (hB : InvB μ) (hV : ∀ i, okV (μ 1 i) (μ 3 i)) (ht : t < 10) : ∃ r m, iAt p t (μ 1 (10 * p + t)) (μ 3 (10 * p + t)) r m μ := by
  obtain ⟨r, hr, he⟩ := b_nI hB 2 (10 * p + t) (n := 3) rfl
  obtain ⟨v1, v2, v3⟩ := hV (10 * p + t)
  by_cases hK : μ 1 (10 * p + t) = 108
  · refine ⟨r, 0, ht, rfl, he, rfl, by omega, fun h => absurd hK h, fun _ => by omega, fun _ => by omega⟩
  · have h9 := v3 hK
    obtain ⟨m, hm, hme⟩ := i32_nI (n := 9) h9.1 h9.2
    refine ⟨r, m, ht, rfl, he, rfl, by omega, fun _ => ⟨hme, by omega⟩, fun h => ?_, fun h => ?_⟩
    · have h1 := v1 h
      rw [hme, nI_toInt (by omega)] at h1
      omega
    · have h1 := v2 h
      rw [hme, nI_toInt (by omega)] at h1
      omega
theorem iAtT_of {S : Nat → Bool} {σ μ : TS} (h : RS S σ μ) (hS4 : S 4 = true) {p t r m : Nat} {K nv : Int32} (hp : p < 3) (hi : iAt p t K nv r m μ) : iAtT p t K nv r m σ := by
  obtain ⟨ht, h1, h2, h3, hh⟩ := hi
  have e1 : σ (40 + 4 * p) t = μ 1 (10 * p + t) := rS_4 h hS4 (tm_kind p hp t ht) (by omega)
  have e2 : σ (41 + 4 * p) t = μ 2 (10 * p + t) := rS_4 h hS4 (tm_creg p hp t ht) (by omega)
  have e3 : σ (42 + 4 * p) t = μ 3 (10 * p + t) := rS_4 h hS4 (tm_cn p hp t ht) (by omega)
  exact ⟨ht, e1.trans h1, e2.trans h2, e3.trans h3, hh⟩
/-- one computer that is on: what doNext and does come to -/
theorem next_c {S : Nat → Bool} {σ μ : TS} {c p : Nat} (hR : RS S σ μ) (hB : InvB μ) (hV : ∀ i, okV (μ 1 i) (μ 3 i)) (h17 : μ 17 3 = 0) (hS : S c = true) (hS4 : S 4 = true) (hc : c < 4) (hp : p < 3) (h10 : μ 10 c = 0) :
    (∃ u v, sX1_doNext c p (nI (6 * p)) σ = some (1, u) ∧ sX9_does (nI c) (nI p) μ = some (0, v) ∧ RS S u v ∧ InvB v ∧ GC c u v ∧ (∀ k, k < 15 + 6 * c ∨ 20 + 6 * c < k ∨ k = 19 + 6 * c → u k = σ k) ∧ (∀ j, j ≠ 11 ∧ j ≠ 12 ∧ j ≠ 13 → u (15 + 6 * c) j = σ (15 + 6 * c) j) ∧ (∀ k, k ≠ 6 ∧ k ≠ 7 ∧ k ≠ 8 ∧ k ≠ 9 ∧ k ≠ 16 ∧ k ≠ 20 ∧ k ≠ 21 → v k = μ k) ∧ (∀ k j, ¬ ownM c k j → v k j = μ k j) ∧ (∀ j, μ 7 j = 0 → v 7 j = 0)) ∨
    ((∃ i, i < 18 ∧ ¬ cntb (μ 7 (18 * c + i)) ≤ 1) ∧ sX1_doNext c p (nI (6 * p)) σ = some (0, st2 σ (15 + 6 * c) 12 (-1)) ∧ ∀ v, sX9_off (nI c) 109 (st2 μ 20 c 0) = some (0, v) → sX9_does (nI c) (nI p) μ = some (0, v)) := by
  obtain ⟨t, ht, h9⟩ := b_nI hB 9 c (n := 10) rfl
  obtain ⟨s, hs, h4⟩ := b_nI hB 4 p (n := 10) rfl
  have t11 : σ (15 + 6 * c) 11 = nI t := (rS_c hR hS (tm_next c hc) hc (by omega)).trans h9
  have t3 : σ (39 + 4 * p) 3 = nI s := (rS_4 hR hS4 (tm_size p hp) (by omega)).trans h4
  by_cases hd : t < s
  · obtain ⟨r, m, hi⟩ := iAt_of (p := p) hB hV (show t < 10 by omega)
    have hiT := iAtT_of hR hS4 hp hi
    have hb7 : ∀ i, 0 ≤ (μ 7 i).toInt ∧ (μ 7 i).toInt ≤ 65535 := fun i => hB 7 i
    have f18 : ∀ i, i < 18 → σ (18 + 6 * c) i = μ 7 (18 * c + i) := fun i h => rS_c hR hS (tm_fl c hc i h) hc (by omega)
    have hbT : ∀ i, i < 18 → 0 ≤ (σ (18 + 6 * c) i).toInt ∧ (σ (18 + 6 * c) i).toInt ≤ 65535 := fun i h => by
      rw [f18 i h]
      exact hb7 _
    have hm6 : μ 1 (10 * p + t) = 114 → m < 6 := fun h => hi.2.2.2.2.2.2.2 (Or.inr h)
    by_cases hk : μ 1 (10 * p + t) = 114 ∧ ¬ cntb (μ 7 (18 * c + (6 * p + m))) ≤ 1
    · have h6 := hm6 hk.1
      refine Or.inr ⟨⟨6 * p + m, by omega, hk.2⟩, ?_, fun v hv => ?_⟩
      · exact t_bad hc hp t11 t3 hd (by omega) hiT hbT hk.1 (by rw [f18 _ (by omega)]; exact hk.2)
      · exact m_does_bad hc hp h10 h9 h4 hd (by omega) hi hb7 hk.1 hk.2 hv
    · have hk2 : μ 1 (10 * p + t) = 114 → cntb (μ 7 (18 * c + (6 * p + m))) ≤ 1 := fun h => Decidable.byContradiction (fun h2 => hk ⟨h, h2⟩)
      refine Or.inl ⟨_, _, t_left hc hp t11 t3 hd (by omega) hiT hbT (fun h => by rw [f18 _ (by have := hm6 h; omega)]; exact hk2 h), m_does_left hc hp h10 h9 h4 hd (by omega) hi hb7 hk2, rS_eff hR hS hS4 hc hp hi h17, iB_eff hB hi, gC_eff σ μ, fun k hk => tEff_fr σ hk, fun j hj => tEff_j σ hj, fun k hk => mEff_fr μ hk, fun k j hkj => ?_, fun j hj => mEff_7 μ hj⟩
      by_cases h6 : m < 6
      · exact mEff_own μ (by omega) hi.2.2.2.2.1 hkj
      · have hrow : mEff c r m (6 * p + m) t (μ 1 (10 * p + t)) (μ 3 (10 * p + t)) μ = mEff c r m 0 t (μ 1 (10 * p + t)) (μ 3 (10 * p + t)) μ := by
          have n109 : ¬ μ 1 (10 * p + t) = 109 := fun h => h6 (hi.2.2.2.2.2.2.2 (Or.inl h))
          have n114 : ¬ μ 1 (10 * p + t) = 114 := fun h => h6 (hi.2.2.2.2.2.2.2 (Or.inr h))
          unfold mEff
          rw [if_neg n109, if_neg n114, if_neg n109, if_neg n114]
        rw [hrow]
        exact mEff_own μ (by omega) hi.2.2.2.2.1 hkj
  · refine Or.inl ⟨_, _, t_done hc hp t11 t3 (by omega) (by omega) hd _, m_does_done hc hp h10 h9 h4 (by omega) (by omega) hd, rS_M (rS_T hR (onT_12 c hc) _) (onM_20 c hc) _, iB_up hB ⟨by decide, by decide⟩, ?_, fun k hk => st2_ne _ _ _ (by omega), fun j hj => st2_nj _ _ hj.2.1, fun k hk => st2_ne _ _ _ (by omega), fun k j hkj => ?_, fun j hj => hj⟩
    · unfold GC
      rw [st2_eq, st2_eq]
      rfl
    · unfold ownM at hkj
      exact st2_off _ _ (by omega)
theorem doI_step (K p : Nat) (x2 : Int32) {c : Nat} (σ : TS) (hc : c < 3) : sX8_doInstructions_2 (K + 1) p x2 (nI c) σ = if σ (15 + 6 * c) 6 = 0 then sX8_doInstructions_2 K p x2 (nI (c + 1)) σ else ((sX1_doNext c p (6 * x2) σ).bind (fun z => sX8_doInstructions_37 (sX8_doInstructions_2 K) p x2 (nI c) z.1 z.2)) := by
  have h1 : sX8_doInstructions_2 (K + 1) p x2 (nI c) σ = (if ((3 : Int32)) ≤ nI c then ((sX1_doNext 3 p (((6 : Int32)) * x2) σ).bind (fun z => sX8_doInstructions_69 z.1 z.2)) else (if vin (nI c) 3 = true then (if (σ (15+6*((nI c).toNatClampNeg)) 6) = 0 then sX8_doInstructions_47 (sX8_doInstructions_2 K) p x2 (nI c) σ else ((sX1_doNext ((nI c).toNatClampNeg) p (((6 : Int32)) * x2) σ).bind (fun z => sX8_doInstructions_37 (sX8_doInstructions_2 K) p x2 (nI c) z.1 z.2))) else none)) := rfl
  rw [h1, if_neg (show ¬ (3 : Int32) ≤ nI c from nI_ge (b := 3) hc (by decide)), if_pos (vin_nI hc (by decide)), nI_clamp (show c < 2 ^ 31 by omega)]
  unfold sX8_doInstructions_47
  rw [nI_1]
/-- one of the three -/
theorem one_c {S : Nat → Bool} {n N : Nat} {σ μ : TS} {c p : Nat} (h : RI S n N σ μ) (hsk : SK μ) (hS : S c = true) (hS4 : S 4 = true) (hS6 : S 6 = true) (hc : c < 3) (hp : p < 3) (K : Nat) :
    ∃ u v, sX8_doInstructions_2 (K + 1) p (nI p) (nI c) σ = sX8_doInstructions_2 K p (nI p) (nI (c + 1)) u ∧ sX9_does (nI c) (nI p) μ = some (0, v) ∧ RI S n N u v ∧ SK v ∧ (v 10 c = 0 → GC c u v) ∧ (∀ d, d < 3 → d ≠ c → GC d σ μ → GC d u v) ∧ (∀ k, k < 11 ∨ 33 ≤ k → u k = σ k) ∧ (∀ d, d ≠ c → v 10 d = μ 10 d) ∧ (∀ k j, ownM 3 k j → v k j = μ k j) ∧ v 22 = μ 22 ∧ v 23 = μ 23 := by
  obtain ⟨hR, hI, hT⟩ := h
  have hB := ic_B hI
  have t6 : σ (15 + 6 * c) 6 = 1 - μ 10 c := rS_c hR hS (tm_off c (by omega)) (by omega) (by omega)
  rw [doI_step K p _ σ hc]
  by_cases h10 : μ 10 c = 0
  · rw [if_neg (by rw [t6, h10]; decide), m6_nI]
    rcases next_c hR hB (ic_V hI) (ic_P hI).2.1 hS hS4 (show c < 4 by omega) hp h10 with ⟨u, v, e1, e2, g1, g2, g3, g4, g5, g6, g7, g8⟩ | ⟨⟨i, hi, hk⟩, e1, e2⟩
    · refine ⟨u, v, ?_, e2, ⟨g1, ?_, ?_⟩, ?_, fun _ => g3, fun d hd hdc hg => ?_, fun k hk => g4 k (by omega), fun d hd => congrFun (g6 10 (by decide)) d, fun k j hkj => g7 k j ?_, g6 22 (by decide), g6 23 (by decide)⟩
      · rw [e1, Option.bind_some]
        unfold sX8_doInstructions_37 sX8_doInstructions_47
        rw [if_neg (show ¬ (1 : Int32) = 0 by decide), nI_1]
      · exact ic_same hI (g6 0 (by decide)) (g6 1 (by decide)) (g6 3 (by decide)) (g6 10 (by decide)) (g6 11 (by decide)) (g6 13 (by decide)) (g6 17 (by decide)) (g6 37 (by decide)) (g6 38 (by decide)) (fun i hi => g8 i ((ic_P hI).2.2 i hi)) g2
      · refine it_same hT (fun k j hkj => ?_) (g6 0 (by decide)) (g6 10 (by decide)) (g6 11 (by decide)) (g6 25 (by decide)) (g6 30 (by decide)) (g6 32 (by decide))
        unfold tieT at hkj
        by_cases hk : k = 15 + 6 * c
        · subst hk
          exact g5 j (by omega)
        · exact congrFun (g4 k (by omega)) j
      · unfold SK
        rw [g6 10 (by decide), g6 12 (by decide)]
        exact hsk
      · unfold GC at hg ⊢
        rw [g4 (15 + 6 * d) (by omega), g7 20 d (by unfold ownM; omega)]
        exact hg
      · unfold ownM at hkj ⊢
        omega
    · obtain ⟨a, ha, h43, hav, hcl⟩ := tot_nI hI
      have hoff := m_off (μ := st2 μ 20 c 0) 109 (show c < 4 by omega) ha h43
      have ht43 : σ 11 3 = nI a := (hR _ tm_total (by show S (lab (11, 3, 0, 43, 0)) = true; rw [show lab (11, 3, 0, 43, 0) = 6 from rfl]; exact hS6)).trans h43
      have hI0 : IC n N (st2 μ 20 c 0) := ic_same hI rfl rfl rfl rfl rfl rfl rfl rfl rfl (ic_P hI).2.2 (iB_up hB ⟨by decide, by decide⟩)
      have hR0 : RS S (st2 σ (15 + 6 * c) 12 (-1)) (st2 μ 20 c 0) := rS_M (rS_T hR (onT_12 c (by omega)) _) (onM_20 c (by omega)) _
      have hT0 : InvT (st2 σ (15 + 6 * c) 12 (-1)) (st2 μ 20 c 0) := it_same hT (fun k j hkj => st2_off _ _ (by unfold tieT at hkj; omega)) rfl rfl rfl rfl rfl rfl
      have hfr : ∀ k, k ≠ 15 + 6 * c → k ≠ 11 → k ≠ 12 → k ≠ 13 → k ≠ 14 → offT c 109 (st2 σ (15 + 6 * c) 12 (-1)) k = σ k := fun k h1 h2 h3 h4 h5 => by
        unfold offT logT
        rw [st2_ne _ _ _ h2, st2_ne _ _ _ h5, st2_ne _ _ _ h4, st2_ne _ _ _ h3, st2_ne _ _ _ h1, st2_ne _ _ _ h1, st2_ne _ _ _ h1]
      refine ⟨offT c 109 (st2 σ (15 + 6 * c) 12 (-1)), offM c 109 (st2 μ 20 c 0), ?_, e2 _ hoff, ⟨rS_off hR0 hS6 hc 109, ic_off hI0 hc h10 (by decide), it_off hT0 hc 109⟩, sk_off (μ := st2 μ 20 c 0) hsk c 109, fun hv => ?_, fun d hd hdc hg => ?_, fun k hk => hfr k (by omega) (by omega) (by omega) (by omega) (by omega), fun d hd => ?_, fun k j hkj => ?_, rfl, rfl⟩
      · rw [e1, Option.bind_some]
        unfold sX8_doInstructions_37 sX8_doInstructions_47
        rw [if_pos rfl, t_off hc rfl ha ((congrFun (st2_ne σ _ _ (by omega)) _).trans ht43), Option.bind_some, nI_1]
      · exfalso
        have : (st2 (st2 μ 20 c 0) 10 c 1) 10 c = 0 := hv
        rw [st2_eq] at this
        exact absurd this (by decide)
      · unfold GC at hg ⊢
        rw [hfr (15 + 6 * d) (by omega) (by omega) (by omega) (by omega) (by omega), hg]
        show μ 20 d - 1 = (st2 μ 20 c 0) 20 d - 1
        rw [st2_nj _ _ hdc]
      · show (st2 μ 10 c 1) 10 d = μ 10 d
        rw [st2_nj _ _ hd]
      · unfold ownM at hkj
        unfold offM logM
        rw [st2_ne _ _ _ (by omega), st2_ne _ _ _ (by omega), st2_ne _ _ _ (by omega), st2_ne _ _ _ (by omega), st2_ne _ _ _ (by omega), st2_ne _ _ _ (by omega), st2_off _ _ (by omega)]
  · have h1 : μ 10 c = 1 := by
      have hb := hB 10 c
      rcases i32_z hb.1 hb.2 with h | h
      · exact absurd h h10
      · exact h
    rw [if_pos (by rw [t6, h1]; decide)]
    refine ⟨σ, st2 μ 20 c 0, rfl, m_does_off _ (by omega) h10, ⟨rS_M hR (onM_20 c (by omega)) _, ic_same hI rfl rfl rfl rfl rfl rfl rfl rfl rfl (ic_P hI).2.2 (iB_up hB ⟨by decide, by decide⟩), hT⟩, hsk, fun hv => absurd hv h10, fun d hd hdc hg => ?_, fun _ _ => rfl, fun _ _ => rfl, fun k j hkj => ?_, rfl, rfl⟩
    · unfold GC at hg ⊢
      rw [hg]
      show μ 20 d - 1 = (st2 μ 20 c 0) 20 d - 1
      rw [st2_nj _ _ hdc]
    · unfold ownM at hkj
      exact st2_off _ _ (by omega)

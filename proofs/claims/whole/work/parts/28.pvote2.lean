/-! ===== the vote: the reference's loops, and both tied ===== -/
theorem m_like (μ : TS) {c d : Nat} (hc : c < 4) (hd : d < 4) : sX9_areLike (nI c) (nI d) μ = some (if lb μ c d = true then 1 else 0, μ) := by
  unfold sX9_areLike sX9_areLike_0 sX9_areLike_39 sX9_areLike_43 sX9_areLike_44 lb
  rw [if_pos (vin_nI hc (by decide)), if_pos (vin_nI hd (by decide)), nI_clamp (show c < 2 ^ 31 by omega), nI_clamp (show d < 2 ^ 31 by omega)]
  by_cases g1 : μ 20 c = μ 20 d
  · rw [if_pos g1]
    by_cases g2 : μ 20 c = 0
    · rw [if_pos g2, if_pos zok1, if_pos (decide_eq_true ⟨g1, Or.inl g2⟩)]
    · rw [if_neg g2]
      by_cases g3 : μ 21 c = μ 21 d
      · rw [if_pos g3, if_pos zok1, if_pos (decide_eq_true ⟨g1, Or.inr g3⟩)]
      · rw [if_neg g3, if_pos zok0, if_neg (fun h => (of_decide_eq_true h).2.elim g2 g3)]
  · rw [if_neg g1, if_pos zok0, if_neg (fun h => g1 (of_decide_eq_true h).1)]
theorem m_29_def (K21 : Int32 → Int32 → TS → Option (Int32 × TS)) (K : Nat) (x a b : Int32) (μ : TS) : sX9_vote_29 K21 (K + 1) x a b μ = (if ((3 : Int32)) ≤ b then K21 x (a + (1 : Int32)) μ else (if a = b then sX9_vote_74 K21 (sX9_vote_29 K21 K) x a b μ else (if vin a 4 = true then (if (μ 10 (a.toNatClampNeg)) = 0 then (if vin b 4 = true then (if (μ 10 (b.toNatClampNeg)) = 0 then ((sX9_areLike a b μ).bind (fun z => sX9_vote_67 K21 (sX9_vote_29 K21 K) x a b z.1 z.2)) else sX9_vote_74 K21 (sX9_vote_29 K21 K) x a b μ) else none) else sX9_vote_74 K21 (sX9_vote_29 K21 K) x a b μ) else none))) := rfl
theorem m_29_e (K21 : Int32 → Int32 → TS → Option (Int32 × TS)) (K : Nat) (x : Int32) {c : Nat} (hc : c < 3) (μ : TS) : sX9_vote_29 K21 (K + 1) x (nI c) (nI c) μ = sX9_vote_29 K21 K x (nI c) (nI (c + 1)) μ := by
  rw [m_29_def, if_neg (show ¬ (3 : Int32) ≤ nI c from nI_ge (b := 3) hc (by decide)), if_pos rfl]
  unfold sX9_vote_74 sX9_vote_75
  rw [nI_1]
theorem m_29_n (K21 : Int32 → Int32 → TS → Option (Int32 × TS)) (K : Nat) (x : Int32) {c d : Nat} (hc : c < 3) (hd : d < 3) (hcd : c ≠ d) (μ : TS) : sX9_vote_29 K21 (K + 1) x (nI c) (nI d) μ = sX9_vote_29 K21 K (vS c (ob μ c && ob μ d && lb μ c d) x) (nI c) (nI (d + 1)) μ := by
  rw [m_29_def, if_neg (show ¬ (3 : Int32) ≤ nI d from nI_ge (b := 3) hd (by decide)), if_neg (fun h => hcd ((nI_eq (by omega) (by omega)).mp h)), if_pos (vin_nI (show c < 4 by omega) (by decide)), nI_clamp (show c < 2 ^ 31 by omega), nI_clamp (show d < 2 ^ 31 by omega)]
  unfold sX9_vote_74 sX9_vote_67 sX9_vote_74 sX9_vote_75
  by_cases h1 : μ 10 c = 0
  · rw [if_pos h1, if_pos (vin_nI (show d < 4 by omega) (by decide)), ob_t h1]
    by_cases h2 : μ 10 d = 0
    · rw [if_pos h2, m_like μ (show c < 4 by omega) (show d < 4 by omega), Option.bind_some, ob_t h2]
      by_cases h3 : lb μ c d = true
      · rw [if_pos h3, if_neg (show ¬ (1 : Int32) = 0 by decide), h3, nI_1]
        rfl
      · rw [if_neg h3, if_pos rfl, Bool.eq_false_iff.mpr h3, nI_1]
        rfl
    · rw [if_neg h2, ob_f h2, nI_1]
      rfl
  · rw [if_neg h1, ob_f h1, nI_1]
    rfl
theorem m_29_z (K21 : Int32 → Int32 → TS → Option (Int32 × TS)) (K : Nat) (x : Int32) (c : Nat) (μ : TS) : sX9_vote_29 K21 (K + 1) x (nI c) (nI 3) μ = K21 x (nI (c + 1)) μ := by
  rw [m_29_def, if_pos (show (3 : Int32) ≤ nI 3 by decide), nI_1]
theorem m_21_def (K : Nat) (x a : Int32) (μ : TS) : sX9_vote_21 (K + 1) x a μ = (if ((3 : Int32)) ≤ a then sX9_vote_90 4 x ((0 : Int32)) μ else sX9_vote_29 (sX9_vote_21 K) 4 x a ((0 : Int32)) μ) := rfl
theorem m_21 (μ : TS) (x : Int32) : sX9_vote_21 4 x (nI 0) μ = sX9_vote_90 4 (vS 2 (ob μ 2 && ob μ 1 && lb μ 1 2) (vS 2 (ob μ 2 && ob μ 0 && lb μ 0 2) (vS 1 (ob μ 1 && ob μ 2 && lb μ 1 2) (vS 1 (ob μ 1 && ob μ 0 && lb μ 0 1) (vS 0 (ob μ 0 && ob μ 2 && lb μ 0 2) (vS 0 (ob μ 0 && ob μ 1 && lb μ 0 1) x)))))) (nI 0) μ := by
  rw [m_21_def 3, if_neg (show ¬ (3 : Int32) ≤ nI 0 by decide), show (0 : Int32) = nI 0 from rfl, m_29_e _ 3 _ (show 0 < 3 by decide), m_29_n _ 2 _ (show 0 < 3 by decide) (show 1 < 3 by decide) (by decide), m_29_n _ 1 _ (show 0 < 3 by decide) (show 2 < 3 by decide) (by decide), m_29_z]
  rw [m_21_def 2, if_neg (show ¬ (3 : Int32) ≤ nI 1 by decide), show (0 : Int32) = nI 0 from rfl, m_29_n _ 3 _ (show 1 < 3 by decide) (show 0 < 3 by decide) (by decide), m_29_e _ 2 _ (show 1 < 3 by decide), m_29_n _ 1 _ (show 1 < 3 by decide) (show 2 < 3 by decide) (by decide), m_29_z]
  rw [m_21_def 1, if_neg (show ¬ (3 : Int32) ≤ nI 2 by decide), show (0 : Int32) = nI 0 from rfl, m_29_n _ 3 _ (show 2 < 3 by decide) (show 0 < 3 by decide) (by decide), m_29_n _ 2 _ (show 2 < 3 by decide) (show 1 < 3 by decide) (by decide), m_29_e _ 1 _ (show 2 < 3 by decide), m_29_z]
  rw [m_21_def 0, if_pos (show (3 : Int32) ≤ nI 3 by decide), lb_sym μ 1 0, lb_sym μ 2 0, lb_sym μ 2 1]
  rfl
def lowM (μ : TS) : Int32 := if ob μ 0 then nI 0 else if ob μ 1 then nI 1 else if ob μ 2 then nI 2 else -1
theorem m_low (μ : TS) : sX9_lowest μ = some (lowM μ, μ) := by
  have hd : ∀ (K : Nat) (a : Int32), sX9_lowest_2 (K + 1) a μ = (if ((3 : Int32)) ≤ a then some ((-1 : Int32), μ) else (if vin a 4 = true then (if (μ 10 (a.toNatClampNeg)) = 0 then some (a, μ) else sX9_lowest_2 K (a + (1 : Int32)) μ) else none)) := fun _ _ => rfl
  have hs : ∀ (K c : Nat), c < 3 → sX9_lowest_2 (K + 1) (nI c) μ = if ob μ c then some (nI c, μ) else sX9_lowest_2 K (nI (c + 1)) μ := fun K c hc => by
    rw [hd, if_neg (show ¬ (3 : Int32) ≤ nI c from nI_ge (b := 3) hc (by decide)), if_pos (vin_nI (show c < 4 by omega) (by decide)), nI_clamp (show c < 2 ^ 31 by omega), nI_1]
    by_cases h : μ 10 c = 0
    · rw [if_pos h, ob_t h, if_pos rfl]
    · rw [if_neg h, ob_f h, if_neg (by decide)]
  have h0 : sX9_lowest μ = sX9_lowest_2 4 (nI 0) μ := rfl
  rw [h0, hs 3 0 (by decide), hs 2 1 (by decide), hs 1 2 (by decide), hd 0, if_pos (show (3 : Int32) ≤ nI (2 + 1) by decide)]
  unfold lowM
  cases ob μ 0 <;> cases ob μ 1 <;> cases ob μ 2 <;> rfl
theorem m_vote1 (μ : TS) : sX9_vote μ = sX9_vote_90 4 (tk μ) (nI 0) μ := by
  have h : sX9_vote μ = (sX9_on μ).bind (fun z => sX9_vote_4 z.1 z.2) := rfl
  rw [h, m_on, Option.bind_some]
  have h3 := nOn_3 μ
  unfold sX9_vote_4
  simp only
  by_cases h1 : nOn μ = 1
  · rw [h1, if_pos (show nI 1 = (1 : Int32) from rfl), m_low, Option.bind_some]
    show sX9_vote_21 4 (lowM μ) (nI 0) μ = _
    rw [m_21]
    unfold tk vT vX
    rw [if_pos (show vN (ob μ 0) (ob μ 1) (ob μ 2) = 1 from h1)]
    rfl
  · rw [if_neg (show ¬ nI (nOn μ) = (1 : Int32) from fun h2 => h1 ((nI_eq (b := 1) (by omega) (by decide)).mp h2))]
    show sX9_vote_21 4 (-1) (nI 0) μ = _
    rw [m_21]
    unfold tk vT vX
    rw [if_neg (show ¬ vN (ob μ 0) (ob μ 1) (ob μ 2) = 1 from h1)]
theorem m_90_def (K : Nat) (x a : Int32) (μ : TS) : sX9_vote_90 (K + 1) x a μ = (if ((3 : Int32)) ≤ a then (if x = ((-1 : Int32)) then sX9_vote_171 μ else (if vin x 4 = true then (if (μ 20 (x.toNatClampNeg)) ≤ 0 then sX9_vote_171 μ else (if vin ((μ 20 (x.toNatClampNeg)) - ((1 : Int32))) 4 = true then sX9_vote_171 (st2 μ 22 (((μ 20 (x.toNatClampNeg)) - ((1 : Int32))).toNatClampNeg) (μ 21 (x.toNatClampNeg))) else none)) else none)) else (if vin a 4 = true then (if (μ 10 (a.toNatClampNeg)) = 0 then (if x = ((-1 : Int32)) then sX9_vote_125 (sX9_vote_90 K) x a a (μ 12 (a.toNatClampNeg)) μ else ((sX9_areLike a x μ).bind (fun z => sX9_vote_122 (sX9_vote_90 K) x a a (μ 12 (a.toNatClampNeg)) z.1 z.2))) else sX9_vote_129 (sX9_vote_90 K) x a a (μ 12 (a.toNatClampNeg)) μ) else none)) := rfl
def fA (μ : TS) (c : Nat) : Int32 := if μ 10 c = 0 then 1 else 0
def fB (μ : TS) (t c : Nat) : Int32 := if μ 10 c = 0 ∧ ¬ lb μ c t = true then 1 else 0
theorem m_90_A (K : Nat) {c : Nat} (hc : c < 3) (μ : TS) : sX9_vote_90 (K + 1) (-1) (nI c) μ = sX9_vote_90 K (-1) (nI (c + 1)) (st2 μ 12 c (μ 12 c + fA μ c)) := by
  rw [m_90_def, if_neg (show ¬ (3 : Int32) ≤ nI c from nI_ge (b := 3) hc (by decide)), if_pos (vin_nI (show c < 4 by omega) (by decide)), nI_clamp (show c < 2 ^ 31 by omega)]
  unfold sX9_vote_125 sX9_vote_129 sX9_vote_130 fA
  rw [if_pos (vin_nI (show c < 4 by omega) (by decide)), if_pos (vin_nI (show c < 4 by omega) (by decide)), nI_clamp (show c < 2 ^ 31 by omega), nI_1]
  by_cases h : μ 10 c = 0
  · rw [if_pos h, if_pos rfl, if_pos h]
  · rw [if_neg h, if_neg h]
theorem m_90_B (K : Nat) {c t : Nat} (hc : c < 3) (ht : t < 3) (μ : TS) : sX9_vote_90 (K + 1) (nI t) (nI c) μ = sX9_vote_90 K (nI t) (nI (c + 1)) (st2 μ 12 c (μ 12 c + fB μ t c)) := by
  rw [m_90_def, if_neg (show ¬ (3 : Int32) ≤ nI c from nI_ge (b := 3) hc (by decide)), if_pos (vin_nI (show c < 4 by omega) (by decide)), nI_clamp (show c < 2 ^ 31 by omega)]
  unfold sX9_vote_122 sX9_vote_125 sX9_vote_129 sX9_vote_130 fB
  simp only [vin_nI (show c < 4 by omega) (show 4 < 2 ^ 31 by decide), eq_self, if_true, nI_clamp (show c < 2 ^ 31 by omega), nI_1, m_like μ (show c < 4 by omega) (show t < 4 by omega), Option.bind_some]
  by_cases h : μ 10 c = 0
  · rw [if_pos h, if_neg (nI_ne_m1 (by omega))]
    by_cases h2 : lb μ c t = true
    · rw [if_pos h2, if_neg (show ¬ (1 : Int32) = 0 by decide), if_neg (fun g => g.2 h2)]
    · rw [if_neg h2, if_pos rfl, if_pos ⟨h, h2⟩]
  · rw [if_neg h, if_neg (fun g => h g.1)]
/-- strikes as f says -/
def mS (f : Nat → Int32) (μ : TS) : TS := st2 (st2 (st2 μ 12 0 (μ 12 0 + f 0)) 12 1 (μ 12 1 + f 1)) 12 2 (μ 12 2 + f 2)
theorem m_vA {μ : TS} (h : tk μ = -1) : sX9_vote μ = sX9_vote_171 (mS (fA μ) μ) := by
  rw [m_vote1, h, m_90_A 3 (show 0 < 3 by decide), m_90_A 2 (show 1 < 3 by decide), m_90_A 1 (show 2 < 3 by decide), m_90_def, if_pos (show (3 : Int32) ≤ nI (2 + 1) by decide), if_pos rfl]
  rfl
theorem m_vB {μ : TS} {t : Nat} (ht : t < 3) (h : tk μ = nI t) (hB : InvB μ) : sX9_vote μ = sX9_vote_171 (if μ 20 t = 0 then mS (fB μ t) μ else st2 (mS (fB μ t) μ) 22 ((μ 20 t - 1).toNatClampNeg) (μ 21 t)) := by
  obtain ⟨g, hg, he⟩ := b_nI hB 20 t (n := 4) rfl
  rw [m_vote1, h, m_90_B 3 (show 0 < 3 by decide) ht, m_90_B 2 (show 1 < 3 by decide) ht, m_90_B 1 (show 2 < 3 by decide) ht, m_90_def, if_pos (show (3 : Int32) ≤ nI (2 + 1) by decide), if_neg (nI_ne_m1 (by omega)), if_pos (vin_nI (show t < 4 by omega) (by decide)), nI_clamp (show t < 2 ^ 31 by omega)]
  show (if μ 20 t ≤ 0 then sX9_vote_171 (mS (fB μ t) μ) else (if vin (μ 20 t - 1) 4 = true then sX9_vote_171 (st2 (mS (fB μ t) μ) 22 ((μ 20 t - 1).toNatClampNeg) (μ 21 t)) else none)) = _
  rw [he]
  by_cases hg0 : g = 0
  · subst hg0
    rw [if_pos (show nI 0 ≤ 0 by decide), if_pos (show nI 0 = 0 from rfl)]
  · obtain ⟨g', rfl⟩ : ∃ g', g = g' + 1 := ⟨g - 1, by omega⟩
    rw [if_neg (nI_nle (by omega) (by omega)), if_neg (nI_ne0 (by omega) (by omega)), nI_pred, if_pos (vin_nI (show g' < 4 by omega) (by decide))]
/-! both, tied -/
/-- the ties but for one output -/
def RX (S : Nat → Bool) (g : Nat) (σ μ : TS) : Prop := ∀ e ∈ tabL, S (lab e) = true → ¬ (e.1 = 9 ∧ e.2.1 = g) → σ e.1 e.2.1 = tr e.2.2.2.2 (μ e.2.2.1 e.2.2.2.1)
theorem rX_up {S : Nat → Bool} {g : Nat} {σ μ : TS} (h : RX S g σ μ) {k j k' j' t : Nat} (he : (k, j, k', j', t) ∈ tabL) {v v' : Int32} (hv : v = tr t v') : RX S g (st2 σ k j v) (st2 μ k' j' v') := by
  intro f hf hS hg
  by_cases h1 : f.1 = k ∧ f.2.1 = j
  · have h3 := (tab_inj f hf _ he).1 h1
    subst h3
    show st2 σ k j v k j = tr t (st2 μ k' j' v' k' j')
    rw [st2_eq, st2_eq]
    exact hv
  · have h2 : ¬ (f.2.2.1 = k' ∧ f.2.2.2.1 = j') := fun h2 => h1 (by rw [(tab_inj f hf _ he).2 h2]; exact ⟨rfl, rfl⟩)
    rw [st2_off _ _ h1, st2_off _ _ h2]
    exact h f hf hS hg
theorem rX_h {S : Nat → Bool} {g : Nat} {σ μ : TS} (h : RX S g σ μ) (v : Int32) : RX S g (st2 σ 9 g v) μ := by
  intro f hf hS hg
  rw [st2_off _ _ hg]
  exact h f hf hS hg
theorem rX_fin {S : Nat → Bool} {g : Nat} (hg : g < 4) {σ μ : TS} (h : RX S g σ μ) {v : Int32} (hv : σ 9 g = v) : RS S σ (st2 μ 22 g v) := by
  have h1 : RS S (st2 σ 9 g v) (st2 μ 22 g v) := by
    intro f hf hS
    by_cases h1 : f.1 = 9 ∧ f.2.1 = g
    · have h3 := (tab_inj f hf _ (tm_out g hg)).1 h1
      subst h3
      show st2 σ 9 g v 9 g = tr 0 (st2 μ 22 g v 22 g)
      rw [st2_eq, st2_eq]
      rfl
    · have h2 : ¬ (f.2.2.1 = 22 ∧ f.2.2.2.1 = g) := fun h2 => h1 (by rw [(tab_inj f hf _ (tm_out g hg)).2 h2]; exact ⟨rfl, rfl⟩)
      rw [st2_off _ _ h1, st2_off _ _ h2]
      exact h f hf hS h1
  rw [st2_same hv] at h1
  exact h1
theorem rX_of {S : Nat → Bool} {g : Nat} {σ μ : TS} (h : RS S σ μ) : RX S g σ μ := fun e he hS _ => h e he hS
theorem a0 (x : Int32) : x + 0 = x := Int32.add_zero x
theorem vA_st {S : Nat → Bool} {σ ν μ : TS} {c : Nat} (hR : RS S σ ν) (hS : S c = true) (hc : c < 3) (hA : μ 10 c = 0 → 2 * cA μ c ≤ nOn μ) {x : Int32} (hx : ν 12 c = x) : RS S (tvc μ c σ) (st2 ν 12 c (x + fA μ c)) := by
  subst hx
  unfold tvc fA
  by_cases h : μ 10 c = 0
  · have h4 : σ (15 + 6 * c) 4 = ν 12 c := rS_c hR hS (tm_strikes c hc) (by omega) (by omega)
    rw [if_pos h, if_pos (hA h), if_pos h, h4]
    exact rS_up hR (tm_strikes c hc) rfl
  · rw [if_neg h, if_neg h, a0, st2_same rfl]
    exact hR
theorem vB0_st {S : Nat → Bool} {σ ν μ : TS} {c t : Nat} (hR : RS S σ ν) (hS : S c = true) (hc : c < 3) (hA : μ 10 c = 0 → (lb μ c t = true ↔ nOn μ < 2 * cA μ c)) (ht0 : μ 20 t = 0) {x : Int32} (hx : ν 12 c = x) : RS S (tvc μ c σ) (st2 ν 12 c (x + fB μ t c)) := by
  subst hx
  unfold tvc fB
  by_cases h : μ 10 c = 0
  · have h4 : σ (15 + 6 * c) 4 = ν 12 c := rS_c hR hS (tm_strikes c hc) (by omega) (by omega)
    by_cases hl : lb μ c t = true
    · have h20 : μ 20 c = 0 := (of_decide_eq_true hl).1.trans ht0
      rw [if_pos h, if_neg (by have := (hA h).mp hl; omega), if_pos h20, if_neg (fun g => g.2 hl), a0, st2_same rfl]
      exact hR
    · rw [if_pos h, if_pos (by have hg' : ¬ nOn μ < 2 * cA μ c := fun g => hl ((hA h).mpr g); omega), if_pos ⟨h, hl⟩, h4]
      exact rS_up hR (tm_strikes c hc) rfl
  · rw [if_neg h, if_neg (fun g => h g.1), a0, st2_same rfl]
    exact hR
theorem vB_st {S : Nat → Bool} {σ ν μ : TS} {c t g : Nat} (hR : RX S g σ ν) (hS : S c = true) (hc : c < 3) (hA : μ 10 c = 0 → (lb μ c t = true ↔ nOn μ < 2 * cA μ c)) (ht0 : ¬ μ 20 t = 0) (hg : (μ 20 t - 1).toNatClampNeg = g) {x : Int32} (hx : ν 12 c = x) : RX S g (tvc μ c σ) (st2 ν 12 c (x + fB μ t c)) ∧ (μ 10 c = 0 → lb μ c t = true → tvc μ c σ 9 g = μ 21 t) ∧ (σ 9 g = μ 21 t → tvc μ c σ 9 g = μ 21 t) := by
  subst hx
  unfold tvc fB
  by_cases h : μ 10 c = 0
  · have h4 : σ (15 + 6 * c) 4 = ν 12 c := hR _ (tm_strikes c hc) (by rw [lab_n (c := c) (by omega) (by omega)]; exact hS) (by simp only; omega)
    by_cases hl : lb μ c t = true
    · have hl2 := of_decide_eq_true hl
      have h20 : ¬ μ 20 c = 0 := fun h0 => ht0 (hl2.1.symm.trans h0)
      have h21 : μ 21 c = μ 21 t := hl2.2.elim (fun h0 => absurd h0 h20) id
      rw [if_pos h, if_neg (by have := (hA h).mp hl; omega), if_neg h20, if_neg (fun g => g.2 hl), a0, st2_same (σ := ν) rfl, hl2.1, hg, h21, st2_eq]
      exact ⟨rX_h hR _, fun _ _ => rfl, fun _ => rfl⟩
    · rw [if_pos h, if_pos (by have hg' : ¬ nOn μ < 2 * cA μ c := fun g => hl ((hA h).mpr g); omega), if_pos ⟨h, hl⟩, h4, st2_ne _ _ _ (show 9 ≠ 15 + 6 * c by omega)]
      exact ⟨rX_up hR (tm_strikes c hc) rfl, fun _ h2 => absurd h2 hl, id⟩
  · rw [if_neg h, if_neg (fun g => h g.1), a0, st2_same (σ := ν) rfl]
    exact ⟨hR, fun h2 => absurd h2 h, id⟩
theorem tvc_fr (μ : TS) (c : Nat) (σ : TS) {k : Nat} (h : k ≠ 9 ∧ k ≠ 15 + 6 * c) : tvc μ c σ k = σ k := by
  unfold tvc
  repeat' split
  all_goals simp (disch := omega) only [st2_ne]
theorem tvc_j (μ : TS) (c : Nat) (σ : TS) {k j : Nat} (h : k ≠ 9 ∧ (j ≠ 4 ∨ k ≠ 15 + 6 * c)) : tvc μ c σ k j = σ k j := by
  unfold tvc
  repeat' split
  all_goals simp (disch := omega) only [st2_off]
/-- what the vote leaves, ahead of the shutting off -/
theorem vote_m {S : Nat → Bool} {n N : Nat} {σ μ : TS} (h : RI S n N σ μ) (hsk : SK μ) (hS : ∀ c, c < 3 → S c = true) (hg : ∀ c, c < 3 → μ 10 c = 0 → GC c σ μ) :
    ∃ u v, sX8_vote σ = some (0, u) ∧ sX9_vote μ = sX9_vote_171 v ∧ RI S n N u v ∧ (∀ k, k ≠ 9 ∧ (k < 15 ∨ 33 ≤ k) → u k = σ k) ∧ (∀ k, k ≠ 12 ∧ k ≠ 22 → v k = μ k) := by
  obtain ⟨hR, hI, hT⟩ := h
  have hB := ic_B hI
  have hv : VH σ μ := by
    refine ⟨fun c hc => ?_, fun c hc h10 => ⟨hg c hc h10, rS_c hR (hS c hc) (tm_val c (by omega)) (by omega) (by omega)⟩⟩
    have t6 : σ (15 + 6 * c) 6 = 1 - μ 10 c := rS_c hR (hS c hc) (tm_off c (by omega)) (by omega) (by omega)
    have hb := hB 10 c
    rw [t6]
    rcases i32_z hb.1 hb.2 with h0 | h0
    · rw [h0]
      exact ⟨fun h => absurd h (by decide), fun h => absurd rfl h⟩
    · rw [h0]
      exact ⟨fun _ => by decide, fun _ => by decide⟩
  have hu : ∀ k, k ≠ 9 ∧ (k < 15 ∨ 33 ≤ k) → tvc μ 2 (tvc μ 1 (tvc μ 0 σ)) k = σ k := fun k hk => by
    rw [tvc_fr _ _ _ (by omega), tvc_fr _ _ _ (by omega), tvc_fr _ _ _ (by omega)]
  have huT : ∀ k j, tieT k j → tvc μ 2 (tvc μ 1 (tvc μ 0 σ)) k j = σ k j := fun k j hk => by
    unfold tieT at hk
    rw [tvc_j _ _ _ (by omega), tvc_j _ _ _ (by omega), tvc_j _ _ _ (by omega)]
  have hbS : ∀ f : Nat → Int32, (∀ c, f c = 0 ∨ (f c = 1 ∧ μ 10 c = 0)) → InvB (mS f μ) := fun f hf => by
    have h1 : ∀ c, c < 3 → (bd 12).1 ≤ (μ 12 c + f c).toInt ∧ (μ 12 c + f c).toInt ≤ (bd 12).2 := fun c hc => by
      have hb := hB 12 c
      have hb' : 0 ≤ (μ 12 c).toInt ∧ (μ 12 c).toInt ≤ 3 := hb
      rcases hf c with h0 | ⟨h0, h10⟩
      · rw [h0, a0]
        exact hb
      · have h2 := hsk c hc h10
        have e1 : (1 : Int32).toInt = 1 := by decide
        rw [h0, fb_addI (by rw [e1]; omega) (by rw [e1]; omega), e1]
        show (0 : Int) ≤ _ ∧ _ ≤ (3 : Int)
        omega
    unfold mS
    exact iB_up (k := 12) (iB_up (k := 12) (iB_up (k := 12) hB (h1 0 (by decide))) (h1 1 (by decide))) (h1 2 (by decide))
  have hA0 : ∀ c, fA μ c = 0 ∨ (fA μ c = 1 ∧ μ 10 c = 0) := fun c => by
    unfold fA
    by_cases h : μ 10 c = 0
    · rw [if_pos h]
      exact Or.inr ⟨rfl, h⟩
    · rw [if_neg h]
      exact Or.inl rfl
  have hB0 : ∀ t c, fB μ t c = 0 ∨ (fB μ t c = 1 ∧ μ 10 c = 0) := fun t c => by
    unfold fB
    by_cases h : μ 10 c = 0 ∧ ¬ lb μ c t = true
    · rw [if_pos h]
      exact Or.inr ⟨rfl, h.1⟩
    · rw [if_neg h]
      exact Or.inl rfl
  rcases vkey μ with ⟨h1, h2⟩ | ⟨t, ht, h1, h10, h2⟩
  · refine ⟨_, mS (fA μ) μ, t_vote hv hB, m_vA h1, ⟨?_, ?_, ?_⟩, hu, fun k hk => ?_⟩
    · exact vA_st (vA_st (vA_st hR (hS 0 (by decide)) (by decide) (h2 0 (by decide)) rfl) (hS 1 (by decide)) (by decide) (h2 1 (by decide)) rfl) (hS 2 (by decide)) (by decide) (h2 2 (by decide)) rfl
    · exact ic_same hI rfl rfl rfl rfl rfl rfl rfl rfl rfl (ic_P hI).2.2 (hbS _ hA0)
    · exact it_same hT huT rfl rfl rfl rfl rfl rfl
    · unfold mS
      rw [st2_ne _ _ _ hk.1, st2_ne _ _ _ hk.1, st2_ne _ _ _ hk.1]
  · by_cases ht0 : μ 20 t = 0
    · refine ⟨_, mS (fB μ t) μ, t_vote hv hB, by rw [m_vB ht h1 hB, if_pos ht0], ⟨?_, ?_, ?_⟩, hu, fun k hk => ?_⟩
      · exact vB0_st (vB0_st (vB0_st hR (hS 0 (by decide)) (by decide) (h2 0 (by decide)) ht0 rfl) (hS 1 (by decide)) (by decide) (h2 1 (by decide)) ht0 rfl) (hS 2 (by decide)) (by decide) (h2 2 (by decide)) ht0 rfl
      · exact ic_same hI rfl rfl rfl rfl rfl rfl rfl rfl rfl (ic_P hI).2.2 (hbS _ (hB0 t))
      · exact it_same hT huT rfl rfl rfl rfl rfl rfl
      · unfold mS
        rw [st2_ne _ _ _ hk.1, st2_ne _ _ _ hk.1, st2_ne _ _ _ hk.1]
    · have hg4 : (μ 20 t - 1).toNatClampNeg < 4 := by
        obtain ⟨g, hg, he⟩ := b_nI hB 20 t (n := 4) rfl
        obtain ⟨g', rfl⟩ : ∃ g', g = g' + 1 := ⟨g - 1, by
          have : g ≠ 0 := fun h0 => ht0 (by rw [he, h0]; rfl)
          omega⟩
        rw [he, nI_pred, nI_clamp (by omega)]
        omega
      obtain ⟨r0, p0, q0⟩ := vB_st (c := 0) (t := t) (rX_of hR) (hS 0 (by decide)) (by decide) (h2 0 (by decide)) ht0 rfl rfl
      obtain ⟨r1, p1, q1⟩ := vB_st (c := 1) (t := t) r0 (hS 1 (by decide)) (by decide) (h2 1 (by decide)) ht0 rfl rfl
      obtain ⟨r2, p2, q2⟩ := vB_st (c := 2) (t := t) r1 (hS 2 (by decide)) (by decide) (h2 2 (by decide)) ht0 rfl rfl
      have hfin : tvc μ 2 (tvc μ 1 (tvc μ 0 σ)) 9 ((μ 20 t - 1).toNatClampNeg) = μ 21 t := by
        rcases (show t = 0 ∨ t = 1 ∨ t = 2 by omega) with rfl | rfl | rfl
        · exact q2 (q1 (p0 h10 (lb_refl μ 0)))
        · exact q2 (p1 h10 (lb_refl μ 1))
        · exact p2 h10 (lb_refl μ 2)
      refine ⟨_, st2 (mS (fB μ t) μ) 22 ((μ 20 t - 1).toNatClampNeg) (μ 21 t), t_vote hv hB, by rw [m_vB ht h1 hB, if_neg ht0], ⟨?_, ?_, ?_⟩, hu, fun k hk => ?_⟩
      · exact rX_fin hg4 r2 hfin
      · exact ic_same hI rfl rfl rfl rfl rfl rfl rfl rfl rfl (ic_P hI).2.2 (iB_up (k := 22) (hbS _ (hB0 t)) (hB 21 t))
      · exact it_same hT huT rfl rfl rfl rfl rfl rfl
      · unfold mS
        rw [st2_ne _ _ _ hk.2, st2_ne _ _ _ hk.1, st2_ne _ _ _ hk.1, st2_ne _ _ _ hk.1]

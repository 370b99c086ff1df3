/-! ===== the vote ===== -/
def ob (μ : TS) (c : Nat) : Bool := decide (μ 10 c = 0)
def lb (μ : TS) (c d : Nat) : Bool := decide (μ 20 c = μ 20 d ∧ (μ 20 c = 0 ∨ μ 21 c = μ 21 d))
def bsel (b0 b1 b2 : Bool) (c : Nat) : Bool := if c = 0 then b0 else if c = 1 then b1 else b2
def lsel (l01 l02 l12 : Bool) (c d : Nat) : Bool := if c = d then true else if c + d = 1 then l01 else if c + d = 2 then l02 else l12
def vN (b0 b1 b2 : Bool) : Nat := b0.toNat + b1.toNat + b2.toNat
def vA (b0 b1 b2 l01 l02 l12 : Bool) (c : Nat) : Nat := (b0 && lsel l01 l02 l12 0 c).toNat + (b1 && lsel l01 l02 l12 1 c).toNat + (b2 && lsel l01 l02 l12 2 c).toNat
def vX (b0 b1 b2 : Bool) : Int32 := if vN b0 b1 b2 = 1 then (if b0 then nI 0 else if b1 then nI 1 else if b2 then nI 2 else -1) else -1
def vS (c : Nat) (b : Bool) (x : Int32) : Int32 := if b then nI c else x
def vT (b0 b1 b2 l01 l02 l12 : Bool) : Int32 := vS 2 (b2 && b1 && l12) (vS 2 (b2 && b0 && l02) (vS 1 (b1 && b2 && l12) (vS 1 (b1 && b0 && l01) (vS 0 (b0 && b2 && l02) (vS 0 (b0 && b1 && l01) (vX b0 b1 b2))))))
theorem vk : ∀ b0 b1 b2 l01 l02 l12 : Bool, ((l01 = true → l12 = true → l02 = true) ∧ (l01 = true → l02 = true → l12 = true) ∧ (l02 = true → l12 = true → l01 = true)) → ((vT b0 b1 b2 l01 l02 l12 = -1 ∧ ∀ c, c < 3 → bsel b0 b1 b2 c = true → 2 * vA b0 b1 b2 l01 l02 l12 c ≤ vN b0 b1 b2) ∨ ∃ t, t < 3 ∧ vT b0 b1 b2 l01 l02 l12 = nI t ∧ bsel b0 b1 b2 t = true ∧ ∀ c, c < 3 → bsel b0 b1 b2 c = true → (lsel l01 l02 l12 c t = true ↔ vN b0 b1 b2 < 2 * vA b0 b1 b2 l01 l02 l12 c)) := by decide +kernel
theorem lb_sym (μ : TS) (c d : Nat) : lb μ c d = lb μ d c := by
  unfold lb
  apply decide_eq_decide.mpr
  constructor
  · rintro ⟨h1, h2⟩
    exact ⟨h1.symm, h2.elim (fun h => Or.inl (h1.symm.trans h)) (fun h => Or.inr h.symm)⟩
  · rintro ⟨h1, h2⟩
    exact ⟨h1.symm, h2.elim (fun h => Or.inl (h1.symm.trans h)) (fun h => Or.inr h.symm)⟩
theorem lb_refl (μ : TS) (c : Nat) : lb μ c c = true := decide_eq_true ⟨rfl, Or.inr rfl⟩
theorem lb_trans {μ : TS} {c d e : Nat} (h1 : lb μ c d = true) (h2 : lb μ d e = true) : lb μ c e = true := by
  have g1 := of_decide_eq_true h1
  have g2 := of_decide_eq_true h2
  refine decide_eq_true ⟨g1.1.trans g2.1, ?_⟩
  rcases g1.2 with h | h
  · exact Or.inl h
  · rcases g2.2 with h' | h'
    · exact Or.inl (g1.1.trans h')
    · exact Or.inr (h.trans h')
theorem lb_sel (μ : TS) {c d : Nat} (hc : c < 3) (hd : d < 3) : lb μ c d = lsel (lb μ 0 1) (lb μ 0 2) (lb μ 1 2) c d := by
  rcases (show c = 0 ∨ c = 1 ∨ c = 2 by omega) with rfl | rfl | rfl <;> rcases (show d = 0 ∨ d = 1 ∨ d = 2 by omega) with rfl | rfl | rfl
  · exact lb_refl μ 0
  · rfl
  · rfl
  · exact lb_sym μ 1 0
  · exact lb_refl μ 1
  · rfl
  · exact lb_sym μ 2 0
  · exact lb_sym μ 2 1
  · exact lb_refl μ 2
theorem ob_sel (μ : TS) {c : Nat} (hc : c < 3) : ob μ c = bsel (ob μ 0) (ob μ 1) (ob μ 2) c := by
  rcases (show c = 0 ∨ c = 1 ∨ c = 2 by omega) with rfl | rfl | rfl <;> rfl
def nOn (μ : TS) : Nat := vN (ob μ 0) (ob μ 1) (ob μ 2)
def cA (μ : TS) (c : Nat) : Nat := (ob μ 0 && lb μ 0 c).toNat + (ob μ 1 && lb μ 1 c).toNat + (ob μ 2 && lb μ 2 c).toNat
def tk (μ : TS) : Int32 := vT (ob μ 0) (ob μ 1) (ob μ 2) (lb μ 0 1) (lb μ 0 2) (lb μ 1 2)
theorem vkey (μ : TS) : (tk μ = -1 ∧ ∀ c, c < 3 → μ 10 c = 0 → 2 * cA μ c ≤ nOn μ) ∨ ∃ t, t < 3 ∧ tk μ = nI t ∧ μ 10 t = 0 ∧ ∀ c, c < 3 → μ 10 c = 0 → (lb μ c t = true ↔ nOn μ < 2 * cA μ c) := by
  have hcA : ∀ c, c < 3 → cA μ c = vA (ob μ 0) (ob μ 1) (ob μ 2) (lb μ 0 1) (lb μ 0 2) (lb μ 1 2) c := fun c hc => by
    unfold cA vA
    rw [lb_sel μ (show 0 < 3 by decide) hc, lb_sel μ (show 1 < 3 by decide) hc, lb_sel μ (show 2 < 3 by decide) hc]
  have hon : ∀ c, c < 3 → μ 10 c = 0 → bsel (ob μ 0) (ob μ 1) (ob μ 2) c = true := fun c hc h => by
    rw [← ob_sel μ hc]
    exact decide_eq_true h
  rcases vk (ob μ 0) (ob μ 1) (ob μ 2) (lb μ 0 1) (lb μ 0 2) (lb μ 1 2) ⟨fun a b => lb_trans a b, fun a b => lb_trans ((lb_sym μ 1 0).trans a) b, fun a b => lb_trans a ((lb_sym μ 2 1).trans b)⟩ with ⟨h1, h2⟩ | ⟨t, ht, h1, h2, h3⟩
  · refine Or.inl ⟨h1, fun c hc h10 => ?_⟩
    rw [hcA c hc]
    exact h2 c hc (hon c hc h10)
  · refine Or.inr ⟨t, ht, h1, ?_, fun c hc h10 => ?_⟩
    · rw [← ob_sel μ ht] at h2
      exact of_decide_eq_true h2
    · rw [hcA c hc, lb_sel μ hc ht]
      exact h3 c hc (hon c hc h10)
/-! how many are on -/
theorem ob_f {μ : TS} {c : Nat} (h : ¬ μ 10 c = 0) : ob μ c = false := decide_eq_false h
theorem ob_t {μ : TS} {c : Nat} (h : μ 10 c = 0) : ob μ c = true := decide_eq_true h
theorem m_on_st (μ : TS) (K a : Nat) {c : Nat} (hc : c < 3) : sX9_on_4 (K + 1) (nI a) (nI c) μ = sX9_on_4 K (nI (a + (ob μ c).toNat)) (nI (c + 1)) μ := by
  have h1 : sX9_on_4 (K + 1) (nI a) (nI c) μ = (if ((3 : Int32)) ≤ nI c then some (nI a, μ) else (if vin (nI c) 4 = true then (if (μ 10 ((nI c).toNatClampNeg)) = 0 then sX9_on_24 (sX9_on_4 K) (nI c) (nI a) ((1 : Int32)) μ else sX9_on_24 (sX9_on_4 K) (nI c) (nI a) ((0 : Int32)) μ) else none)) := rfl
  rw [h1, if_neg (show ¬ (3 : Int32) ≤ nI c from nI_ge (b := 3) hc (by decide)), if_pos (vin_nI (show c < 4 by omega) (by decide)), nI_clamp (show c < 2 ^ 31 by omega)]
  unfold sX9_on_24
  by_cases h : μ 10 c = 0
  · rw [if_pos h, ob_t h, nI_1, nI_1]
    rfl
  · rw [if_neg h, ob_f h, Int32.add_zero, nI_1]
    rfl
theorem m_on (μ : TS) : sX9_on μ = some (nI (nOn μ), μ) := by
  have h : sX9_on μ = sX9_on_4 4 (nI 0) (nI 0) μ := rfl
  rw [h, m_on_st μ 3 0 (show 0 < 3 by decide), m_on_st μ 2 _ (show 1 < 3 by decide), m_on_st μ 1 _ (show 2 < 3 by decide), Nat.zero_add]
  rfl
/-- the class's flags and gifts as the reference has them -/
def VH (σ μ : TS) : Prop := (∀ c, c < 3 → (σ (15 + 6 * c) 6 = 0 ↔ ¬ μ 10 c = 0)) ∧ (∀ c, c < 3 → μ 10 c = 0 → σ (15 + 6 * c) 12 = μ 20 c - 1 ∧ σ (15 + 6 * c) 13 = μ 21 c)
theorem t_on_st {σ μ : TS} (hv : ∀ c, c < 3 → (σ (15 + 6 * c) 6 = 0 ↔ ¬ μ 10 c = 0)) (K a : Nat) {c : Nat} (hc : c < 3) : sX8_countOn_4 (K + 1) (nI a) (nI c) σ = sX8_countOn_4 K (nI (a + (ob μ c).toNat)) (nI (c + 1)) σ := by
  have h1 : sX8_countOn_4 (K + 1) (nI a) (nI c) σ = (if ((3 : Int32)) ≤ nI c then some (nI a, σ) else (if vin (nI c) 3 = true then (if (σ (15+6*((nI c).toNatClampNeg)) 6) = 0 then sX8_countOn_24 (sX8_countOn_4 K) (nI a) (nI c) σ else sX8_countOn_24 (sX8_countOn_4 K) (nI a + (1 : Int32)) (nI c) σ) else none)) := rfl
  rw [h1, if_neg (show ¬ (3 : Int32) ≤ nI c from nI_ge (b := 3) hc (by decide)), if_pos (vin_nI hc (by decide)), nI_clamp (show c < 2 ^ 31 by omega)]
  unfold sX8_countOn_24
  by_cases h : μ 10 c = 0
  · rw [if_neg (fun h2 => (hv c hc).mp h2 h), ob_t h, nI_1, nI_1]
    rfl
  · rw [if_pos ((hv c hc).mpr h), ob_f h, nI_1]
    rfl
theorem t_on {σ μ : TS} (hv : ∀ c, c < 3 → (σ (15 + 6 * c) 6 = 0 ↔ ¬ μ 10 c = 0)) : sX8_countOn σ = some (nI (nOn μ), σ) := by
  have h : sX8_countOn σ = sX8_countOn_4 4 (nI 0) (nI 0) σ := rfl
  rw [h, t_on_st hv 3 0 (show 0 < 3 by decide), t_on_st hv 2 _ (show 1 < 3 by decide), t_on_st hv 1 _ (show 2 < 3 by decide), Nat.zero_add]
  rfl
theorem t_gives {σ μ : TS} (hv : VH σ μ) {c d : Nat} (hc : c < 3) (hd : d < 3) (h1 : μ 10 c = 0) (h2 : μ 10 d = 0) : sX1_givesLike c d σ = some (if lb μ c d = true then 1 else 0, σ) := by
  obtain ⟨a1, a2⟩ := hv.2 c hc h1
  obtain ⟨b1, b2⟩ := hv.2 d hd h2
  have e1 : (μ 20 c - 1 = μ 20 d - 1) ↔ μ 20 c = μ 20 d := by
    constructor
    · intro h
      have h' := congrArg (· + 1) h
      simp only [Int32.sub_add_cancel] at h'
      exact h'
    · intro h
      rw [h]
  have e2 : (μ 20 c - 1 = -1) ↔ μ 20 c = 0 := by
    constructor
    · intro h
      have h' := congrArg (· + 1) h
      simp only [Int32.sub_add_cancel] at h'
      exact h'
    · intro h
      rw [h]
      rfl
  unfold sX1_givesLike sX1_givesLike_0 sX1_givesLike_32 sX1_givesLike_37 lb
  rw [a1, a2, b1, b2]
  by_cases g1 : μ 20 c = μ 20 d
  · rw [if_pos (e1.mpr g1)]
    by_cases g2 : μ 20 c = 0
    · rw [if_pos (e2.mpr g2), if_pos zok1, if_pos (decide_eq_true ⟨g1, Or.inl g2⟩)]
    · rw [if_neg (fun h => g2 (e2.mp h))]
      by_cases g3 : μ 21 c = μ 21 d
      · rw [if_pos g3, if_pos zok1, if_pos (decide_eq_true ⟨g1, Or.inr g3⟩)]
      · rw [if_neg g3, if_pos zok0, if_neg (fun h => (of_decide_eq_true h).2.elim g2 g3)]
  · rw [if_neg (fun h => g1 (e1.mp h)), if_neg (fun h => g1 (of_decide_eq_true h).1)]
theorem t_cA_st {σ μ : TS} (hv : VH σ μ) {c : Nat} (hc : c < 3) (h10 : μ 10 c = 0) (K a : Nat) {i : Nat} (hi : i < 3) : sX8_countAlike_4 (K + 1) c (nI a) (nI i) σ = sX8_countAlike_4 K c (nI (a + (ob μ i && lb μ i c).toNat)) (nI (i + 1)) σ := by
  have h1 : sX8_countAlike_4 (K + 1) c (nI a) (nI i) σ = (if ((3 : Int32)) ≤ nI i then some (nI a, σ) else (if vin (nI i) 3 = true then (if (σ (15+6*((nI i).toNatClampNeg)) 6) = 0 then sX8_countAlike_37 (sX8_countAlike_4 K) c (nI a) (nI i) σ else ((sX1_givesLike ((nI i).toNatClampNeg) c σ).bind (fun z => sX8_countAlike_31 (sX8_countAlike_4 K) c (nI a) (nI i) z.1 z.2))) else none)) := rfl
  rw [h1, if_neg (show ¬ (3 : Int32) ≤ nI i from nI_ge (b := 3) hi (by decide)), if_pos (vin_nI hi (by decide)), nI_clamp (show i < 2 ^ 31 by omega)]
  unfold sX8_countAlike_31 sX8_countAlike_37
  by_cases h : μ 10 i = 0
  · rw [if_neg (fun h2 => (hv.1 i hi).mp h2 h), ob_t h, t_gives hv hi hc h h10, Option.bind_some]
    by_cases hl : lb μ i c = true
    · rw [if_pos hl, if_neg (show ¬ (1 : Int32) = 0 by decide), hl, nI_1, nI_1]
      rfl
    · rw [if_neg hl, if_pos rfl, Bool.eq_false_iff.mpr hl, nI_1]
      rfl
  · rw [if_pos ((hv.1 i hi).mpr h), ob_f h, nI_1]
    rfl
theorem t_cA {σ μ : TS} (hv : VH σ μ) {c : Nat} (hc : c < 3) (h10 : μ 10 c = 0) : sX8_countAlike c σ = some (nI (cA μ c), σ) := by
  have h : sX8_countAlike c σ = sX8_countAlike_4 4 c (nI 0) (nI 0) σ := rfl
  rw [h, t_cA_st hv hc h10 3 0 (show 0 < 3 by decide), t_cA_st hv hc h10 2 _ (show 1 < 3 by decide), t_cA_st hv hc h10 1 _ (show 2 < 3 by decide), Nat.zero_add]
  rfl
/-- what the vote does for one computer, in the class -/
def tvc (μ : TS) (c : Nat) (σ : TS) : TS := if μ 10 c = 0 then (if 2 * cA μ c ≤ nOn μ then st2 σ (15 + 6 * c) 4 (σ (15 + 6 * c) 4 + 1) else (if μ 20 c = 0 then σ else st2 σ 9 ((μ 20 c - 1).toNatClampNeg) (μ 21 c))) else σ
theorem VH_tvc {σ μ : TS} (hv : VH σ μ) (d : Nat) : VH (tvc μ d σ) μ := by
  have e : ∀ c j, c < 3 → j ≠ 4 → tvc μ d σ (15 + 6 * c) j = σ (15 + 6 * c) j := fun c j hc hj => by
    unfold tvc
    split
    · split
      · by_cases hcd : c = d
        · subst hcd
          rw [st2_nj _ _ hj]
        · rw [st2_ne _ _ _ (by omega)]
      · split
        · rfl
        · rw [st2_ne _ _ _ (by omega)]
    · rfl
  refine ⟨fun c hc => ?_, fun c hc h10 => ?_⟩
  · rw [e c 6 hc (by decide)]
    exact hv.1 c hc
  · rw [e c 12 hc (by decide), e c 13 hc (by decide)]
    exact hv.2 c hc h10
theorem nOn_3 (μ : TS) : nOn μ ≤ 3 := by
  unfold nOn vN
  cases ob μ 0 <;> cases ob μ 1 <;> cases ob μ 2 <;> decide
theorem cA_3 (μ : TS) (c : Nat) : cA μ c ≤ 3 := by
  unfold cA
  cases (ob μ 0 && lb μ 0 c) <;> cases (ob μ 1 && lb μ 1 c) <;> cases (ob μ 2 && lb μ 2 c) <;> decide
theorem t_vote_st {σ μ : TS} (hv : VH σ μ) (hB : InvB μ) (K : Nat) {c : Nat} (hc : c < 3) : sX8_vote_7 (K + 1) (nI (nOn μ)) (nI c) σ = sX8_vote_7 K (nI (nOn μ)) (nI (c + 1)) (tvc μ c σ) := by
  have h1 : sX8_vote_7 (K + 1) (nI (nOn μ)) (nI c) σ = (if ((3 : Int32)) ≤ nI c then some (0, σ) else (if vin (nI c) 3 = true then (if (σ (15+6*((nI c).toNatClampNeg)) 6) = 0 then sX8_vote_71 (sX8_vote_7 K) (nI (nOn μ)) (nI c) σ else ((sX8_countAlike ((nI c).toNatClampNeg) σ).bind (fun z => sX8_vote_35 (sX8_vote_7 K) (nI (nOn μ)) (nI c) ((2 : Int32)) z.1 z.2))) else none)) := rfl
  rw [h1, if_neg (show ¬ (3 : Int32) ≤ nI c from nI_ge (b := 3) hc (by decide)), if_pos (vin_nI hc (by decide)), nI_clamp (show c < 2 ^ 31 by omega)]
  unfold tvc
  by_cases h : μ 10 c = 0
  · have h3 := nOn_3 μ
    have h4 := cA_3 μ c
    rw [if_neg (fun h2 => (hv.1 c hc).mp h2 h), t_cA hv hc h, Option.bind_some, if_pos h]
    unfold sX8_vote_35 sX8_vote_53 sX8_vote_71
    simp only
    rw [show (2 : Int32) * nI (cA μ c) = nI (2 * cA μ c) from pk_mul 2 _]
    by_cases h2 : 2 * cA μ c ≤ nOn μ
    · rw [if_pos (nI_le h2 (by omega)), if_pos h2, if_pos (vin_nI hc (by decide)), nI_clamp (show c < 2 ^ 31 by omega), nI_1]
    · rw [if_neg (nI_ge (by omega) (by omega)), if_neg h2, if_pos (vin_nI hc (by decide)), nI_clamp (show c < 2 ^ 31 by omega)]
      obtain ⟨a1, a2⟩ := hv.2 c hc h
      obtain ⟨g, hg, he⟩ := b_nI hB 20 c (n := 4) rfl
      unfold sX1_handTo sX1_handTo_0 sX1_handTo_18
      rw [a1, a2, he]
      by_cases hg0 : g = 0
      · subst hg0
        rw [if_pos (show nI 0 - 1 = -1 from rfl), if_pos (show nI 0 = 0 from rfl), Option.bind_some, nI_1]
      · obtain ⟨g', rfl⟩ : ∃ g', g = g' + 1 := ⟨g - 1, by omega⟩
        rw [nI_pred, if_neg (nI_ne_m1 (by omega)), if_neg (nI_ne0 (by omega) (by omega)), if_pos (vin_nI (show g' < 4 by omega) (by decide)), Option.bind_some, nI_1]
  · rw [if_pos ((hv.1 c hc).mpr h), if_neg h]
    unfold sX8_vote_71
    rw [nI_1]
theorem t_vote {σ μ : TS} (hv : VH σ μ) (hB : InvB μ) : sX8_vote σ = some (0, tvc μ 2 (tvc μ 1 (tvc μ 0 σ))) := by
  have h : sX8_vote σ = (sX8_countOn σ).bind (fun z => sX8_vote_7 4 z.1 (nI 0) z.2) := rfl
  rw [h, t_on hv.1, Option.bind_some, t_vote_st hv hB 3 (show 0 < 3 by decide), t_vote_st (VH_tvc hv 0) hB 2 (show 1 < 3 by decide), t_vote_st (VH_tvc (VH_tvc hv 0) 1) hB 1 (show 2 < 3 by decide)]
  rfl

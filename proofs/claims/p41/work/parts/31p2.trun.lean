/-! ===== the class alone: a beat ===== -/
def blk (c k : Nat) : Prop := 15 + 6 * c ≤ k ∧ k < 21 + 6 * c
theorem st2_loc {P : Nat → Prop} {ν σ : TS} (h : ∀ k, P k → ν k = σ k) {a : Nat} (b : Nat) (ha : P a) {v v' : Int32} (hv : v = v') : ∀ k, P k → st2 ν a b v k = st2 σ a b v' k := by
  intro k hk
  subst hv
  by_cases hka : k = a
  · subst hka
    rw [st2_at, st2_at, h _ ha]
  · rw [st2_ne _ _ _ hka, st2_ne _ _ _ hka]
    exact h k hk
theorem c_hand {σ : TS} {c a : Nat} (h : σ (15 + 6 * c) 12 = -1) : sX1_handTo c a σ = some (0, σ) := by
  unfold sX1_handTo sX1_handTo_0 sX1_handTo_18
  rw [if_pos h]
theorem c_hand1 {σ : TS} {c a g : Nat} (h : σ (15 + 6 * c) 12 = nI g) (hg : g < 4) : sX1_handTo c a σ = some (0, st2 σ (9 + a) g (σ (15 + 6 * c) 13)) := by
  unfold sX1_handTo sX1_handTo_0 sX1_handTo_18
  rw [h, if_neg (nI_ne_m1 (by omega)), if_pos (vin_nI hg (by decide)), nI_clamp (show g < 2 ^ 31 by omega)]
/-- what all do, one behind the other, each in its own cells alone -/
theorem c_do {σ : TS} {p : Nat} (E : Nat → TS → TS)
    (hE : ∀ c ν, c < 4 → (c < 3 → σ (15 + 6 * c) 6 ≠ 0) → (∀ k, blk c k ∨ k < 15 ∨ 39 ≤ k → ν k = σ k) → sX1_doNext c p (nI (6 * p)) ν = some (1, E c ν))
    (hloc : ∀ c ν, c < 4 → (∀ k, blk c k → ν k = σ k) → ∀ k, blk c k → E c ν k = E c σ k)
    (hfr : ∀ c ν k, c < 4 → ¬ blk c k → E c ν k = ν k) :
    ∃ u, sX8_doInstructions p (nI p) σ = ((sX1_handTo 3 1 u).bind (fun z => sX8_doInstructions_81 z.2)) ∧ (∀ c k, c < 4 → blk c k → u k = if c < 3 ∧ σ (15 + 6 * c) 6 = 0 then σ k else E c σ k) ∧ ∀ k, (k < 15 ∨ 39 ≤ k) → u k = σ k := by
  have hs : ∀ K c ν, c < 3 → (∀ k, blk c k ∨ k < 15 ∨ 39 ≤ k → ν k = σ k) → sX8_doInstructions_2 (K + 1) p (nI p) (nI c) ν = sX8_doInstructions_2 K p (nI p) (nI (c + 1)) (if c < 3 ∧ σ (15 + 6 * c) 6 = 0 then ν else E c ν) := fun K c ν hc hν => by
    have hd : ∀ (x : Int32), sX8_doInstructions_2 (K + 1) p (nI p) x ν = (if ((3 : Int32)) ≤ x then ((sX1_doNext 3 p (((6 : Int32)) * (nI p)) ν).bind (fun z => sX8_doInstructions_69 z.1 z.2)) else (if vin x 3 = true then (if (ν (15+6*(x.toNatClampNeg)) 6) = 0 then sX8_doInstructions_47 (sX8_doInstructions_2 K) p (nI p) x ν else ((sX1_doNext (x.toNatClampNeg) p (((6 : Int32)) * (nI p)) ν).bind (fun z => sX8_doInstructions_37 (sX8_doInstructions_2 K) p (nI p) x z.1 z.2))) else none)) := fun _ => rfl
    rw [hd, if_neg (show ¬ (3 : Int32) ≤ nI c from nI_ge (b := 3) hc (by decide)), if_pos (vin_nI hc (by decide)), nI_clamp (show c < 2 ^ 31 by omega), hν (15 + 6 * c) (Or.inl (by unfold blk; omega)), m6_nI]
    by_cases h6 : σ (15 + 6 * c) 6 = 0
    · rw [if_pos h6, if_pos ⟨hc, h6⟩]
      unfold sX8_doInstructions_47
      rw [nI_1]
    · rw [if_neg h6, if_neg (fun g => h6 g.2), hE c ν (by omega) (fun _ => h6) hν, Option.bind_some]
      unfold sX8_doInstructions_37 sX8_doInstructions_47
      rw [if_neg (show ¬ (1 : Int32) = 0 by decide), nI_1]
  have hF : ∀ c ν k, c < 4 → ¬ blk c k → (if c < 3 ∧ σ (15 + 6 * c) 6 = 0 then ν else E c ν) k = ν k := fun c ν k hc hk => by
    split
    · rfl
    · exact hfr c ν k hc hk
  have hL : ∀ c ν k, c < 4 → (∀ k, blk c k → ν k = σ k) → blk c k → (if c < 3 ∧ σ (15 + 6 * c) 6 = 0 then ν else E c ν) k = if c < 3 ∧ σ (15 + 6 * c) 6 = 0 then σ k else E c σ k := fun c ν k hc hν hk => by
    split
    · exact hν k hk
    · exact hloc c ν hc hν k hk
  obtain ⟨v0, e0⟩ : ∃ v, v = (if 0 < 3 ∧ σ (15 + 6 * 0) 6 = 0 then σ else E 0 σ) := ⟨_, rfl⟩
  obtain ⟨v1, e1⟩ : ∃ v, v = (if 1 < 3 ∧ σ (15 + 6 * 1) 6 = 0 then v0 else E 1 v0) := ⟨_, rfl⟩
  obtain ⟨v2, e2⟩ : ∃ v, v = (if 2 < 3 ∧ σ (15 + 6 * 2) 6 = 0 then v1 else E 2 v1) := ⟨_, rfl⟩
  have g0 : ∀ k, ¬ blk 0 k → v0 k = σ k := fun k hk => by rw [e0]; exact hF 0 σ k (by decide) hk
  have g1 : ∀ k, ¬ blk 0 k → ¬ blk 1 k → v1 k = σ k := fun k hk hk1 => by rw [e1, hF 1 v0 k (by decide) hk1]; exact g0 k hk
  have g2 : ∀ k, ¬ blk 0 k → ¬ blk 1 k → ¬ blk 2 k → v2 k = σ k := fun k hk hk1 hk2 => by rw [e2, hF 2 v1 k (by decide) hk2]; exact g1 k hk hk1
  have n1 : ∀ k, blk 1 k ∨ k < 15 ∨ 39 ≤ k → ¬ blk 0 k := fun k h => by unfold blk at *; omega
  have n2 : ∀ k, blk 2 k ∨ k < 15 ∨ 39 ≤ k → ¬ blk 0 k ∧ ¬ blk 1 k := fun k h => by unfold blk at *; omega
  have n3 : ∀ k, blk 3 k ∨ k < 15 ∨ 39 ≤ k → ¬ blk 0 k ∧ ¬ blk 1 k ∧ ¬ blk 2 k := fun k h => by unfold blk at *; omega
  refine ⟨E 3 v2, ?_, fun c k hc hk => ?_, fun k hk => ?_⟩
  · show sX8_doInstructions_2 4 p (nI p) (nI 0) σ = _
    rw [hs 3 0 σ (by decide) (fun _ _ => rfl), ← e0, hs 2 1 v0 (by decide) (fun k h => g0 k (n1 k h)), ← e1, hs 1 2 v1 (by decide) (fun k h => g1 k (n2 k h).1 (n2 k h).2), ← e2]
    have he : sX8_doInstructions_2 1 p (nI p) (nI (2 + 1)) v2 = ((sX1_doNext 3 p (((6 : Int32)) * (nI p)) v2).bind (fun z => sX8_doInstructions_69 z.1 z.2)) := if_pos (show (3 : Int32) ≤ nI (2 + 1) by decide)
    rw [he, m6_nI, hE 3 v2 (by decide) (fun h => absurd h (by decide)) (fun k h => g2 k (n3 k h).1 (n3 k h).2.1 (n3 k h).2.2), Option.bind_some]
    rfl
  · rcases (show c = 0 ∨ c = 1 ∨ c = 2 ∨ c = 3 by omega) with rfl | rfl | rfl | rfl
    · rw [hfr 3 v2 k (by decide) (by unfold blk at *; omega), e2, hF 2 v1 k (by decide) (by unfold blk at *; omega), e1, hF 1 v0 k (by decide) (by unfold blk at *; omega), e0]
      exact hL 0 σ k (by decide) (fun _ _ => rfl) hk
    · rw [hfr 3 v2 k (by decide) (by unfold blk at *; omega), e2, hF 2 v1 k (by decide) (by unfold blk at *; omega), e1]
      exact hL 1 v0 k (by decide) (fun k h => g0 k (n1 k (Or.inl h))) hk
    · rw [hfr 3 v2 k (by decide) (by unfold blk at *; omega), e2]
      exact hL 2 v1 k (by decide) (fun k h => g1 k (n2 k (Or.inl h)).1 (n2 k (Or.inl h)).2) hk
    · rw [if_neg (fun g => absurd g.1 (by decide))]
      exact hloc 3 v2 (by decide) (fun k h => g2 k (n3 k (Or.inl h)).1 (n3 k (Or.inl h)).2.1 (n3 k (Or.inl h)).2.2) k hk
  · rw [hfr 3 v2 k (by decide) (by unfold blk; omega)]
    exact g2 k (n3 k (Or.inr hk)).1 (n3 k (Or.inr hk)).2.1 (n3 k (Or.inr hk)).2.2
/-! the vote -/
theorem c_alike_st {σ : TS} {c : Nat} (f : Nat → Bool) (K a : Nat) {i : Nat} (hi : i < 3) (h : σ (15 + 6 * i) 6 ≠ 0 → sX1_givesLike i c σ = some (if f i = true then 1 else 0, σ)) : sX8_countAlike_4 (K + 1) c (nI a) (nI i) σ = sX8_countAlike_4 K c (nI (a + (if σ (15 + 6 * i) 6 = 0 then 0 else (f i).toNat))) (nI (i + 1)) σ := by
  have hd : ∀ (x y : Int32), sX8_countAlike_4 (K + 1) c x y σ = (if ((3 : Int32)) ≤ y then some (x, σ) else (if vin y 3 = true then (if (σ (15+6*(y.toNatClampNeg)) 6) = 0 then sX8_countAlike_37 (sX8_countAlike_4 K) c x y σ else ((sX1_givesLike (y.toNatClampNeg) c σ).bind (fun z => sX8_countAlike_31 (sX8_countAlike_4 K) c x y z.1 z.2))) else none)) := fun _ _ => rfl
  rw [hd, if_neg (show ¬ (3 : Int32) ≤ nI i from nI_ge (b := 3) hi (by decide)), if_pos (vin_nI hi (by decide)), nI_clamp (show i < 2 ^ 31 by omega)]
  by_cases h6 : σ (15 + 6 * i) 6 = 0
  · rw [if_pos h6, if_pos h6]
    unfold sX8_countAlike_37
    rw [nI_1]
    rfl
  · rw [if_neg h6, if_neg h6, h h6, Option.bind_some]
    unfold sX8_countAlike_31 sX8_countAlike_37
    cases f i with
    | true => rw [if_pos rfl, if_neg (show ¬ (1 : Int32) = 0 by decide), nI_1, nI_1]; rfl
    | false => rw [if_neg (show ¬ false = true by decide), if_pos rfl, nI_1]; rfl
theorem c_alike {σ : TS} {c : Nat} (f : Nat → Bool) (h : ∀ i, i < 3 → σ (15 + 6 * i) 6 ≠ 0 → sX1_givesLike i c σ = some (if f i = true then 1 else 0, σ)) : sX8_countAlike c σ = some (nI (0 + (if σ (15 + 6 * 0) 6 = 0 then 0 else (f 0).toNat) + (if σ (15 + 6 * 1) 6 = 0 then 0 else (f 1).toNat) + (if σ (15 + 6 * 2) 6 = 0 then 0 else (f 2).toNat)), σ) := by
  have h0 : sX8_countAlike c σ = sX8_countAlike_4 4 c (nI 0) (nI 0) σ := rfl
  rw [h0, c_alike_st f 3 0 (show 0 < 3 by decide) (h 0 (by decide)), c_alike_st f 2 _ (show 1 < 3 by decide) (h 1 (by decide)), c_alike_st f 1 _ (show 2 < 3 by decide) (h 2 (by decide))]
  exact if_pos (show (3 : Int32) ≤ nI (2 + 1) by decide)
theorem c_like {σ : TS} {c d : Nat} {b : Bool} (hb : b = true ↔ (σ (15 + 6 * c) 12 = σ (15 + 6 * d) 12 ∧ (σ (15 + 6 * c) 12 = -1 ∨ σ (15 + 6 * c) 13 = σ (15 + 6 * d) 13))) : sX1_givesLike c d σ = some (if b = true then 1 else 0, σ) := by
  unfold sX1_givesLike sX1_givesLike_0 sX1_givesLike_32 sX1_givesLike_37
  by_cases h1 : σ (15 + 6 * c) 12 = σ (15 + 6 * d) 12
  · rw [if_pos h1]
    by_cases h2 : σ (15 + 6 * c) 12 = -1
    · rw [if_pos h2, if_pos (hb.mpr ⟨h1, Or.inl h2⟩)]
      rfl
    · rw [if_neg h2]
      by_cases h3 : σ (15 + 6 * c) 13 = σ (15 + 6 * d) 13
      · rw [if_pos h3, if_pos (hb.mpr ⟨h1, Or.inr h3⟩)]
        rfl
      · rw [if_neg h3, if_neg (fun g => (hb.mp g).2.elim h2 h3)]
        rfl
  · rw [if_neg h1, if_neg (fun g => h1 (hb.mp g).1)]
theorem v_def (K : Nat) (x y : Int32) (σ : TS) : sX8_vote_7 (K + 1) x y σ = (if ((3 : Int32)) ≤ y then some (0, σ) else (if vin y 3 = true then (if (σ (15+6*(y.toNatClampNeg)) 6) = 0 then sX8_vote_71 (sX8_vote_7 K) x y σ else ((sX8_countAlike (y.toNatClampNeg) σ).bind (fun z => sX8_vote_35 (sX8_vote_7 K) x y ((2 : Int32)) z.1 z.2))) else none)) := rfl
/-- nothing is given: nothing changes -/
theorem c_vA {σ : TS} (h : ∀ c, c < 3 → σ (15 + 6 * c) 6 ≠ 0 → σ (15 + 6 * c) 12 = -1) : sX8_vote σ = some (0, σ) := by
  have hl := onb_le σ
  have hs : ∀ K c, c < 3 → sX8_vote_7 (K + 1) (nI (onb σ)) (nI c) σ = sX8_vote_7 K (nI (onb σ)) (nI (c + 1)) σ := fun K c hc => by
    rw [v_def, if_neg (show ¬ (3 : Int32) ≤ nI c from nI_ge (b := 3) hc (by decide)), if_pos (vin_nI hc (by decide)), nI_clamp (show c < 2 ^ 31 by omega)]
    by_cases h6 : σ (15 + 6 * c) 6 = 0
    · rw [if_pos h6]
      unfold sX8_vote_71
      rw [nI_1]
    · have hp := onb_pos hc h6
      have ha : sX8_countAlike c σ = some (nI (onb σ), σ) := c_alike (fun _ => true) fun i hi h6i => c_like (b := true) ⟨fun _ => ⟨(h i hi h6i).trans (h c hc h6).symm, Or.inl (h i hi h6i)⟩, fun _ => rfl⟩
      rw [if_neg h6, ha, Option.bind_some]
      unfold sX8_vote_35 sX8_vote_53 sX8_vote_71
      rw [show (2 : Int32) = nI 2 from rfl, pk_mul, if_neg (nI_ge (show onb σ < 2 * onb σ by omega) (by omega)), if_pos (vin_nI hc (by decide)), nI_clamp (show c < 2 ^ 31 by omega), c_hand (h c hc h6), Option.bind_some, nI_1]
  have h0 : sX8_vote σ = ((sX8_countOn σ).bind (fun z => sX8_vote_4 z.1 z.2)) := rfl
  rw [h0, c_on, Option.bind_some]
  show sX8_vote_7 4 (nI (onb σ)) (nI 0) σ = _
  rw [hs 3 0 (by decide), hs 2 1 (by decide), hs 1 2 (by decide)]
  exact if_pos (show (3 : Int32) ≤ nI (2 + 1) by decide)
/-- three give to the output g, all n but perhaps w -/
theorem c_vB {σ : TS} {w g : Nat} {n : Int32} (hw : w < 3) (hg : g < 4) (hon : ∀ c, c < 3 → σ (15 + 6 * c) 6 ≠ 0) (h12 : ∀ c, c < 3 → σ (15 + 6 * c) 12 = nI g) (hx : ∀ c, c < 3 → c ≠ w → σ (15 + 6 * c) 13 = n) : ∃ u, sX8_vote σ = some (0, u) ∧ u 9 g = n ∧ (∀ c, c < 3 → u (15 + 6 * c) 4 = if σ (15 + 6 * c) 13 = n then σ (15 + 6 * c) 4 else σ (15 + 6 * c) 4 + 1) ∧ ∀ k j, ¬ (k = 9 ∧ j = g) → (∀ c, c < 3 → ¬ (k = 15 + 6 * c ∧ j = 4)) → u k j = σ k j := by
  obtain ⟨vt, evt⟩ : ∃ f : Nat → TS → TS, f = fun c ν => if σ (15 + 6 * c) 13 = n then st2 ν 9 g n else st2 ν (15 + 6 * c) 4 (ν (15 + 6 * c) 4 + 1) := ⟨_, rfl⟩
  have hvt : ∀ c ν k j, ¬ (k = 9 ∧ j = g) → ¬ (k = 15 + 6 * c ∧ j = 4) → vt c ν k j = ν k j := fun c ν k j h1 h2 => by
    rw [evt]
    dsimp only
    split
    · exact st2_off _ _ h1
    · exact st2_off _ _ h2
  have hs : ∀ K c ν, c < 3 → (∀ d j, d < 3 → j ≠ 4 → ν (15 + 6 * d) j = σ (15 + 6 * d) j) → sX8_vote_7 (K + 1) (nI 3) (nI c) ν = sX8_vote_7 K (nI 3) (nI (c + 1)) (vt c ν) := fun K c ν hc hν => by
    have h6 : ∀ d, d < 3 → ν (15 + 6 * d) 6 ≠ 0 := fun d hd => by rw [hν d 6 hd (by decide)]; exact hon d hd
    have ha : sX8_countAlike c ν = some (nI (0 + (if ν (15 + 6 * 0) 6 = 0 then 0 else (decide (σ (15 + 6 * 0) 13 = σ (15 + 6 * c) 13)).toNat) + (if ν (15 + 6 * 1) 6 = 0 then 0 else (decide (σ (15 + 6 * 1) 13 = σ (15 + 6 * c) 13)).toNat) + (if ν (15 + 6 * 2) 6 = 0 then 0 else (decide (σ (15 + 6 * 2) 13 = σ (15 + 6 * c) 13)).toNat)), ν) :=
      c_alike (fun i => decide (σ (15 + 6 * i) 13 = σ (15 + 6 * c) 13)) fun i hi _ => c_like (by
        rw [hν i 12 hi (by decide), hν c 12 hc (by decide), hν i 13 hi (by decide), hν c 13 hc (by decide), h12 i hi, h12 c hc]
        refine ⟨fun hd => ⟨rfl, Or.inr (of_decide_eq_true hd)⟩, fun hd => decide_eq_true (hd.2.elim (fun q => absurd q (nI_ne_m1 (by omega))) id)⟩)
    rw [v_def, if_neg (show ¬ (3 : Int32) ≤ nI c from nI_ge (b := 3) hc (by decide)), if_pos (vin_nI hc (by decide)), nI_clamp (show c < 2 ^ 31 by omega), if_neg (h6 c hc), ha, Option.bind_some, if_neg (h6 0 (by decide)), if_neg (h6 1 (by decide)), if_neg (h6 2 (by decide))]
    unfold sX8_vote_35 sX8_vote_53 sX8_vote_71
    rw [show (2 : Int32) = nI 2 from rfl, pk_mul, if_pos (vin_nI hc (by decide)), if_pos (vin_nI hc (by decide)), nI_clamp (show c < 2 ^ 31 by omega), nI_1, evt]
    dsimp only
    by_cases hcn : σ (15 + 6 * c) 13 = n
    · have hsum : 3 < 2 * (0 + (decide (σ (15 + 6 * 0) 13 = σ (15 + 6 * c) 13)).toNat + (decide (σ (15 + 6 * 1) 13 = σ (15 + 6 * c) 13)).toNat + (decide (σ (15 + 6 * 2) 13 = σ (15 + 6 * c) 13)).toNat) := by
        rw [hcn]
        have e : ∀ d, d < 3 → d ≠ w → (decide (σ (15 + 6 * d) 13 = n)).toNat = 1 := fun d hd hdw => by rw [decide_eq_true (hx d hd hdw)]; rfl
        rcases (show w = 0 ∨ w = 1 ∨ w = 2 by omega) with rfl | rfl | rfl
        · rw [e 1 (by decide) (by decide), e 2 (by decide) (by decide)]
          omega
        · rw [e 0 (by decide) (by decide), e 2 (by decide) (by decide)]
          omega
        · rw [e 0 (by decide) (by decide), e 1 (by decide) (by decide)]
          omega
      have hle : 0 + (decide (σ (15 + 6 * 0) 13 = σ (15 + 6 * c) 13)).toNat + (decide (σ (15 + 6 * 1) 13 = σ (15 + 6 * c) 13)).toNat + (decide (σ (15 + 6 * 2) 13 = σ (15 + 6 * c) 13)).toNat ≤ 3 := by
        have b1 : ∀ b : Bool, b.toNat ≤ 1 := fun b => by cases b <;> decide
        have := b1 (decide (σ (15 + 6 * 0) 13 = σ (15 + 6 * c) 13))
        have := b1 (decide (σ (15 + 6 * 1) 13 = σ (15 + 6 * c) 13))
        have := b1 (decide (σ (15 + 6 * 2) 13 = σ (15 + 6 * c) 13))
        omega
      rw [if_neg (nI_ge hsum (by omega)), if_pos hcn, c_hand1 (g := g) ((hν c 12 hc (by decide)).trans (h12 c hc)) hg, Option.bind_some, hν c 13 hc (by decide), hcn]
    · have hcw : c = w := by
        refine Classical.byContradiction fun hne => hcn (hx c hc hne)
      have hsum : 2 * (0 + (decide (σ (15 + 6 * 0) 13 = σ (15 + 6 * c) 13)).toNat + (decide (σ (15 + 6 * 1) 13 = σ (15 + 6 * c) 13)).toNat + (decide (σ (15 + 6 * 2) 13 = σ (15 + 6 * c) 13)).toNat) ≤ 3 := by
        have e : ∀ d, d < 3 → d ≠ w → (decide (σ (15 + 6 * d) 13 = σ (15 + 6 * c) 13)).toNat = 0 := fun d hd hdw => by rw [decide_eq_false (fun q => hcn (q.symm.trans (hx d hd hdw)))]; rfl
        subst hcw
        rcases (show c = 0 ∨ c = 1 ∨ c = 2 by omega) with rfl | rfl | rfl
        · rw [e 1 (by decide) (by decide), e 2 (by decide) (by decide), decide_eq_true (rfl : σ (15 + 6 * 0) 13 = σ (15 + 6 * 0) 13)]
          decide
        · rw [e 0 (by decide) (by decide), e 2 (by decide) (by decide), decide_eq_true (rfl : σ (15 + 6 * 1) 13 = σ (15 + 6 * 1) 13)]
          decide
        · rw [e 0 (by decide) (by decide), e 1 (by decide) (by decide), decide_eq_true (rfl : σ (15 + 6 * 2) 13 = σ (15 + 6 * 2) 13)]
          decide
      rw [if_pos (nI_le hsum (by decide)), if_neg hcn]
  have k0 : ∀ d j, d < 3 → j ≠ 4 → vt 0 σ (15 + 6 * d) j = σ (15 + 6 * d) j := fun d j hd hj => hvt 0 σ _ j (by omega) (by omega)
  have k1 : ∀ d j, d < 3 → j ≠ 4 → vt 1 (vt 0 σ) (15 + 6 * d) j = σ (15 + 6 * d) j := fun d j hd hj => (hvt 1 _ _ j (by omega) (by omega)).trans (k0 d j hd hj)
  refine ⟨vt 2 (vt 1 (vt 0 σ)), ?_, ?_, fun c hc => ?_, fun k j h1 h2 => ?_⟩
  · have h0 : sX8_vote σ = ((sX8_countOn σ).bind (fun z => sX8_vote_4 z.1 z.2)) := rfl
    rw [h0, c_on, onb_3 hon, Option.bind_some]
    show sX8_vote_7 4 (nI 3) (nI 0) σ = _
    rw [hs 3 0 σ (by decide) (fun _ _ _ _ => rfl), hs 2 1 _ (by decide) k0, hs 1 2 _ (by decide) k1]
    exact if_pos (show (3 : Int32) ≤ nI (2 + 1) by decide)
  · have hy : ∀ c ν, c < 3 → σ (15 + 6 * c) 13 = n → vt c ν 9 g = n := fun c ν _ h => by
      rw [evt]
      dsimp only
      rw [if_pos h, st2_eq]
    have hn : ∀ c ν, ν 9 g = n → vt c ν 9 g = n := fun c ν h => by
      rw [evt]
      dsimp only
      split
      · rw [st2_eq]
      · rw [st2_ne _ _ _ (by omega), h]
    rcases (show w = 0 ∨ w = 1 ∨ w = 2 by omega) with rfl | rfl | rfl
    · exact hy 2 _ (by decide) (hx 2 (by decide) (by decide))
    · exact hy 2 _ (by decide) (hx 2 (by decide) (by decide))
    · exact hn 2 _ (hy 1 _ (by decide) (hx 1 (by decide) (by decide)))
  · have hy : ∀ c ν, c < 3 → vt c ν (15 + 6 * c) 4 = if σ (15 + 6 * c) 13 = n then ν (15 + 6 * c) 4 else ν (15 + 6 * c) 4 + 1 := fun c ν hc => by
      rw [evt]
      dsimp only
      split
      · rw [st2_ne _ _ _ (by omega)]
      · rw [st2_eq]
    rcases (show c = 0 ∨ c = 1 ∨ c = 2 by omega) with rfl | rfl | rfl
    · rw [hvt 2 _ _ _ (by omega) (by omega), hvt 1 _ _ _ (by omega) (by omega), hy 0 _ (by decide)]
    · rw [hvt 2 _ _ _ (by omega) (by omega), hy 1 _ (by decide), hvt 0 _ (15 + 6 * 1) 4 (by omega) (by omega)]
    · rw [hy 2 _ (by decide), hvt 1 _ (15 + 6 * 2) 4 (by omega) (by omega), hvt 0 _ (15 + 6 * 2) 4 (by omega) (by omega)]
  · rw [hvt 2 _ k j h1 (h2 2 (by decide)), hvt 1 _ k j h1 (h2 1 (by decide)), hvt 0 _ k j h1 (h2 0 (by decide))]
/-! strikes -/
theorem c_st_go {σ : TS} (K : Nat) {c : Nat} (hc : c < 3) (h : σ (15 + 6 * c) 6 ≠ 0 → σ (15 + 6 * c) 4 < 3) : sX8_shutOffStruckOnes_2 (K + 1) (nI c) σ = sX8_shutOffStruckOnes_2 K (nI (c + 1)) σ := by
  rw [t_stk_def, if_neg (show ¬ (3 : Int32) ≤ nI c from nI_ge (b := 3) hc (by decide)), if_pos (vin_nI hc (by decide)), nI_clamp (show c < 2 ^ 31 by omega)]
  unfold sX8_shutOffStruckOnes_39
  by_cases h6 : σ (15 + 6 * c) 6 = 0
  · rw [if_pos h6, nI_1]
  · rw [if_neg h6, if_pos (h h6), nI_1]
theorem c_stA {σ : TS} (h : ∀ c, c < 3 → σ (15 + 6 * c) 6 ≠ 0 → σ (15 + 6 * c) 4 < 3) : sX8_shutOffStruckOnes σ = some (0, σ) := by
  have h0 : sX8_shutOffStruckOnes σ = sX8_shutOffStruckOnes_2 4 (nI 0) σ := rfl
  rw [h0, c_st_go 3 (show 0 < 3 by decide) (h 0 (by decide)), c_st_go 2 (show 1 < 3 by decide) (h 1 (by decide)), c_st_go 1 (show 2 < 3 by decide) (h 2 (by decide))]
  exact if_pos (show (3 : Int32) ≤ nI (2 + 1) by decide)
theorem off_4 (c w : Nat) (x : Int32) (σ : TS) {j : Nat} (h : ¬ (c = w ∧ (j = 6 ∨ j = 7))) : offT w x σ (15 + 6 * c) j = σ (15 + 6 * c) j := by
  unfold offT logT
  rw [st2_ne _ _ _ (by omega), st2_ne _ _ _ (by omega), st2_ne _ _ _ (by omega), st2_ne _ _ _ (by omega), st2_off _ _ (by omega), st2_off _ _ (by omega)]
theorem c_stB {σ : TS} {w n : Nat} (hw : w < 3) (hon : σ (15 + 6 * w) 6 ≠ 0) (h3 : ¬ σ (15 + 6 * w) 4 < 3) (h : ∀ c, c < 3 → c ≠ w → σ (15 + 6 * c) 6 ≠ 0 → σ (15 + 6 * c) 4 < 3) (hn : n < 2 ^ 31) (hlog : σ 11 3 = nI n) : sX8_shutOffStruckOnes σ = some (0, offT w 118 σ) := by
  have hb : ∀ K, sX8_shutOffStruckOnes_2 (K + 1) (nI w) σ = sX8_shutOffStruckOnes_2 K (nI (w + 1)) (offT w 118 σ) := fun K => by
    rw [t_stk_def, if_neg (show ¬ (3 : Int32) ≤ nI w from nI_ge (b := 3) hw (by decide)), if_pos (vin_nI hw (by decide)), nI_clamp (show w < 2 ^ 31 by omega), if_neg hon, if_neg h3, t_off hw rfl hn hlog, Option.bind_some]
    unfold sX8_shutOffStruckOnes_39
    rw [nI_1]
  have hb2 : ∀ c, c < 3 → c ≠ w → (offT w 118 σ) (15 + 6 * c) 6 ≠ 0 → (offT w 118 σ) (15 + 6 * c) 4 < 3 := fun c hc hcw g => by
    rw [off_4 _ _ _ _ (by omega)] at g ⊢
    exact h c hc hcw g
  have h0 : sX8_shutOffStruckOnes σ = sX8_shutOffStruckOnes_2 4 (nI 0) σ := rfl
  rw [h0]
  rcases (show w = 0 ∨ w = 1 ∨ w = 2 by omega) with rfl | rfl | rfl
  · rw [hb, c_st_go 2 (show 1 < 3 by decide) (hb2 1 (by decide) (by decide)), c_st_go 1 (show 2 < 3 by decide) (hb2 2 (by decide) (by decide))]
    exact if_pos (show (3 : Int32) ≤ nI (2 + 1) by decide)
  · rw [c_st_go 3 (show 0 < 3 by decide) (h 0 (by decide) (by decide)), hb, c_st_go 1 (show 2 < 3 by decide) (hb2 2 (by decide) (by decide))]
    exact if_pos (show (3 : Int32) ≤ nI (2 + 1) by decide)
  · rw [c_st_go 3 (show 0 < 3 by decide) (h 0 (by decide) (by decide)), c_st_go 2 (show 1 < 3 by decide) (h 1 (by decide) (by decide)), hb]
    exact if_pos (show (3 : Int32) ≤ nI (2 + 1) by decide)
/-! who is left -/
theorem c_one {σ : TS} {p t s : Nat} (h11 : ∀ c, c < 3 → σ (15 + 6 * c) 6 ≠ 0 → σ (15 + 6 * c) 11 = nI t) (h3 : σ (39 + 4 * p) 3 = nI s) (ht : t < 2 ^ 31) (hs : s < 2 ^ 31) : sX8_isOneOfThreeLeft p σ = some (if t < s ∧ onb σ ≠ 0 then 1 else 0, σ) := by
  have hd : ∀ K (x : Int32), sX8_isOneOfThreeLeft_2 (K + 1) p x σ = (if ((3 : Int32)) ≤ x then some ((0 : Int32), σ) else (if vin x 3 = true then (if (σ (15+6*(x.toNatClampNeg)) 6) = 0 then sX8_isOneOfThreeLeft_34 (sX8_isOneOfThreeLeft_2 K) p x σ else ((sX1_hasLeft (x.toNatClampNeg) p σ).bind (fun z => sX8_isOneOfThreeLeft_29 (sX8_isOneOfThreeLeft_2 K) p x z.1 z.2))) else none)) := fun _ _ => rfl
  have hgo : ∀ K c, c < 3 → (σ (15 + 6 * c) 6 = 0 ∨ ¬ t < s) → sX8_isOneOfThreeLeft_2 (K + 1) p (nI c) σ = sX8_isOneOfThreeLeft_2 K p (nI (c + 1)) σ := fun K c hc h => by
    rw [hd, if_neg (show ¬ (3 : Int32) ≤ nI c from nI_ge (b := 3) hc (by decide)), if_pos (vin_nI hc (by decide)), nI_clamp (show c < 2 ^ 31 by omega)]
    unfold sX8_isOneOfThreeLeft_34
    by_cases h6 : σ (15 + 6 * c) 6 = 0
    · rw [if_pos h6, nI_1]
    · rw [if_neg h6, t_hasLeft (h11 c hc h6) h3 ht hs, if_neg (h.resolve_left h6), Option.bind_some]
      unfold sX8_isOneOfThreeLeft_29 sX8_isOneOfThreeLeft_34
      rw [if_pos rfl, nI_1]
  have hyes : ∀ K c, c < 3 → σ (15 + 6 * c) 6 ≠ 0 → t < s → sX8_isOneOfThreeLeft_2 (K + 1) p (nI c) σ = some (1, σ) := fun K c hc h6 hts => by
    rw [hd, if_neg (show ¬ (3 : Int32) ≤ nI c from nI_ge (b := 3) hc (by decide)), if_pos (vin_nI hc (by decide)), nI_clamp (show c < 2 ^ 31 by omega), if_neg h6, t_hasLeft (h11 c hc h6) h3 ht hs, if_pos hts, Option.bind_some]
    unfold sX8_isOneOfThreeLeft_29
    rw [if_neg (show ¬ (1 : Int32) = 0 by decide)]
  have h0 : sX8_isOneOfThreeLeft p σ = sX8_isOneOfThreeLeft_2 4 p (nI 0) σ := rfl
  have hend : sX8_isOneOfThreeLeft_2 1 p (nI (2 + 1)) σ = some (0, σ) := if_pos (show (3 : Int32) ≤ nI (2 + 1) by decide)
  rw [h0]
  by_cases hts : t < s
  · by_cases g0 : σ (15 + 6 * 0) 6 = 0
    · rw [hgo 3 0 (by decide) (Or.inl g0)]
      by_cases g1 : σ (15 + 6 * 1) 6 = 0
      · rw [hgo 2 1 (by decide) (Or.inl g1)]
        by_cases g2 : σ (15 + 6 * 2) 6 = 0
        · rw [hgo 1 2 (by decide) (Or.inl g2), hend, if_neg (fun q => q.2 (by unfold onb; rw [if_pos g0, if_pos g1, if_pos g2]))]
        · rw [hyes 1 2 (by decide) g2 hts, if_pos ⟨hts, onb_pos (show 2 < 3 by decide) g2⟩]
      · rw [hyes 2 1 (by decide) g1 hts, if_pos ⟨hts, onb_pos (show 1 < 3 by decide) g1⟩]
    · rw [hyes 3 0 (by decide) g0 hts, if_pos ⟨hts, onb_pos (show 0 < 3 by decide) g0⟩]
  · rw [hgo 3 0 (by decide) (Or.inr hts), hgo 2 1 (by decide) (Or.inr hts), hgo 1 2 (by decide) (Or.inr hts), hend, if_neg (fun q => hts q.1)]
theorem c_any {σ : TS} {p t s : Nat} (h11 : ∀ c, c < 3 → σ (15 + 6 * c) 6 ≠ 0 → σ (15 + 6 * c) 11 = nI t) (hpl : σ (15 + 6 * 3) 11 = nI t) (h3 : σ (39 + 4 * p) 3 = nI s) (ht : t < 2 ^ 31) (hs : s < 2 ^ 31) : sX8_isAnyLeft p σ = some (if t < s then 1 else 0, σ) := by
  unfold sX8_isAnyLeft sX8_isAnyLeft_0
  rw [t_hasLeft (c := 3) hpl h3 ht hs, Option.bind_some]
  unfold sX8_isAnyLeft_8 sX8_isAnyLeft_19 sX8_isAnyLeft_24
  by_cases h : t < s
  · rw [if_pos h, if_neg (show ¬ (1 : Int32) = 0 by decide)]
    rfl
  · rw [if_neg h, if_pos rfl, c_one h11 h3 ht hs, if_neg (fun q => h q.1), Option.bind_some]
    rfl
/-! beats -/
theorem c_beat {ν a b d : TS} {p i K : Nat} (hi : i < 30) (hany : sX8_isAnyLeft p ν = some (1, ν)) (hdo : sX8_doInstructions p (nI p) ν = some (0, a)) (hv : sX8_vote a = some (0, b)) (hs : sX8_shutOffStruckOnes b = some (0, d)) : sX8_runSlot_38 (K + 1) p (nI p) (nI i) ν = sX8_runSlot_38 K p (nI p) (nI (i + 1)) d := by
  rw [t_38_def, if_neg (show ¬ (30 : Int32) ≤ nI i from nI_ge (b := 30) hi (by decide)), hany, Option.bind_some]
  unfold sX8_runSlot_49 sX8_runSlot_58 sX8_runSlot_62 sX8_runSlot_66
  rw [if_neg (show ¬ (1 : Int32) = 0 by decide), hdo, Option.bind_some, hv, Option.bind_some, hs, Option.bind_some, nI_1]
theorem c_stop {ν : TS} {p i K : Nat} (hi : i < 30) (hany : sX8_isAnyLeft p ν = some (0, ν)) : sX8_runSlot_38 (K + 1) p (nI p) (nI i) ν = sX8_runSlot_72 p ν := by
  rw [t_38_def, if_neg (show ¬ (30 : Int32) ≤ nI i from nI_ge (b := 30) hi (by decide)), hany, Option.bind_some]
  unfold sX8_runSlot_49
  rw [if_pos rfl]
theorem c_full {ν : TS} {p K : Nat} : sX8_runSlot_38 (K + 1) p (nI p) (nI 30) ν = sX8_runSlot_72 p ν := by
  rw [t_38_def, if_pos (show (30 : Int32) ≤ nI 30 by decide)]
theorem c_72n {ν : TS} {p : Nat} (h : sX8_isOneOfThreeLeft p ν = some (0, ν)) : sX8_runSlot_72 p ν = some (0, ν) := by
  unfold sX8_runSlot_72
  rw [h, Option.bind_some]
  rfl
theorem c_72y {ν : TS} {p : Nat} (h : sX8_isOneOfThreeLeft p ν = some (1, ν)) : sX8_runSlot_72 p ν = some (0, st2 ν (39 + 4 * p) 4 (ν (39 + 4 * p) 4 + 1)) := by
  unfold sX8_runSlot_72
  rw [h, Option.bind_some]
  rfl
/-- a beat in which nothing is given -/
theorem c_quiet {ν : TS} {p t s i K : Nat} (hi : i < 30) (E : Nat → TS → TS)
    (hE : ∀ c μ, c < 4 → (c < 3 → ν (15 + 6 * c) 6 ≠ 0) → (∀ k, blk c k ∨ k < 15 ∨ 39 ≤ k → μ k = ν k) → sX1_doNext c p (nI (6 * p)) μ = some (1, E c μ))
    (hloc : ∀ c μ, c < 4 → (∀ k, blk c k → μ k = ν k) → ∀ k, blk c k → E c μ k = E c ν k)
    (hfr : ∀ c μ k, c < 4 → ¬ blk c k → E c μ k = μ k)
    (h12 : ∀ c, c < 4 → E c ν (15 + 6 * c) 12 = -1) (h6 : ∀ c, c < 4 → E c ν (15 + 6 * c) 6 = ν (15 + 6 * c) 6) (h4 : ∀ c, c < 4 → E c ν (15 + 6 * c) 4 = ν (15 + 6 * c) 4)
    (h11 : ∀ c, c < 4 → (c < 3 → ν (15 + 6 * c) 6 ≠ 0) → ν (15 + 6 * c) 11 = nI t) (h3 : ν (39 + 4 * p) 3 = nI s) (hts : t < s) (hs : s < 2 ^ 31) (hst : ∀ c, c < 3 → ν (15 + 6 * c) 6 ≠ 0 → ν (15 + 6 * c) 4 < 3) :
    ∃ d, sX8_runSlot_38 (K + 1) p (nI p) (nI i) ν = sX8_runSlot_38 K p (nI p) (nI (i + 1)) d ∧ (∀ c k, c < 4 → blk c k → d k = if c < 3 ∧ ν (15 + 6 * c) 6 = 0 then ν k else E c ν k) ∧ ∀ k, (k < 15 ∨ 39 ≤ k) → d k = ν k := by
  obtain ⟨u, hu, hb, hf⟩ := c_do (p := p) E hE hloc hfr
  have hk : ∀ c, blk c (15 + 6 * c) := fun c => by unfold blk; omega
  have u6 : ∀ c, c < 3 → u (15 + 6 * c) 6 = ν (15 + 6 * c) 6 := fun c hc => by
    rw [hb c _ (by omega) (hk c)]
    split
    · rfl
    · exact h6 c (by omega)
  have u12 : ∀ c, c < 3 → u (15 + 6 * c) 6 ≠ 0 → u (15 + 6 * c) 12 = -1 := fun c hc g => by
    rw [u6 c hc] at g
    rw [hb c _ (by omega) (hk c), if_neg (fun q => g q.2)]
    exact h12 c (by omega)
  have u4 : ∀ c, c < 3 → u (15 + 6 * c) 6 ≠ 0 → u (15 + 6 * c) 4 < 3 := fun c hc g => by
    rw [u6 c hc] at g
    rw [hb c _ (by omega) (hk c), if_neg (fun q => g q.2), h4 c (by omega)]
    exact hst c hc g
  have u3 : u (15 + 6 * 3) 12 = -1 := by
    rw [hb 3 _ (by omega) (hk 3), if_neg (fun q => absurd q.1 (by decide))]
    exact h12 3 (by decide)
  have hdo : sX8_doInstructions p (nI p) ν = some (0, u) := by
    rw [hu, c_hand u3]
    rfl
  have hany : sX8_isAnyLeft p ν = some (1, ν) := by
    rw [c_any (t := t) (s := s) (fun c hc g => h11 c (by omega) (fun _ => g)) (h11 3 (by decide) (fun h => absurd h (by decide))) h3 (by omega) hs, if_pos hts]
  exact ⟨u, c_beat hi hany hdo (c_vA u12) (c_stA u4), hb, hf⟩

/-! ===== the class alone: beats of the instructions l, o, m, j ===== -/
def eL (c t r : Nat) (nv : Int32) (ν : TS) : TS := st2 (st2 (st2 ν (15 + 6 * c) 12 (-1)) (15 + 6 * c) 11 (nI t + 1)) (20 + 6 * c) r (stkT ν c r nv)
def eM (c t r row : Nat) (ν : TS) : TS := st2 (st2 (st2 (st2 ν (15 + 6 * c) 12 (-1)) (15 + 6 * c) 11 (nI t + 1)) (17 + 6 * c) row (ν (20 + 6 * c) r)) (18 + 6 * c) row 0
def eO (c t r : Nat) (nv : Int32) (ν : TS) : TS := st2 (st2 (st2 (st2 ν (15 + 6 * c) 12 (-1)) (15 + 6 * c) 11 (nI t + 1)) (15 + 6 * c) 12 nv) (15 + 6 * c) 13 (ν (20 + 6 * c) r)
def eJ (c t : Nat) (nv : Int32) (ν : TS) : TS := st2 (st2 (st2 ν (15 + 6 * c) 12 (-1)) (15 + 6 * c) 11 (nI t + 1)) (15 + 6 * c) 11 nv
theorem tE_l (c r m row t : Nat) (nv : Int32) (ν : TS) : tEff c r m row t 108 nv ν = eL c t r nv ν := by
  unfold tEff eL
  rw [if_neg (by decide), if_neg (by decide), if_pos rfl]
theorem tE_m (c r m row t : Nat) (nv : Int32) (ν : TS) : tEff c r m row t 109 nv ν = eM c t r row ν := by
  unfold tEff eM
  rw [if_neg (by decide), if_neg (by decide), if_neg (by decide), if_pos rfl]
theorem tE_o (c r m row t : Nat) (nv : Int32) (ν : TS) : tEff c r m row t 111 nv ν = eO c t r nv ν := by
  unfold tEff eO
  rw [if_neg (by decide), if_neg (by decide), if_neg (by decide), if_neg (by decide), if_pos rfl]
theorem tE_j (c r m row t : Nat) (nv : Int32) (ν : TS) (h : 0 < ν (20 + 6 * c) r) : tEff c r m row t 106 nv ν = eJ c t nv ν := by
  unfold tEff eJ
  rw [if_neg (by decide), if_neg (by decide), if_neg (by decide), if_neg (by decide), if_neg (by decide), if_neg (by decide), if_neg (by decide), if_pos h]
section NX
variable {ν : TS} {c p t s r : Nat} {nv : Int32}
theorem n_l (hc : c < 4) (hp : p < 3) (h11 : ν (15 + 6 * c) 11 = nI t) (h3 : ν (39 + 4 * p) 3 = nI s) (hd : t < s) (hs : s < 2 ^ 31) (ht : t < 10) (k1 : ν (40 + 4 * p) t = 108) (k2 : ν (41 + 4 * p) t = nI r) (k3 : ν (42 + 4 * p) t = nv) (hr : r < 4) (hz : ∀ i, i < 18 → ν (18 + 6 * c) i = 0) : sX1_doNext c p (nI (6 * p)) ν = some (1, eL c t r nv ν) := by
  rw [t_left (m := 0) hc hp h11 h3 hd hs ⟨ht, k1, k2, k3, hr, fun h => absurd rfl h, fun h => absurd h (by decide), fun h => absurd h (by decide)⟩ (fun i hi => by rw [hz i hi]; decide) (fun h => absurd h (by decide)), tE_l]
theorem n_m {m : Nat} (hc : c < 4) (hp : p < 3) (h11 : ν (15 + 6 * c) 11 = nI t) (h3 : ν (39 + 4 * p) 3 = nI s) (hd : t < s) (hs : s < 2 ^ 31) (ht : t < 10) (k1 : ν (40 + 4 * p) t = 109) (k2 : ν (41 + 4 * p) t = nI r) (k3 : ν (42 + 4 * p) t = nI m) (hr : r < 4) (hm : m < 6) (hz : ∀ i, i < 18 → ν (18 + 6 * c) i = 0) : sX1_doNext c p (nI (6 * p)) ν = some (1, eM c t r (6 * p + m) ν) := by
  rw [t_left (m := m) hc hp h11 h3 hd hs ⟨ht, k1, k2, k3, hr, fun _ => ⟨rfl, by omega⟩, fun h => absurd h (by decide), fun _ => hm⟩ (fun i hi => by rw [hz i hi]; decide) (fun h => absurd h (by decide)), tE_m]
theorem n_o {m : Nat} (hc : c < 4) (hp : p < 3) (h11 : ν (15 + 6 * c) 11 = nI t) (h3 : ν (39 + 4 * p) 3 = nI s) (hd : t < s) (hs : s < 2 ^ 31) (ht : t < 10) (k1 : ν (40 + 4 * p) t = 111) (k2 : ν (41 + 4 * p) t = nI r) (k3 : ν (42 + 4 * p) t = nI m) (hr : r < 4) (hm : m < 4) (hz : ∀ i, i < 18 → ν (18 + 6 * c) i = 0) : sX1_doNext c p (nI (6 * p)) ν = some (1, eO c t r (nI m) ν) := by
  rw [t_left (m := m) hc hp h11 h3 hd hs ⟨ht, k1, k2, k3, hr, fun _ => ⟨rfl, by omega⟩, fun _ => hm, fun h => absurd h (by decide)⟩ (fun i hi => by rw [hz i hi]; decide) (fun h => absurd h (by decide)), tE_o]
theorem n_j {m : Nat} (hc : c < 4) (hp : p < 3) (h11 : ν (15 + 6 * c) 11 = nI t) (h3 : ν (39 + 4 * p) 3 = nI s) (hd : t < s) (hs : s < 2 ^ 31) (ht : t < 10) (k1 : ν (40 + 4 * p) t = 106) (k2 : ν (41 + 4 * p) t = nI r) (k3 : ν (42 + 4 * p) t = nI m) (hr : r < 4) (hm : m < 10) (hz : ∀ i, i < 18 → ν (18 + 6 * c) i = 0) (hpos : 0 < ν (20 + 6 * c) r) : sX1_doNext c p (nI (6 * p)) ν = some (1, eJ c t (nI m) ν) := by
  rw [t_left (m := m) hc hp h11 h3 hd hs ⟨ht, k1, k2, k3, hr, fun _ => ⟨rfl, hm⟩, fun h => absurd h (by decide), fun h => absurd h (by decide)⟩ (fun i hi => by rw [hz i hi]; decide) (fun h => absurd h (by decide)), tE_j _ _ _ _ _ _ _ hpos]
end NX
theorem stkT_cg {ν σ : TS} {c : Nat} (h5 : ν (15 + 6 * c) 5 = σ (15 + 6 * c) 5) (h9 : ν (15 + 6 * c) 9 = σ (15 + 6 * c) 9) (h10 : ν (15 + 6 * c) 10 = σ (15 + 6 * c) 10) (r : Nat) (x : Int32) : stkT ν c r x = stkT σ c r x := by
  unfold stkT
  rw [h5, h9, h10]
theorem b_15 (c : Nat) : blk c (15 + 6 * c) := by unfold blk; omega
theorem b_17 (c : Nat) : blk c (17 + 6 * c) := by unfold blk; omega
theorem b_18 (c : Nat) : blk c (18 + 6 * c) := by unfold blk; omega
theorem b_20 (c : Nat) : blk c (20 + 6 * c) := by unfold blk; omega
theorem eL_loc {ν σ : TS} {c : Nat} (h : ∀ k, blk c k → ν k = σ k) (t r : Nat) (x : Int32) : ∀ k, blk c k → eL c t r x ν k = eL c t r x σ k := by
  unfold eL
  exact st2_loc (st2_loc (st2_loc h 12 (b_15 c) rfl) 11 (b_15 c) rfl) r (b_20 c) (stkT_cg (by rw [h _ (b_15 c)]) (by rw [h _ (b_15 c)]) (by rw [h _ (b_15 c)]) r x)
theorem eM_loc {ν σ : TS} {c : Nat} (h : ∀ k, blk c k → ν k = σ k) (t r row : Nat) : ∀ k, blk c k → eM c t r row ν k = eM c t r row σ k := by
  unfold eM
  exact st2_loc (st2_loc (st2_loc (st2_loc h 12 (b_15 c) rfl) 11 (b_15 c) rfl) row (b_17 c) (by rw [h _ (b_20 c)])) row (b_18 c) rfl
theorem eO_loc {ν σ : TS} {c : Nat} (h : ∀ k, blk c k → ν k = σ k) (t r : Nat) (x : Int32) : ∀ k, blk c k → eO c t r x ν k = eO c t r x σ k := by
  unfold eO
  exact st2_loc (st2_loc (st2_loc (st2_loc h 12 (b_15 c) rfl) 11 (b_15 c) rfl) 12 (b_15 c) rfl) 13 (b_15 c) (by rw [h _ (b_20 c)])
theorem eJ_loc {ν σ : TS} {c : Nat} (h : ∀ k, blk c k → ν k = σ k) (t : Nat) (x : Int32) : ∀ k, blk c k → eJ c t x ν k = eJ c t x σ k := by
  unfold eJ
  exact st2_loc (st2_loc (st2_loc h 12 (b_15 c) rfl) 11 (b_15 c) rfl) 11 (b_15 c) rfl
theorem eL_fr (c t r : Nat) (x : Int32) (ν : TS) {k : Nat} (h : ¬ blk c k) : eL c t r x ν k = ν k := by
  unfold eL blk at *
  rw [st2_ne _ _ _ (by omega), st2_ne _ _ _ (by omega), st2_ne _ _ _ (by omega)]
theorem eM_fr (c t r row : Nat) (ν : TS) {k : Nat} (h : ¬ blk c k) : eM c t r row ν k = ν k := by
  unfold eM blk at *
  rw [st2_ne _ _ _ (by omega), st2_ne _ _ _ (by omega), st2_ne _ _ _ (by omega), st2_ne _ _ _ (by omega)]
theorem eO_fr (c t r : Nat) (x : Int32) (ν : TS) {k : Nat} (h : ¬ blk c k) : eO c t r x ν k = ν k := by
  unfold eO blk at *
  rw [st2_ne _ _ _ (by omega), st2_ne _ _ _ (by omega), st2_ne _ _ _ (by omega), st2_ne _ _ _ (by omega)]
theorem eJ_fr (c t : Nat) (x : Int32) (ν : TS) {k : Nat} (h : ¬ blk c k) : eJ c t x ν k = ν k := by
  unfold eJ blk at *
  rw [st2_ne _ _ _ (by omega), st2_ne _ _ _ (by omega), st2_ne _ _ _ (by omega)]
theorem blk_dec (k : Nat) : (∃ c, c < 4 ∧ blk c k) ∨ (k < 15 ∨ 39 ≤ k) := by
  by_cases h : k < 15 ∨ 39 ≤ k
  · exact Or.inr h
  · refine Or.inl ⟨(k - 15) / 6, by omega, ?_⟩
    unfold blk
    omega
section BT
variable {ν : TS} {p t s r i K : Nat}
theorem bt_l {nv : Int32} (hp : p < 3) (hi : i < 30) (h11 : ∀ c, c < 4 → (c < 3 → ν (15 + 6 * c) 6 ≠ 0) → ν (15 + 6 * c) 11 = nI t) (h3 : ν (39 + 4 * p) 3 = nI s) (hd : t < s) (hs : s ≤ 10) (k1 : ν (40 + 4 * p) t = 108) (k2 : ν (41 + 4 * p) t = nI r) (k3 : ν (42 + 4 * p) t = nv) (hr : r < 4) (hz : ∀ c, c < 4 → ∀ i, i < 18 → ν (18 + 6 * c) i = 0) (hst : ∀ c, c < 3 → ν (15 + 6 * c) 6 ≠ 0 → ν (15 + 6 * c) 4 < 3) :
    ∃ d, sX8_runSlot_38 (K + 1) p (nI p) (nI i) ν = sX8_runSlot_38 K p (nI p) (nI (i + 1)) d ∧ (∀ c, c < 4 → (c < 3 → ν (15 + 6 * c) 6 ≠ 0) → d (15 + 6 * c) 11 = nI (t + 1) ∧ d (20 + 6 * c) r = stkT ν c r nv) ∧ ∀ k j, (∀ c, c < 4 → ¬ (k = 15 + 6 * c ∧ (j = 11 ∨ j = 12)) ∧ ¬ (k = 20 + 6 * c ∧ j = r)) → d k j = ν k j := by
  obtain ⟨d, e, hb, hf⟩ := c_quiet (K := K) (p := p) (t := t) (s := s) hi (fun c => eL c t r nv)
    (fun c μ hc ha hμ => n_l hc hp (by rw [hμ _ (Or.inl (b_15 c))]; exact h11 c hc ha) (by rw [hμ _ (Or.inr (by omega))]; exact h3) hd (by omega) (by omega) (by rw [hμ _ (Or.inr (by omega))]; exact k1) (by rw [hμ _ (Or.inr (by omega))]; exact k2) (by rw [hμ _ (Or.inr (by omega))]; exact k3) hr (fun i hi => by rw [hμ _ (Or.inl (b_18 c))]; exact hz c hc i hi))
    (fun c μ hc h => eL_loc h t r nv) (fun c μ k hc h => eL_fr c t r nv μ h)
    (fun c hc => by unfold eL; rw [st2_ne _ _ _ (by omega), st2_off _ _ (by omega), st2_eq])
    (fun c hc => by unfold eL; rw [st2_ne _ _ _ (by omega), st2_off _ _ (by omega), st2_off _ _ (by omega)])
    (fun c hc => by unfold eL; rw [st2_ne _ _ _ (by omega), st2_off _ _ (by omega), st2_off _ _ (by omega)])
    h11 h3 hd (by omega) hst
  refine ⟨d, e, fun c hc ha => ⟨?_, ?_⟩, fun k j h => ?_⟩
  · rw [hb c _ hc (b_15 c), if_neg (fun q => ha q.1 q.2)]
    unfold eL
    rw [st2_ne _ _ _ (by omega), st2_eq, nI_1]
  · rw [hb c _ hc (b_20 c), if_neg (fun q => ha q.1 q.2)]
    unfold eL
    rw [st2_eq]
  · rcases blk_dec k with ⟨c, hc, hk⟩ | hk
    · rw [hb c k hc hk]
      split
      · rfl
      · unfold eL
        obtain ⟨g1, g2⟩ := h c hc
        rw [st2_off _ _ g2, st2_off _ _ (by omega), st2_off _ _ (by omega)]
    · rw [hf k hk]
theorem bt_m {m : Nat} (hp : p < 3) (hi : i < 30) (h11 : ∀ c, c < 4 → (c < 3 → ν (15 + 6 * c) 6 ≠ 0) → ν (15 + 6 * c) 11 = nI t) (h3 : ν (39 + 4 * p) 3 = nI s) (hd : t < s) (hs : s ≤ 10) (k1 : ν (40 + 4 * p) t = 109) (k2 : ν (41 + 4 * p) t = nI r) (k3 : ν (42 + 4 * p) t = nI m) (hr : r < 4) (hm : m < 6) (hz : ∀ c, c < 4 → ∀ i, i < 18 → ν (18 + 6 * c) i = 0) (hst : ∀ c, c < 3 → ν (15 + 6 * c) 6 ≠ 0 → ν (15 + 6 * c) 4 < 3) :
    ∃ d, sX8_runSlot_38 (K + 1) p (nI p) (nI i) ν = sX8_runSlot_38 K p (nI p) (nI (i + 1)) d ∧ (∀ c, c < 4 → (c < 3 → ν (15 + 6 * c) 6 ≠ 0) → d (15 + 6 * c) 11 = nI (t + 1) ∧ d (17 + 6 * c) (6 * p + m) = ν (20 + 6 * c) r) ∧ ∀ k j, (∀ c, c < 4 → ¬ (k = 15 + 6 * c ∧ (j = 11 ∨ j = 12)) ∧ ¬ (k = 17 + 6 * c ∧ j = 6 * p + m)) → d k j = ν k j := by
  obtain ⟨d, e, hb, hf⟩ := c_quiet (K := K) (p := p) (t := t) (s := s) hi (fun c => eM c t r (6 * p + m))
    (fun c μ hc ha hμ => n_m hc hp (by rw [hμ _ (Or.inl (b_15 c))]; exact h11 c hc ha) (by rw [hμ _ (Or.inr (by omega))]; exact h3) hd (by omega) (by omega) (by rw [hμ _ (Or.inr (by omega))]; exact k1) (by rw [hμ _ (Or.inr (by omega))]; exact k2) (by rw [hμ _ (Or.inr (by omega))]; exact k3) hr hm (fun i hi => by rw [hμ _ (Or.inl (b_18 c))]; exact hz c hc i hi))
    (fun c μ hc h => eM_loc h t r (6 * p + m)) (fun c μ k hc h => eM_fr c t r (6 * p + m) μ h)
    (fun c hc => by unfold eM; rw [st2_ne _ _ _ (by omega), st2_ne _ _ _ (by omega), st2_off _ _ (by omega), st2_eq])
    (fun c hc => by unfold eM; rw [st2_ne _ _ _ (by omega), st2_ne _ _ _ (by omega), st2_off _ _ (by omega), st2_off _ _ (by omega)])
    (fun c hc => by unfold eM; rw [st2_ne _ _ _ (by omega), st2_ne _ _ _ (by omega), st2_off _ _ (by omega), st2_off _ _ (by omega)])
    h11 h3 hd (by omega) hst
  refine ⟨d, e, fun c hc ha => ⟨?_, ?_⟩, fun k j h => ?_⟩
  · rw [hb c _ hc (b_15 c), if_neg (fun q => ha q.1 q.2)]
    unfold eM
    rw [st2_ne _ _ _ (by omega), st2_ne _ _ _ (by omega), st2_eq, nI_1]
  · rw [hb c _ hc (b_17 c), if_neg (fun q => ha q.1 q.2)]
    unfold eM
    rw [st2_ne _ _ _ (by omega), st2_eq]
  · rcases blk_dec k with ⟨c, hc, hk⟩ | hk
    · rw [hb c k hc hk]
      split
      · rfl
      · unfold eM
        obtain ⟨g1, g2⟩ := h c hc
        by_cases h18 : k = 18 + 6 * c ∧ j = 6 * p + m
        · obtain ⟨rfl, rfl⟩ := h18
          rw [st2_eq, hz c hc _ (by omega)]
        · rw [st2_off _ _ h18, st2_off _ _ g2, st2_off _ _ (by omega), st2_off _ _ (by omega)]
    · rw [hf k hk]
theorem bt_j {m : Nat} (hp : p < 3) (hi : i < 30) (h11 : ∀ c, c < 4 → (c < 3 → ν (15 + 6 * c) 6 ≠ 0) → ν (15 + 6 * c) 11 = nI t) (h3 : ν (39 + 4 * p) 3 = nI s) (hd : t < s) (hs : s ≤ 10) (k1 : ν (40 + 4 * p) t = 106) (k2 : ν (41 + 4 * p) t = nI r) (k3 : ν (42 + 4 * p) t = nI m) (hr : r < 4) (hm : m < 10) (hz : ∀ c, c < 4 → ∀ i, i < 18 → ν (18 + 6 * c) i = 0) (hpos : ∀ c, c < 4 → 0 < ν (20 + 6 * c) r) (hst : ∀ c, c < 3 → ν (15 + 6 * c) 6 ≠ 0 → ν (15 + 6 * c) 4 < 3) :
    ∃ d, sX8_runSlot_38 (K + 1) p (nI p) (nI i) ν = sX8_runSlot_38 K p (nI p) (nI (i + 1)) d ∧ (∀ c, c < 4 → (c < 3 → ν (15 + 6 * c) 6 ≠ 0) → d (15 + 6 * c) 11 = nI m) ∧ ∀ k j, (∀ c, c < 4 → ¬ (k = 15 + 6 * c ∧ (j = 11 ∨ j = 12))) → d k j = ν k j := by
  obtain ⟨d, e, hb, hf⟩ := c_quiet (K := K) (p := p) (t := t) (s := s) hi (fun c => eJ c t (nI m))
    (fun c μ hc ha hμ => n_j hc hp (by rw [hμ _ (Or.inl (b_15 c))]; exact h11 c hc ha) (by rw [hμ _ (Or.inr (by omega))]; exact h3) hd (by omega) (by omega) (by rw [hμ _ (Or.inr (by omega))]; exact k1) (by rw [hμ _ (Or.inr (by omega))]; exact k2) (by rw [hμ _ (Or.inr (by omega))]; exact k3) hr hm (fun i hi => by rw [hμ _ (Or.inl (b_18 c))]; exact hz c hc i hi) (by rw [hμ _ (Or.inl (b_20 c))]; exact hpos c hc))
    (fun c μ hc h => eJ_loc h t (nI m)) (fun c μ k hc h => eJ_fr c t (nI m) μ h)
    (fun c hc => by unfold eJ; rw [st2_off _ _ (by omega), st2_off _ _ (by omega), st2_eq])
    (fun c hc => by unfold eJ; rw [st2_off _ _ (by omega), st2_off _ _ (by omega), st2_off _ _ (by omega)])
    (fun c hc => by unfold eJ; rw [st2_off _ _ (by omega), st2_off _ _ (by omega), st2_off _ _ (by omega)])
    h11 h3 hd (by omega) hst
  refine ⟨d, e, fun c hc ha => ?_, fun k j h => ?_⟩
  · rw [hb c _ hc (b_15 c), if_neg (fun q => ha q.1 q.2)]
    unfold eJ
    rw [st2_eq]
  · rcases blk_dec k with ⟨c, hc, hk⟩ | hk
    · rw [hb c k hc hk]
      split
      · rfl
      · unfold eJ
        have g1 := h c hc
        rw [st2_off _ _ (by omega), st2_off _ _ (by omega), st2_off _ _ (by omega)]
    · rw [hf k hk]
/-- all three give, and all but perhaps w the same -/
theorem bt_o {w g : Nat} {n : Int32} (hw : w < 3) (hg : g < 4) (hp : p < 3) (hi : i < 30) (h11 : ∀ c, c < 4 → ν (15 + 6 * c) 11 = nI t) (h3 : ν (39 + 4 * p) 3 = nI s) (hd : t < s) (hs : s ≤ 10) (k1 : ν (40 + 4 * p) t = 111) (k2 : ν (41 + 4 * p) t = nI r) (k3 : ν (42 + 4 * p) t = nI g) (hr : r < 4) (hz : ∀ c, c < 4 → ∀ i, i < 18 → ν (18 + 6 * c) i = 0) (hon : ∀ c, c < 3 → ν (15 + 6 * c) 6 ≠ 0) (hx : ∀ c, c < 4 → c ≠ w → ν (20 + 6 * c) r = n) :
    ∃ b, (∀ d, sX8_shutOffStruckOnes b = some (0, d) → sX8_runSlot_38 (K + 1) p (nI p) (nI i) ν = sX8_runSlot_38 K p (nI p) (nI (i + 1)) d) ∧ b 9 g = n ∧ b 10 g = n ∧ (∀ c, c < 4 → b (15 + 6 * c) 11 = nI (t + 1)) ∧ (∀ c, c < 3 → b (15 + 6 * c) 4 = if ν (20 + 6 * c) r = n then ν (15 + 6 * c) 4 else ν (15 + 6 * c) 4 + 1) ∧ ∀ k j, ¬ (k = 9 ∧ j = g) → ¬ (k = 10 ∧ j = g) → (∀ c, c < 4 → ¬ (k = 15 + 6 * c ∧ (j = 4 ∨ j = 11 ∨ j = 12 ∨ j = 13))) → b k j = ν k j := by
  obtain ⟨u, hu, hb, hf⟩ := c_do (σ := ν) (p := p) (fun c => eO c t r (nI g))
    (fun c μ hc ha hμ => n_o hc hp (by rw [hμ _ (Or.inl (b_15 c))]; exact h11 c hc) (by rw [hμ _ (Or.inr (by omega))]; exact h3) hd (by omega) (by omega) (by rw [hμ _ (Or.inr (by omega))]; exact k1) (by rw [hμ _ (Or.inr (by omega))]; exact k2) (by rw [hμ _ (Or.inr (by omega))]; exact k3) hr hg (fun i hi => by rw [hμ _ (Or.inl (b_18 c))]; exact hz c hc i hi))
    (fun c μ hc h => eO_loc h t r (nI g)) (fun c μ k hc h => eO_fr c t r (nI g) μ h)
  have hbo : ∀ c k, c < 4 → blk c k → u k = eO c t r (nI g) ν k := fun c k hc hk => by
    rw [hb c k hc hk, if_neg (fun q => hon c q.1 q.2)]
  have u12 : ∀ c, c < 4 → u (15 + 6 * c) 12 = nI g := fun c hc => by
    rw [hbo c _ hc (b_15 c)]
    unfold eO
    rw [st2_off _ _ (by omega), st2_eq]
  have u13 : ∀ c, c < 4 → u (15 + 6 * c) 13 = ν (20 + 6 * c) r := fun c hc => by
    rw [hbo c _ hc (b_15 c)]
    unfold eO
    rw [st2_eq]
  have u11 : ∀ c, c < 4 → u (15 + 6 * c) 11 = nI (t + 1) := fun c hc => by
    rw [hbo c _ hc (b_15 c)]
    unfold eO
    rw [st2_off _ _ (by omega), st2_off _ _ (by omega), st2_eq, nI_1]
  have uo : ∀ k j, (∀ c, c < 4 → ¬ (k = 15 + 6 * c ∧ (j = 11 ∨ j = 12 ∨ j = 13))) → u k j = ν k j := fun k j h => by
    rcases blk_dec k with ⟨c, hc, hk⟩ | hk
    · rw [hbo c k hc hk]
      unfold eO
      have g1 := h c hc
      rw [st2_off _ _ (by omega), st2_off _ _ (by omega), st2_off _ _ (by omega), st2_off _ _ (by omega)]
    · rw [hf k hk]
  have hdo : sX8_doInstructions p (nI p) ν = some (0, st2 u (9 + 1) g (u (15 + 6 * 3) 13)) := by
    rw [hu, c_hand1 (u12 3 (by decide)) hg]
    rfl
  have hany : sX8_isAnyLeft p ν = some (1, ν) := by
    rw [c_any (t := t) (s := s) (fun c hc _ => h11 c (by omega)) (h11 3 (by decide)) h3 (by omega) (by omega), if_pos hd]
  obtain ⟨a, ha⟩ : ∃ a, a = st2 u (9 + 1) g (u (15 + 6 * 3) 13) := ⟨_, rfl⟩
  rw [← ha] at hdo
  have a15 : ∀ c j, a (15 + 6 * c) j = u (15 + 6 * c) j := fun c j => by rw [ha, st2_ne _ _ _ (by omega)]
  obtain ⟨b, hv, b9, b4, bf⟩ := c_vB (σ := a) (w := w) (g := g) (n := n) hw hg (fun c hc => by rw [a15, uo _ _ (fun d _ => by omega)]; exact hon c hc) (fun c hc => by rw [a15]; exact u12 c (by omega)) (fun c hc hcw => by rw [a15, u13 c (by omega)]; exact hx c (by omega) hcw)
  refine ⟨b, fun d hs => c_beat hi hany hdo hv hs, b9, ?_, fun c hc => ?_, fun c hc => ?_, fun k j h1 h2 h => ?_⟩
  · rw [bf 10 g (by omega) (fun c hc => by omega), ha, st2_eq, u13 3 (by decide)]
    exact hx 3 (by decide) (by omega)
  · rw [bf _ _ (by omega) (fun d hd => by omega), a15, u11 c hc]
  · rw [b4 c hc, a15, a15, u13 c (by omega), uo _ _ (fun d _ => by omega)]
  · rw [bf k j h1 (fun c hc => by have := h c (by omega); omega), ha, st2_off _ _ h2]
    exact uo k j (fun c hc => by have := h c hc; omega)
end BT

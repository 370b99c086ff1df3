/-! ===== full: a full partition; one that never ends; a command too late ===== -/
def PJ (σ : TS) : Prop := σ (39 + 4 * 1) 3 = nI 2 ∧ (σ (40 + 4 * 1) 0 = 108 ∧ σ (41 + 4 * 1) 0 = nI 0 ∧ σ (42 + 4 * 1) 0 = nI 1) ∧ σ (40 + 4 * 1) 1 = 106 ∧ σ (41 + 4 * 1) 1 = nI 0 ∧ σ (42 + 4 * 1) 1 = nI 0
theorem PJ_cg {σ ν : TS} (h : ∀ k, 43 ≤ k → k ≤ 46 → ∀ j, j ≠ 4 → ν k j = σ k j) (hp : PJ σ) : PJ ν := by
  obtain ⟨h0, ⟨a1, a2, a3⟩, b1, b2, b3⟩ := hp
  exact ⟨(h _ (by decide) (by decide) 3 (by decide)).trans h0, ⟨(h _ (by decide) (by decide) 0 (by decide)).trans a1, (h _ (by decide) (by decide) 0 (by decide)).trans a2, (h _ (by decide) (by decide) 0 (by decide)).trans a3⟩, (h _ (by decide) (by decide) 1 (by decide)).trans b1, (h _ (by decide) (by decide) 1 (by decide)).trans b2, (h _ (by decide) (by decide) 1 (by decide)).trans b3⟩
def oSd (k j : Nat) : Prop := ∀ c, c < 4 → ¬ (k = 15 + 6 * c ∧ (j = 11 ∨ j = 12)) ∧ k ≠ 20 + 6 * c
theorem run_j_loop {σ : TS} (hpj : PJ σ) (hz : FZ σ) (hon : ∀ c, c < 3 → σ (15 + 6 * c) 6 ≠ 0) (hst : ∀ c, c < 3 → σ (15 + 6 * c) 4 < 3) (h5 : ∀ c, c < 4 → σ (15 + 6 * c) 5 = -1) : ∀ d ν, d ≤ 15 → (∀ c, c < 4 → ν (15 + 6 * c) 11 = nI 0) → (∀ k j, oSd k j → ν k j = σ k j) → ∃ u, sX8_runSlot_38 (2 * d + 1) 1 (nI 1) (nI (30 - 2 * d)) ν = sX8_runSlot_38 1 1 (nI 1) (nI 30) u ∧ (∀ c, c < 4 → u (15 + 6 * c) 11 = nI 0) ∧ ∀ k j, oSd k j → u k j = σ k j := by
  intro d
  induction d with
  | zero =>
    intro ν _ h11 hx
    exact ⟨ν, rfl, h11, hx⟩
  | succ d ih =>
    intro ν hd h11 hx
    have hy : ∀ k j, (∀ c, c < 4 → ¬ (k = 15 + 6 * c ∧ (j = 11 ∨ j = 12)) ∧ k ≠ 20 + 6 * c) → ν k j = σ k j := hx
    obtain ⟨p0, ⟨p1, p2, p3⟩, -⟩ := PJ_cg (fun k h1 h2 j hj => hy k j (fun c hc => by omega)) hpj
    obtain ⟨a, e1, a11, af⟩ := bt_l (K := 2 * d + 2) (i := 30 - 2 * (d + 1)) (t := 0) (s := 2) (p := 1) (r := 0) (nv := nI 1) (by decide) (by omega) (fun c hc _ => h11 c hc) p0 (by decide) (by decide) p1 p2 p3 (by decide) (FZ_cg (fun c hc j hj => hy _ j (fun e he => by omega)) hz) (fun c hc _ => by rw [hy _ _ (fun e he => by omega)]; exact hst c hc)
    have non : ∀ c, c < 3 → ν (15 + 6 * c) 6 ≠ 0 := fun c hc => by rw [hy _ _ (fun e he => by omega)]; exact hon c hc
    have ax : ∀ k j, (∀ c, c < 4 → ¬ (k = 15 + 6 * c ∧ (j = 11 ∨ j = 12)) ∧ k ≠ 20 + 6 * c) → a k j = σ k j := fun k j h => by rw [af k j (fun c hc => by have := h c hc; omega), hy k j h]
    have a20 : ∀ c, c < 4 → a (20 + 6 * c) 0 = nI 1 := fun c hc => by
      rw [(a11 c hc (fun h => non c h)).2]
      exact stk_no (by decide) (by decide) (by rw [hy _ _ (fun e he => by omega)]; exact h5 c hc)
    obtain ⟨q0, -, q1, q2, q3⟩ := PJ_cg (fun k h1 h2 j hj => ax k j (fun c hc => by omega)) hpj
    obtain ⟨b, e2, b11, bf⟩ := bt_j (K := 2 * d + 1) (i := 30 - 2 * (d + 1) + 1) (t := 1) (s := 2) (p := 1) (r := 0) (m := 0) (by decide) (by omega) (fun c hc _ => (a11 c hc (fun h => non c h)).1) q0 (by decide) (by decide) q1 q2 q3 (by decide) (by decide) (FZ_cg (fun c hc j hj => ax _ j (fun e he => by omega)) hz) (fun c hc => by rw [a20 c hc]; decide) (fun c hc _ => by rw [ax _ _ (fun e he => by omega)]; exact hst c hc)
    have bon : ∀ c, c < 3 → a (15 + 6 * c) 6 ≠ 0 := fun c hc => by rw [ax _ _ (fun e he => by omega)]; exact hon c hc
    obtain ⟨u, e3, u11, uf⟩ := ih b (by omega) (fun c hc => b11 c hc (fun h => bon c h)) (fun k j h => by
      have h' : ∀ c, c < 4 → ¬ (k = 15 + 6 * c ∧ (j = 11 ∨ j = 12)) ∧ k ≠ 20 + 6 * c := h
      rw [bf k j (fun c hc => (h' c hc).1), ax k j h'])
    refine ⟨u, ?_, u11, uf⟩
    rw [show 2 * (d + 1) + 1 = 2 * d + 2 + 1 by omega, e1, show 2 * d + 2 = 2 * d + 1 + 1 by omega, e2, show 30 - 2 * (d + 1) + 1 + 1 = 30 - 2 * d by omega, e3]
theorem run_j {σ : TS} (hpj : PJ σ) (hz : FZ σ) (hon : ∀ c, c < 3 → σ (15 + 6 * c) 6 ≠ 0) (hst : ∀ c, c < 3 → σ (15 + 6 * c) 4 < 3) (h5 : ∀ c, c < 4 → σ (15 + 6 * c) 5 = -1) : ∃ u, sX8_runSlot (nI 1) σ = some (0, u) ∧ u (39 + 4 * 1) 4 = σ (39 + 4 * 1) 4 + 1 ∧ ∀ k j, ¬ (k = 43 ∧ j = 4) → (∀ c, c < 4 → ¬ (k = 15 + 6 * c ∧ (j = 11 ∨ j = 12)) ∧ k ≠ 20 + 6 * c) → u k j = σ k j := by
  obtain ⟨a, e0, a11, af⟩ := c_begs σ (show 1 < 3 by decide)
  obtain ⟨u, e1, u11, uf⟩ := run_j_loop hpj hz hon hst h5 15 a (by decide) a11 (fun k j h => by
    have h' : ∀ c, c < 4 → ¬ (k = 15 + 6 * c ∧ (j = 11 ∨ j = 12)) ∧ k ≠ 20 + 6 * c := h
    exact af k j (fun c hc => by have := h' c hc; omega))
  have ux : ∀ k j, (∀ c, c < 4 → ¬ (k = 15 + 6 * c ∧ (j = 11 ∨ j = 12)) ∧ k ≠ 20 + 6 * c) → u k j = σ k j := uf
  have u3 : u (39 + 4 * 1) 3 = nI 2 := (ux _ _ (fun c hc => by omega)).trans hpj.1
  have uon : ∀ c, c < 3 → u (15 + 6 * c) 6 ≠ 0 := fun c hc => by rw [ux _ _ (fun e he => by omega)]; exact hon c hc
  have hone : sX8_isOneOfThreeLeft 1 u = some (1, u) := by
    rw [c_one (t := 0) (s := 2) (fun c hc _ => u11 c (by omega)) u3 (by decide) (by decide), if_pos ⟨by decide, by rw [onb_3 uon]; decide⟩]
  refine ⟨_, by rw [e0]; exact e1.trans (c_full.trans (c_72y hone)), ?_, fun k j h1 h2 => ?_⟩
  · rw [st2_eq, ux _ _ (fun c hc => by omega)]
  · rw [st2_off _ _ (fun g => h1 ⟨g.1, g.2⟩)]
    exact ux k j h2
/-- time, mode, overruns of the partition 1 -/
def FU (τ m ov : Nat) (σ : TS) : Prop := (qS σ ∧ qC σ ∧ qA σ ∧ FZ σ) ∧ PJ σ ∧ (σ 0 10 = nI τ ∧ σ 0 11 = nI m ∧ (∀ i, i < 3 → σ 3 i = -1) ∧ σ 4 0 = nI 1 ∧ σ 4 1 = -1 ∧ σ 4 2 = -1) ∧ (∀ c, c < 3 → σ (15 + 6 * c) 6 ≠ 0) ∧ (∀ c, c < 3 → σ (15 + 6 * c) 4 = 0) ∧ (∀ c, c < 4 → σ (15 + 6 * c) 5 = -1) ∧ σ (39 + 4 * 1) 4 = nI ov
theorem FU_0 {τ ov : Nat} {σ : TS} (hτ : τ + 1 < 2 ^ 31) (h : FU τ 0 ov σ) : ∃ u, sX8_frame σ = some (nI 3, u) ∧ FU (τ + 1) 0 ov u ∧ u 0 12 = σ 0 12 ∧ u 0 13 = σ 0 13 := by
  obtain ⟨⟨hqS, hqC, hqA, hz⟩, hpj, ⟨h10, h11, s3, s40, s41, s42⟩, hon, h4, h5, hov⟩ := h
  obtain ⟨ρ, hρ⟩ : ∃ ρ, ρ = st2 σ 0 10 (nI (τ + 1)) := ⟨_, rfl⟩
  have rx : ∀ a j, ¬ (a = 0 ∧ j = 10) → ρ a j = σ a j := fun a j h => by rw [hρ]; exact st2_off _ _ h
  have r10 : ρ 0 10 = nI (τ + 1) := by rw [hρ, st2_eq]
  have r11 : ρ 0 11 = nI 0 := (rx 0 11 (by decide)).trans h11
  have rs : ∀ i, i < 3 → ρ (3 + 0) i = -1 := fun i hi => (rx _ _ (by omega)).trans (s3 i hi)
  have rqC : qC ρ := qC_cg (fun c hc => ⟨rx _ _ (by omega), rx _ _ (by omega), fun j => rx _ _ (by omega)⟩) hqC
  have rqA : qA ρ := qA_cg (fun a j h => rx a j (by omega)) hqA
  have rz : FZ ρ := FZ_cg (fun c hc j hj => rx _ _ (by omega)) hz
  have ron : ∀ c, c < 3 → ρ (15 + 6 * c) 6 ≠ 0 := fun c hc => by rw [rx _ _ (by omega)]; exact hon c hc
  have hf : sX8_frame σ = some (nI 3, plc ρ) := by
    rw [c_head hqS (by rw [onb_3 hon]; decide), h10, nI_1, ← hρ, c_46 r11 (by decide) 3 (show 0 < 3 by decide), if_pos (rs 0 (by decide)), c_46 r11 (by decide) 2 (show 1 < 3 by decide), if_pos (rs 1 (by decide)), c_46 r11 (by decide) 1 (show 2 < 3 by decide), if_pos (rs 2 (by decide)), c_46e, c_scrub0 r10 hτ (fun c hc i hi => rz c (by omega) i hi), Option.bind_some, c_tail rqC rqA, onb_3 ron]
  have px : ∀ a j, a < 70 → ¬ (a = 0 ∧ j = 10) → plc ρ a j = σ a j := fun a j h h2 => by rw [plc_fr _ h, rx a j h2]
  refine ⟨plc ρ, hf, ⟨⟨qS_cj (fun a j h1 h2 => px a j h2 (by omega)) hqS, qC_cg (fun c hc => ⟨px _ _ (by omega) (by omega), px _ _ (by omega) (by omega), fun j => px _ _ (by omega) (by omega)⟩) hqC, plc_qA rqA, FZ_cg (fun c hc j hj => px _ _ (by omega) (by omega)) hz⟩, PJ_cg (fun a h1 h2 j hj => px a j (by omega) (by omega)) hpj, ⟨?_, ?_, fun i hi => ?_, ?_, ?_, ?_⟩, fun c hc => ?_, fun c hc => ?_, fun c hc => ?_, ?_⟩, px 0 12 (by decide) (by decide), px 0 13 (by decide) (by decide)⟩
  · rw [plc_fr _ (by decide)]; exact r10
  · rw [px _ _ (by omega) (by omega)]; exact h11
  · rw [px _ _ (by omega) (by omega)]; exact s3 i hi
  · rw [px _ _ (by omega) (by omega)]; exact s40
  · rw [px _ _ (by omega) (by omega)]; exact s41
  · rw [px _ _ (by omega) (by omega)]; exact s42
  · rw [px _ _ (by omega) (by omega)]; exact hon c hc
  · rw [px _ _ (by omega) (by omega)]; exact h4 c hc
  · rw [px _ _ (by omega) (by omega)]; exact h5 c hc
  · rw [px _ _ (by omega) (by omega)]; exact hov
theorem FU_1 {τ ov : Nat} {σ : TS} (hτ : τ + 1 < 2 ^ 31) (h : FU τ 1 ov σ) : ∃ u, sX8_frame σ = some (nI 3, u) ∧ FU (τ + 1) 1 (ov + 1) u ∧ u 0 12 = σ 0 12 ∧ u 0 13 = σ 0 13 := by
  obtain ⟨⟨hqS, hqC, hqA, hz⟩, hpj, ⟨h10, h11, s3, s40, s41, s42⟩, hon, h4, h5, hov⟩ := h
  obtain ⟨ρ, hρ⟩ : ∃ ρ, ρ = st2 σ 0 10 (nI (τ + 1)) := ⟨_, rfl⟩
  have rx : ∀ a j, ¬ (a = 0 ∧ j = 10) → ρ a j = σ a j := fun a j h => by rw [hρ]; exact st2_off _ _ h
  obtain ⟨μ, er, mo, mf⟩ := run_j (σ := ρ) (PJ_cg (fun a h1 h2 j hj => rx a j (by omega)) hpj) (FZ_cg (fun c hc j hj => rx _ _ (by omega)) hz) (fun c hc => by rw [rx _ _ (by omega)]; exact hon c hc) (fun c hc => by rw [rx _ _ (by omega), h4 c hc]; decide) (fun c hc => by rw [rx _ _ (by omega)]; exact h5 c hc)
  have mx : ∀ a j, ¬ (a = 0 ∧ j = 10) → ¬ (a = 43 ∧ j = 4) → (∀ c, c < 4 → ¬ (a = 15 + 6 * c ∧ (j = 11 ∨ j = 12)) ∧ a ≠ 20 + 6 * c) → μ a j = σ a j := fun a j h1 h2 h3 => by rw [mf a j h2 h3, rx a j h1]
  have r10 : μ 0 10 = nI (τ + 1) := by rw [mf _ _ (by omega) (fun c hc => by omega), hρ, st2_eq]
  have m11 : μ 0 11 = nI 1 := (mx _ _ (by omega) (by omega) (fun c hc => by omega)).trans h11
  have g11 : ρ 0 11 = nI 1 := (rx _ _ (by omega)).trans h11
  have g0 : ρ (3 + 1) 0 = nI 1 := (rx _ _ (by omega)).trans s40
  have g0n : ¬ ρ (3 + 1) 0 = -1 := by rw [g0]; decide
  have m1 : μ (3 + 1) 1 = -1 := (mx _ _ (by omega) (by omega) (fun c hc => by omega)).trans s41
  have m2 : μ (3 + 1) 2 = -1 := (mx _ _ (by omega) (by omega) (fun c hc => by omega)).trans s42
  have mqC : qC μ := qC_cg (fun c hc => ⟨mx _ _ (by omega) (by omega) (fun d hd => by omega), mx _ _ (by omega) (by omega) (fun d hd => by omega), fun j => mx _ _ (by omega) (by omega) (fun d hd => by omega)⟩) hqC
  have mqA : qA μ := qA_cg (fun a j h => mx a j (by omega) (by omega) (fun d hd => by omega)) hqA
  have mz : FZ μ := FZ_cg (fun c hc j hj => mx _ _ (by omega) (by omega) (fun d hd => by omega)) hz
  have mon : ∀ c, c < 3 → μ (15 + 6 * c) 6 ≠ 0 := fun c hc => by rw [mx _ _ (by omega) (by omega) (fun d hd => by omega)]; exact hon c hc
  have hf : sX8_frame σ = some (nI 3, plc μ) := by
    rw [c_head hqS (by rw [onb_3 hon]; decide), h10, nI_1, ← hρ, c_46 g11 (by decide) 3 (show 0 < 3 by decide), if_neg g0n, g0, er, Option.bind_some]
    dsimp only
    rw [c_46 m11 (by decide) 2 (show 1 < 3 by decide), if_pos m1, c_46 m11 (by decide) 1 (show 2 < 3 by decide), if_pos m2, c_46e, c_scrub0 r10 hτ (fun c hc i hi => mz c (by omega) i hi), Option.bind_some, c_tail mqC mqA, onb_3 mon]
  have px : ∀ a j, a < 70 → plc μ a j = μ a j := fun a j h => by rw [plc_fr _ h]
  have pz : ∀ a j, a < 70 → ¬ (a = 0 ∧ j = 10) → ¬ (a = 43 ∧ j = 4) → (∀ c, c < 4 → ¬ (a = 15 + 6 * c ∧ (j = 11 ∨ j = 12)) ∧ a ≠ 20 + 6 * c) → plc μ a j = σ a j := fun a j h h1 h2 h3 => by rw [px a j h, mx a j h1 h2 h3]
  refine ⟨plc μ, hf, ⟨⟨qS_cj (fun a j h1 h2 => pz a j h2 (by omega) (by omega) (fun d hd => by omega)) hqS, qC_cg (fun c hc => ⟨px _ _ (by omega), px _ _ (by omega), fun j => px _ _ (by omega)⟩) mqC, plc_qA mqA, FZ_cg (fun c hc j hj => px _ _ (by omega)) mz⟩, PJ_cg (fun a h1 h2 j hj => pz a j (by omega) (by omega) (by omega) (fun d hd => by omega)) hpj, ⟨?_, ?_, fun i hi => ?_, ?_, ?_, ?_⟩, fun c hc => ?_, fun c hc => ?_, fun c hc => ?_, ?_⟩, ?_, ?_⟩
  · rw [px _ _ (by omega)]; exact r10
  · rw [px _ _ (by omega)]; exact m11
  · rw [pz _ _ (by omega) (by omega) (by omega) (fun d hd => by omega)]; exact s3 i hi
  · rw [pz _ _ (by omega) (by omega) (by omega) (fun d hd => by omega)]; exact s40
  · rw [pz _ _ (by omega) (by omega) (by omega) (fun d hd => by omega)]; exact s41
  · rw [pz _ _ (by omega) (by omega) (by omega) (fun d hd => by omega)]; exact s42
  · rw [px _ _ (by omega)]; exact mon c hc
  · rw [pz _ _ (by omega) (by omega) (by omega) (fun d hd => by omega)]; exact h4 c hc
  · rw [pz _ _ (by omega) (by omega) (by omega) (fun d hd => by omega)]; exact h5 c hc
  · rw [px _ _ (by omega), mo, rx _ _ (by omega), hov, nI_1]
  · rw [pz _ _ (by omega) (by omega) (by omega) (fun d hd => by omega)]
  · rw [pz _ _ (by omega) (by omega) (by omega) (fun d hd => by omega)]
theorem k_arm (σ : TS) : sX8_arm 109 σ = some (.inl (σ 0 10 + 3), st2 (st2 σ 0 12 109) 0 13 (σ 0 10 + 3)) := by
  have e : sX8_arm 109 σ = some (.inl ((st2 (st2 σ 0 12 109) 0 13 (((st2 σ 0 12 109) 0 10) + ((3 : Int32)))) 0 13), st2 (st2 σ 0 12 109) 0 13 (((st2 σ 0 12 109) 0 10) + ((3 : Int32)))) := rfl
  rw [e, st2_eq, st2_nj σ 109 (show (10 : Nat) ≠ 12 by decide)]
theorem k_give {σ : TS} (h12 : σ 0 12 = 109) (h13 : ¬ σ 0 13 < σ 0 10) : sX8_give 109 σ = some (.inl (1 - σ 0 11), st2 (st2 σ 0 12 0) 0 11 (1 - σ 0 11)) := by
  have e : sX8_give 109 σ = sX8_give_7 109 σ := rfl
  have e2 : sX8_give_31 109 1 σ = some (.inl ((st2 (st2 σ 0 12 0) 0 11 ((1 : Int32) - ((st2 σ 0 12 0) 0 11))) 0 11), st2 (st2 σ 0 12 0) 0 11 ((1 : Int32) - ((st2 σ 0 12 0) 0 11))) := rfl
  rw [e]
  unfold sX8_give_7
  rw [if_pos h12, if_neg h13, e2, st2_eq, st2_nj σ 0 (show (11 : Nat) ≠ 12 by decide)]
theorem k_late {σ : TS} (h13 : σ 0 13 < σ 0 10) : sX8_give 109 σ = some (.inr 4, σ) := by
  have e : sX8_give 109 σ = sX8_give_7 109 σ := rfl
  rw [e]
  unfold sX8_give_7
  by_cases h : σ 0 12 = 109
  · rw [if_pos h, if_pos h13]
    rfl
  · rw [if_neg h]
    rfl
/-- the partition 0 with k instructions -/
def oS : Nat → TS
  | 0 => T0
  | k + 1 => st2 (st2 (st2 (st2 (oS k) (40 + 4 * 0) k 106) (41 + 4 * 0) k 0) (42 + 4 * 0) k 9) (39 + 4 * 0) 3 (nI (k + 1))
theorem oS_3 : ∀ k, oS k (39 + 4 * 0) 3 = nI k
  | 0 => rfl
  | k + 1 => st2_eq _ _ _ _
theorem o_code {k : Nat} (hk : k < 10) : sX8_code (0 : Int32) (lchr (106 : Int32)) (0 : Int32) (9 : Int32) (oS k) = some (.inl (nI (k + 1)), oS (k + 1)) := by
  rw [show lchr (106 : Int32) = 106 by decide]
  exact k_code (p := 0) (s := k) (by decide) (oS_3 k) hk rfl rfl
theorem o_full : sX8_code (0 : Int32) (lchr (106 : Int32)) (0 : Int32) (9 : Int32) (oS 10) = some (.inr 3, oS 10) := by
  rw [show lchr (106 : Int32) = 106 by decide]
  exact k_full (p := 0) (s := 10) (by decide) (oS_3 10) (by decide) (by decide) rfl
theorem full_all : ∃ o1 o2 p1 p2 p3 p4 p5 p6 p7 p8 p9 pa pb pc pd,
    (sX8_clear (0 : Int32) (oS 10) = some (.inl 10, o1) ∧ sX8_clear (0 : Int32) o1 = some (.inl 0, o2)) ∧
    (sX8_code (1 : Int32) (lchr (108 : Int32)) (0 : Int32) (1 : Int32) T0 = some (.inl 1, p1) ∧ sX8_code (1 : Int32) (lchr (106 : Int32)) (0 : Int32) (0 : Int32) p1 = some (.inl 2, p2) ∧ sX8_slot (1 : Int32) (0 : Int32) (1 : Int32) p2 = some (.inl (-1), p3) ∧ sX8_frame p3 = some (3, p4) ∧ sX8_overruns (1 : Int32) p4 = some (.inl 0, p4)) ∧
    (sX8_arm (lchr (109 : Int32)) p4 = some (.inl 4, p5) ∧ sX8_give (lchr (109 : Int32)) p5 = some (.inl 1, p6) ∧ sX8_frame p6 = some (3, p7) ∧ sX8_overruns (1 : Int32) p7 = some (.inl 1, p7) ∧ sX8_frame p7 = some (3, p8) ∧ sX8_overruns (1 : Int32) p8 = some (.inl 2, p8)) ∧
    (sX8_arm (lchr (109 : Int32)) p8 = some (.inl 6, p9) ∧ sX8_frame p9 = some (3, pa) ∧ sX8_frame pa = some (3, pb) ∧ sX8_frame pb = some (3, pc) ∧ sX8_frame pc = some (3, pd) ∧ sX8_give (lchr (109 : Int32)) pd = some (.inr 4, pd) ∧ sX8_mode pd = some (1, pd)) := by
  have l109 : lchr (109 : Int32) = 109 := by decide
  obtain ⟨p1, d1⟩ : ∃ x, x = st2 (st2 (st2 (st2 T0 (40 + 4 * 1) 0 108) (41 + 4 * 1) 0 0) (42 + 4 * 1) 0 1) (39 + 4 * 1) 3 (nI (0 + 1)) := ⟨_, rfl⟩
  obtain ⟨p2, d2⟩ : ∃ x, x = st2 (st2 (st2 (st2 p1 (40 + 4 * 1) 1 106) (41 + 4 * 1) 1 0) (42 + 4 * 1) 1 0) (39 + 4 * 1) 3 (nI (1 + 1)) := ⟨_, rfl⟩
  obtain ⟨p3, d3⟩ : ∃ x, x = st2 p2 (3 + 1) 0 (nI 1) := ⟨_, rfl⟩
  have x1 : ∀ a j, a < 43 ∨ 46 < a → p1 a j = T0 a j := fun a j h => by rw [d1, st2_ne _ _ _ (by omega), st2_ne _ _ _ (by omega), st2_ne _ _ _ (by omega), st2_ne _ _ _ (by omega)]
  have x2 : ∀ a j, a < 43 ∨ 46 < a → p2 a j = T0 a j := fun a j h => by rw [d2, st2_ne _ _ _ (by omega), st2_ne _ _ _ (by omega), st2_ne _ _ _ (by omega), st2_ne _ _ _ (by omega)]; exact x1 a j h
  have x3 : ∀ a j, a < 43 ∨ 46 < a → ¬ (a = 4 ∧ j = 0) → p3 a j = T0 a j := fun a j h h2 => by rw [d3, st2_off _ _ (by omega)]; exact x2 a j h
  have c1 : sX8_code (1 : Int32) (lchr (108 : Int32)) (0 : Int32) (1 : Int32) T0 = some (.inl 1, p1) := by
    rw [show lchr (108 : Int32) = 108 by decide, d1]
    exact k_code (p := 1) (s := 0) (by decide) rfl (by decide) rfl rfl
  have c2 : sX8_code (1 : Int32) (lchr (106 : Int32)) (0 : Int32) (0 : Int32) p1 = some (.inl 2, p2) := by
    rw [show lchr (106 : Int32) = 106 by decide, d2]
    exact k_code (p := 1) (s := 1) (by decide) (by rw [d1]; rfl) (by decide) rfl rfl
  have c3 : sX8_slot (1 : Int32) (0 : Int32) (1 : Int32) p2 = some (.inl (-1), p3) := by
    have h := k_slot (σ := p2) (m := 1) (i := 0) (p := 1) (by decide) (by decide) (by decide)
    rw [x2 (3 + 1) 0 (by decide), ← d3] at h
    exact h
  have pj2 : PJ p2 := by
    rw [d2, d1]
    exact ⟨rfl, ⟨rfl, rfl, rfl⟩, rfl, rfl, rfl⟩
  have pj3 : PJ p3 := PJ_cg (fun a h1 h2 j hj => by rw [d3, st2_ne _ _ _ (by omega)]) pj2
  have f3 : FU 0 0 0 p3 := by
    refine ⟨⟨qS_cj (fun a j h1 h2 => x3 a j (by omega) (by omega)) t0_S, qC_cg (fun c hc => ⟨x3 _ _ (by omega) (by omega), x3 _ _ (by omega) (by omega), fun j => x3 _ _ (by omega) (by omega)⟩) t0_C, qA_cg (fun a j h1 => x3 a j (by omega) (by omega)) t0_A, FZ_cg (fun c hc j hj => x3 _ _ (by omega) (by omega)) t0_Z⟩, pj3, ⟨?_, ?_, fun i hi => ?_, ?_, ?_, ?_⟩, fun c hc => ?_, fun c hc => ?_, fun c hc => ?_, ?_⟩
    · exact (x3 0 10 (by decide) (by decide)).trans rfl
    · exact (x3 0 11 (by decide) (by decide)).trans rfl
    · rw [x3 3 i (by decide) (by omega)]
      exact match i, hi with
        | 0, _ => rfl
        | 1, _ => rfl
        | 2, _ => rfl
    · rw [d3]
      exact st2_eq _ _ _ _
    · exact (x3 4 1 (by decide) (by decide)).trans rfl
    · exact (x3 4 2 (by decide) (by decide)).trans rfl
    · rw [x3 _ _ (by omega) (by omega), t0_6 c hc]
      decide
    · rw [x3 _ _ (by omega) (by omega)]
      exact t0_4 c hc
    · rw [x3 _ _ (by omega) (by omega)]
      exact t0_5 c hc
    · rw [d3, st2_ne _ _ _ (by omega), d2, st2_off _ _ (by omega), st2_ne _ _ _ (by omega), st2_ne _ _ _ (by omega), st2_ne _ _ _ (by omega), d1, st2_off _ _ (by omega), st2_ne _ _ _ (by omega), st2_ne _ _ _ (by omega), st2_ne _ _ _ (by omega)]
      rfl
  have hov : ∀ {τ m ov : Nat} {u : TS}, FU τ m ov u → sX8_overruns (1 : Int32) u = some (.inl (nI ov), u) := fun {τ m ov u} h => by
    have e := k_overruns (w := 1) (by decide) u
    rw [h.2.2.2.2.2.2] at e
    exact e
  have hcg : ∀ {τ m m' ov : Nat} {u u' : TS}, FU τ m ov u → (∀ a j, ¬ (a = 0 ∧ (j = 11 ∨ j = 12 ∨ j = 13)) → u' a j = u a j) → u' 0 11 = nI m' → FU τ m' ov u' := fun {τ m m' ov u u'} h hx hm => by
    obtain ⟨⟨hqS, hqC, hqA, hz⟩, hpj, ⟨h10, h11, s3, s40, s41, s42⟩, hon, h4, h5, ho⟩ := h
    exact ⟨⟨qS_cj (fun a j h1 h2 => hx a j (by omega)) hqS, qC_cg (fun c hc => ⟨hx _ _ (by omega), hx _ _ (by omega), fun j => hx _ _ (by omega)⟩) hqC, qA_cg (fun a j h1 => hx a j (by omega)) hqA, FZ_cg (fun c hc j hj => hx _ _ (by omega)) hz⟩, PJ_cg (fun a h1 h2 j hj => hx a j (by omega)) hpj, ⟨(hx _ _ (by omega)).trans h10, hm, fun i hi => (hx _ _ (by omega)).trans (s3 i hi), (hx _ _ (by omega)).trans s40, (hx _ _ (by omega)).trans s41, (hx _ _ (by omega)).trans s42⟩, fun c hc => by rw [hx _ _ (by omega)]; exact hon c hc, fun c hc => (hx _ _ (by omega)).trans (h4 c hc), fun c hc => (hx _ _ (by omega)).trans (h5 c hc), (hx _ _ (by omega)).trans ho⟩
  obtain ⟨p4, e4, f4, -, -⟩ := FU_0 (by decide) f3
  obtain ⟨p5, d5⟩ : ∃ x, x = st2 (st2 p4 0 12 109) 0 13 (p4 0 10 + 3) := ⟨_, rfl⟩
  have t4 : p4 0 10 = nI 1 := f4.2.2.1.1
  have m4 : p4 0 11 = nI 0 := f4.2.2.1.2.1
  have a5 : sX8_arm (lchr (109 : Int32)) p4 = some (.inl 4, p5) := by
    rw [l109, k_arm, ← d5, t4]
    rfl
  have z12 : p5 0 12 = 109 := by rw [d5, st2_off _ _ (by omega), st2_eq]
  have z13 : p5 0 13 = 4 := by rw [d5, st2_eq, t4]; rfl
  have z10 : p5 0 10 = nI 1 := by rw [d5, st2_off _ _ (by omega), st2_off _ _ (by omega)]; exact t4
  have z11 : p5 0 11 = nI 0 := by rw [d5, st2_off _ _ (by omega), st2_off _ _ (by omega)]; exact m4
  obtain ⟨p6, d6⟩ : ∃ x, x = st2 (st2 p5 0 12 0) 0 11 (1 - p5 0 11) := ⟨_, rfl⟩
  have a6 : sX8_give (lchr (109 : Int32)) p5 = some (.inl 1, p6) := by
    rw [l109, k_give z12 (by rw [z13, z10]; decide), ← d6, z11]
    rfl
  have f6 : FU 1 1 0 p6 := hcg f4 (fun a j h => by rw [d6, st2_off _ _ (by omega), st2_off _ _ (by omega), d5, st2_off _ _ (by omega), st2_off _ _ (by omega)]) (by rw [d6, st2_eq, z11]; rfl)
  obtain ⟨p7, e7, f7, -, -⟩ := FU_1 (by decide) f6
  obtain ⟨p8, e8, f8, -, -⟩ := FU_1 (by decide) f7
  obtain ⟨p9, d9⟩ : ∃ x, x = st2 (st2 p8 0 12 109) 0 13 (p8 0 10 + 3) := ⟨_, rfl⟩
  have t8 : p8 0 10 = nI 3 := f8.2.2.1.1
  have a9 : sX8_arm (lchr (109 : Int32)) p8 = some (.inl 6, p9) := by
    rw [l109, k_arm, ← d9, t8]
    rfl
  have f9 : FU 3 1 2 p9 := hcg f8 (fun a j h => by rw [d9, st2_off _ _ (by omega), st2_off _ _ (by omega)]) (by rw [d9, st2_off _ _ (by omega), st2_off _ _ (by omega)]; exact f8.2.2.1.2.1)
  obtain ⟨pa, ea, fa, -, ga⟩ := FU_1 (by decide) f9
  obtain ⟨pb, eb, fb, -, gb⟩ := FU_1 (by decide) fa
  obtain ⟨pc, ec, fc, -, gc⟩ := FU_1 (by decide) fb
  obtain ⟨pd, ed, fd, -, gd⟩ := FU_1 (by decide) fc
  have z : pd 0 13 = 6 := by
    rw [gd, gc, gb, ga, d9, st2_eq, t8]
    rfl
  refine ⟨st2 (oS 10) (39 + 4 * 0) 3 0, st2 (st2 (oS 10) (39 + 4 * 0) 3 0) (39 + 4 * 0) 3 0, p1, p2, p3, p4, p5, p6, p7, p8, p9, pa, pb, pc, pd, ⟨?_, ?_⟩, ⟨c1, c2, c3, e4, hov f4⟩, ⟨a5, a6, e7, hov f7, e8, hov f8⟩, a9, ea, eb, ec, ed, ?_, ?_⟩
  · have h := k_clear (σ := oS 10) (p := 0) (by decide)
    rw [oS_3 10] at h
    exact h
  · have h := k_clear (σ := st2 (oS 10) (39 + 4 * 0) 3 0) (p := 0) (by decide)
    rw [st2_eq] at h
    exact h
  · rw [l109, k_late (by rw [z, fd.2.2.1.1]; decide)]
  · show some (pd 0 11, pd) = _
    rw [fd.2.2.1.2.1]
    rfl

/-! ===== clocks; actuators ===== -/
theorem onM_14 : ∀ c, c < 4 → onM 14 c = false := by decide +kernel
def tkT (c : Nat) (σ : TS) : TS := st2 σ (15 + 6 * c) 2 (σ (15 + 6 * c) 2 + σ (15 + 6 * c) 3)
def tkM (c : Nat) (μ : TS) : TS := st2 (st2 μ 13 c (μ 13 c + μ 15 c)) 14 c (μ 13 c + μ 15 c)
theorem rS_tk {σ μ : TS} (h : RS allS σ μ) {c : Nat} (hc : c < 3) : RS allS (tkT c σ) (tkM c μ) := by
  have h2 : σ (15 + 6 * c) 2 = μ 13 c := h _ (tm_clock c hc) rfl
  have h3 : σ (15 + 6 * c) 3 = μ 15 c := h _ (tm_drift c hc) rfl
  unfold tkT tkM
  exact rS_M (rS_up h (tm_clock c hc) (by rw [h2, h3]; rfl)) (onM_14 c (by omega)) _
theorem t_tick (σ : TS) : sX8_tickClocks σ = some (0, tkT 2 (tkT 1 (tkT 0 σ))) := by
  have hd : ∀ K (a : Int32) (ν : TS), sX8_tickClocks_2 (K + 1) a ν = (if ((3 : Int32)) ≤ a then some (0, ν) else (if vin a 3 = true then sX8_tickClocks_2 K (a + (1 : Int32)) (st2 ν (15+6*(a.toNatClampNeg)) 2 ((ν (15+6*(a.toNatClampNeg)) 2) + (ν (15+6*(a.toNatClampNeg)) 3))) else none)) := fun _ _ _ => rfl
  have hs : ∀ K c (ν : TS), c < 3 → sX8_tickClocks_2 (K + 1) (nI c) ν = sX8_tickClocks_2 K (nI (c + 1)) (tkT c ν) := fun K c ν hc => by
    rw [hd, if_neg (show ¬ (3 : Int32) ≤ nI c from nI_ge (b := 3) hc (by decide)), if_pos (vin_nI hc (by decide)), nI_clamp (show c < 2 ^ 31 by omega), nI_1]
    rfl
  have h0 : sX8_tickClocks σ = sX8_tickClocks_2 4 (nI 0) σ := rfl
  rw [h0, hs 3 0 _ (by decide), hs 2 1 _ (by decide), hs 1 2 _ (by decide), hd, if_pos (show (3 : Int32) ≤ nI (2 + 1) by decide)]
theorem m_kc2_def (K : Nat) (a : Int32) (μ : TS) : sX9_keepClocks_2 (K + 1) a μ = (if ((3 : Int32)) ≤ a then ((sX9_on μ).bind (fun z => sX9_keepClocks_44 z.1 z.2)) else (if vin a 4 = true then sX9_keepClocks_2 K (a + (1 : Int32)) (st2 (st2 μ 13 (a.toNatClampNeg) ((μ 13 (a.toNatClampNeg)) + (μ 15 (a.toNatClampNeg)))) 14 (a.toNatClampNeg) ((st2 μ 13 (a.toNatClampNeg) ((μ 13 (a.toNatClampNeg)) + (μ 15 (a.toNatClampNeg)))) 13 (a.toNatClampNeg))) else none)) := rfl
theorem m_tick (μ : TS) : sX9_keepClocks μ = (sX9_on (tkM 2 (tkM 1 (tkM 0 μ)))).bind (fun z => sX9_keepClocks_44 z.1 z.2) := by
  have hs : ∀ K c (ν : TS), c < 3 → sX9_keepClocks_2 (K + 1) (nI c) ν = sX9_keepClocks_2 K (nI (c + 1)) (tkM c ν) := fun K c ν hc => by
    rw [m_kc2_def, if_neg (show ¬ (3 : Int32) ≤ nI c from nI_ge (b := 3) hc (by decide)), if_pos (vin_nI (show c < 4 by omega) (by decide)), nI_clamp (show c < 2 ^ 31 by omega), nI_1, st2_eq]
    rfl
  have h0 : sX9_keepClocks μ = sX9_keepClocks_2 4 (nI 0) μ := rfl
  rw [h0, hs 3 0 _ (by decide), hs 2 1 _ (by decide), hs 1 2 _ (by decide), m_kc2_def, if_pos (show (3 : Int32) ≤ nI (2 + 1) by decide)]
def hoM (c : Nat) (μ : TS) : TS := st2 μ 13 c (md (μ 14 c) (μ 14 ((c + 1) % 3) + μ 29 (3 * ((c + 1) % 3) + c)) (μ 14 ((c + 2) % 3) + μ 29 (3 * ((c + 2) % 3) + c)))
theorem m_hold (μ : TS) : sX9_keepClocks_51 4 (nI 0) μ = some (0, hoM 2 (hoM 1 (hoM 0 μ))) := by
  have hd : ∀ K (a : Int32) (ν : TS), sX9_keepClocks_51 (K + 1) a ν = (if ((3 : Int32)) ≤ a then some (0, ν) else (if vin a 4 = true then (if vin ((a + ((1 : Int32))) - (a + ((1 : Int32))) / ((3 : Int32)) * ((3 : Int32))) 4 = true then (if vin ((((a + ((1 : Int32))) - (a + ((1 : Int32))) / ((3 : Int32)) * ((3 : Int32))) * ((3 : Int32))) + a) 9 = true then (if vin ((a + ((2 : Int32))) - (a + ((2 : Int32))) / ((3 : Int32)) * ((3 : Int32))) 4 = true then (if vin ((((a + ((2 : Int32))) - (a + ((2 : Int32))) / ((3 : Int32)) * ((3 : Int32))) * ((3 : Int32))) + a) 9 = true then ((sX9_middle (ν 14 (a.toNatClampNeg)) ((ν 14 (((a + ((1 : Int32))) - (a + ((1 : Int32))) / ((3 : Int32)) * ((3 : Int32))).toNatClampNeg)) + (ν 29 (((((a + ((1 : Int32))) - (a + ((1 : Int32))) / ((3 : Int32)) * ((3 : Int32))) * ((3 : Int32))) + a).toNatClampNeg))) ((ν 14 (((a + ((2 : Int32))) - (a + ((2 : Int32))) / ((3 : Int32)) * ((3 : Int32))).toNatClampNeg)) + (ν 29 (((((a + ((2 : Int32))) - (a + ((2 : Int32))) / ((3 : Int32)) * ((3 : Int32))) * ((3 : Int32))) + a).toNatClampNeg))) ν).bind (fun z => sX9_keepClocks_116 (sX9_keepClocks_51 K) a a z.1 z.2)) else none) else none) else none) else none) else none)) := fun _ _ _ => rfl
  have hs : ∀ K c (ν : TS), c < 3 → sX9_keepClocks_51 (K + 1) (nI c) ν = sX9_keepClocks_51 K (nI (c + 1)) (hoM c ν) := fun K c ν hc => by
    have i1 : (nI c + 1) - (nI c + 1) / 3 * 3 = nI ((c + 1) % 3) := by
      rw [nI_1]
      exact pk_rem (d := 3) (by omega) (by decide) (by decide)
    have i2 : (nI c + 2) - (nI c + 2) / 3 * 3 = nI ((c + 2) % 3) := by
      rw [nI_p2]
      exact pk_rem (d := 3) (by omega) (by decide) (by decide)
    have m1 : (c + 1) % 3 < 3 := Nat.mod_lt _ (by decide)
    have m2 : (c + 2) % 3 < 3 := Nat.mod_lt _ (by decide)
    rw [hd, if_neg (show ¬ (3 : Int32) ≤ nI c from nI_ge (b := 3) hc (by decide)), i1, i2, nI_m3, nI_m3, nI_add, nI_add, if_pos (vin_nI (show c < 4 by omega) (by decide)), if_pos (vin_nI (show (c + 1) % 3 < 4 by omega) (by decide)), if_pos (vin_nI (show 3 * ((c + 1) % 3) + c < 9 by omega) (by decide)), if_pos (vin_nI (show (c + 2) % 3 < 4 by omega) (by decide)), if_pos (vin_nI (show 3 * ((c + 2) % 3) + c < 9 by omega) (by decide)), nI_clamp (show c < 2 ^ 31 by omega), nI_clamp (show (c + 1) % 3 < 2 ^ 31 by omega), nI_clamp (show (c + 2) % 3 < 2 ^ 31 by omega), nI_clamp (show 3 * ((c + 1) % 3) + c < 2 ^ 31 by omega), nI_clamp (show 3 * ((c + 2) % 3) + c < 2 ^ 31 by omega), m_middle, Option.bind_some]
    unfold sX9_keepClocks_116
    rw [if_pos (vin_nI (show c < 4 by omega) (by decide)), nI_clamp (show c < 2 ^ 31 by omega), nI_1]
    rfl
  rw [hs 3 0 _ (by decide), hs 2 1 _ (by decide), hs 1 2 _ (by decide), hd, if_pos (show (3 : Int32) ≤ nI (2 + 1) by decide)]
theorem t_mclock (σ : TS) {a b d : Nat} (ha : a < 3) (hb : b < 3) (hd : d < 3) : sX8_middleClock (nI a) (nI b) (nI d) σ = some (md (σ (15 + 6 * a) 2) (σ (15 + 6 * b) 2 + σ (19 + 6 * b) a) (σ (15 + 6 * d) 2 + σ (19 + 6 * d) a), σ) := by
  unfold sX8_middleClock sX8_middleClock_0 sX8_middleClock_19 sX8_middleClock_29 sX8_middleClock_32 sX1_clockToldTo sX1_clockToldTo_0
  rw [if_pos (vin_nI ha (by decide)), if_pos (vin_nI hb (by decide)), nI_clamp (show a < 2 ^ 31 by omega), nI_clamp (show b < 2 ^ 31 by omega), nI_clamp (show d < 2 ^ 31 by omega)]
  simp only [if_pos (vin_nI ha (show 3 < 2 ^ 31 by decide)), if_pos (vin_nI hd (show 3 < 2 ^ 31 by decide)), Option.bind_some, t_middle]
theorem t_hold (σ : TS) : sX8_holdClocksTogether σ = some (0, st2 (st2 (st2 σ (15 + 6 * 0) 2 (md (σ (15 + 6 * 0) 2) (σ (15 + 6 * 1) 2 + σ (19 + 6 * 1) 0) (σ (15 + 6 * 2) 2 + σ (19 + 6 * 2) 0))) (15 + 6 * 1) 2 (md (σ (15 + 6 * 1) 2) (σ (15 + 6 * 0) 2 + σ (19 + 6 * 0) 1) (σ (15 + 6 * 2) 2 + σ (19 + 6 * 2) 1))) (15 + 6 * 2) 2 (md (σ (15 + 6 * 2) 2) (σ (15 + 6 * 0) 2 + σ (19 + 6 * 0) 2) (σ (15 + 6 * 1) 2 + σ (19 + 6 * 1) 2))) := by
  unfold sX8_holdClocksTogether sX8_holdClocksTogether_0 sX8_holdClocksTogether_7 sX8_holdClocksTogether_15 sX8_holdClocksTogether_23
  simp only [show (0 : Int32) = nI 0 from rfl, show (1 : Int32) = nI 1 from rfl, show (2 : Int32) = nI 2 from rfl, t_mclock σ (show 0 < 3 by decide) (show 1 < 3 by decide) (show 2 < 3 by decide), t_mclock σ (show 1 < 3 by decide) (show 0 < 3 by decide) (show 2 < 3 by decide), t_mclock σ (show 2 < 3 by decide) (show 0 < 3 by decide) (show 1 < 3 by decide), Option.bind_some]
/-- clocks within new bounds -/
theorem ic_clk {n N : Nat} {μ v : TS} (h : IC n N μ) (hk : ∀ k, k ≠ 13 → k ≠ 14 → v k = μ k) (hb : ∀ c, -(1008 * ((n + 1 : Nat) : Int)) ≤ (v 13 c).toInt ∧ (v 13 c).toInt ≤ 1008 * ((n + 1 : Nat) : Int)) (hB : InvB v) : IC (n + 1) N v := by
  obtain ⟨a1, a2, a3, a4, a5, a6, a7, a8, a9⟩ := h
  have e0 := hk 0 (by decide) (by decide)
  have e10 := hk 10 (by decide) (by decide)
  unfold IC
  refine ⟨?_, ?_, ?_, ?_, hb, ?_, ?_, ?_, hB⟩
  · rw [hk 1 (by decide) (by decide), hk 3 (by decide) (by decide)]
    exact a1
  · rw [e0]
    exact a2
  · rw [e0]
    exact a3
  · unfold onc
    rw [e0, e10]
    exact a4
  · rw [e10, hk 17 (by decide) (by decide), hk 7 (by decide) (by decide)]
    exact a6
  · rw [hk 17 (by decide) (by decide), hk 11 (by decide) (by decide)]
    exact a7
  · unfold InvL
    rw [e0, e10, hk 37 (by decide) (by decide), hk 38 (by decide) (by decide)]
    exact a8
theorem iB_1314 {μ v : TS} (h : InvB μ) (hk : ∀ k, k ≠ 13 → k ≠ 14 → v k = μ k) : InvB v := by
  intro k j
  by_cases h1 : k = 13
  · subst h1
    exact i32_any _
  · by_cases h2 : k = 14
    · subst h2
      exact i32_any _
    · rw [hk k h1 h2]
      exact h k j
theorem clocks {n N : Nat} {σ μ : TS} (h : RI allS n N σ μ) (hsk : SK μ) (hn : n ≤ 600) :
    ∃ u v, ((sX8_tickClocks σ).bind (fun z => sX8_frame_87 z.2)) = sX8_frame_99 u ∧ sX9_keepClocks μ = some (0, v) ∧ RI allS (n + 1) N u v ∧ SK v ∧ u 0 = σ 0 ∧ (∀ k, k ≠ 13 → k ≠ 14 → v k = μ k) := by
  obtain ⟨hR, hI, hT⟩ := h
  have hB := ic_B hI
  have r3 : RS allS (tkT 2 (tkT 1 (tkT 0 σ))) (tkM 2 (tkM 1 (tkM 0 μ))) := rS_tk (rS_tk (rS_tk hR (by decide)) (by decide)) (by decide)
  have kM : ∀ c (ν : TS) k, k ≠ 13 → k ≠ 14 → tkM c ν k = ν k := fun c ν k h1 h2 => by
    unfold tkM
    rw [st2_ne _ _ _ h2, st2_ne _ _ _ h1]
  have k3 : ∀ k, k ≠ 13 → k ≠ 14 → tkM 2 (tkM 1 (tkM 0 μ)) k = μ k := fun k h1 h2 => by rw [kM _ _ _ h1 h2, kM _ _ _ h1 h2, kM _ _ _ h1 h2]
  have e13 : ∀ c, c < 3 → tkM 2 (tkM 1 (tkM 0 μ)) 13 c = μ 13 c + μ 15 c := fun c hc => by
    rcases (show c = 0 ∨ c = 1 ∨ c = 2 by omega) with rfl | rfl | rfl <;> rfl
  have e14 : ∀ c, c < 3 → tkM 2 (tkM 1 (tkM 0 μ)) 14 c = μ 13 c + μ 15 c := fun c hc => by
    rcases (show c = 0 ∨ c = 1 ∨ c = 2 by omega) with rfl | rfl | rfl <;> rfl
  have e13' : ∀ c, 3 ≤ c → tkM 2 (tkM 1 (tkM 0 μ)) 13 c = μ 13 c := fun c hc => by
    unfold tkM
    rw [st2_ne _ _ _ (by decide), st2_nj _ _ (by omega), st2_ne _ _ _ (by decide), st2_nj _ _ (by omega), st2_ne _ _ _ (by decide), st2_nj _ _ (by omega)]
  have hck := hI.2.2.2.2.1
  have hsum : ∀ c, -(1008 * (n : Int)) - 9 ≤ (μ 13 c + μ 15 c).toInt ∧ (μ 13 c + μ 15 c).toInt ≤ 1008 * (n : Int) + 9 := fun c => by
    have h1 := hck c
    have h2 : -9 ≤ (μ 15 c).toInt ∧ (μ 15 c).toInt ≤ 9 := hB 15 c
    rw [fb_addI (by omega) (by omega)]
    omega
  have u3 : tkT 2 (tkT 1 (tkT 0 σ)) 0 = σ 0 := by
    unfold tkT
    rw [st2_ne _ _ _ (by decide), st2_ne _ _ _ (by decide), st2_ne _ _ _ (by decide)]
  have t3 : InvT (tkT 2 (tkT 1 (tkT 0 σ))) (tkM 2 (tkM 1 (tkM 0 μ))) := it_same hT (fun k j hk => by
    unfold tieT at hk
    unfold tkT
    rw [st2_off _ _ (by omega), st2_off _ _ (by omega), st2_off _ _ (by omega)]) (k3 0 (by decide) (by decide)) (k3 10 (by decide) (by decide)) (k3 11 (by decide) (by decide)) (k3 25 (by decide) (by decide)) (k3 30 (by decide) (by decide)) (k3 32 (by decide) (by decide))
  have s3 : SK (tkM 2 (tkM 1 (tkM 0 μ))) := by
    unfold SK
    rw [k3 10 (by decide) (by decide), k3 12 (by decide) (by decide)]
    exact hsk
  have I3 : IC (n + 1) N (tkM 2 (tkM 1 (tkM 0 μ))) := by
    refine ic_clk hI k3 (fun c => ?_) (iB_1314 hB k3)
    by_cases hc : c < 3
    · rw [e13 c hc]
      have := hsum c
      omega
    · rw [e13' c (by omega)]
      have := hck c
      omega
  have ho : sX8_countOn (tkT 2 (tkT 1 (tkT 0 σ))) = some (nI (nOn (tkM 2 (tkM 1 (tkM 0 μ)))), tkT 2 (tkT 1 (tkT 0 σ))) := t_on (fun c hc => on_T r3 I3 rfl (by omega))
  have h3 := nOn_3 (tkM 2 (tkM 1 (tkM 0 μ)))
  rw [t_tick, Option.bind_some, m_tick, m_on, Option.bind_some]
  dsimp only
  unfold sX8_frame_87 sX8_frame_91 sX9_keepClocks_44
  rw [ho, Option.bind_some]
  dsimp only
  by_cases h33 : nOn (tkM 2 (tkM 1 (tkM 0 μ))) = 3
  · rw [h33, if_pos (show nI 3 = (3 : Int32) from rfl), if_pos (show (3 : Int32) ≤ nI 3 by decide), t_hold, Option.bind_some, show (0 : Int32) = nI 0 from rfl, m_hold]
    generalize hσ : tkT 2 (tkT 1 (tkT 0 σ)) = σ' at *
    generalize hμ : tkM 2 (tkM 1 (tkM 0 μ)) = μ' at *
    have c2 : ∀ c, c < 3 → σ' (15 + 6 * c) 2 = μ' 14 c := fun c hc => by
      rw [e14 c hc, ← e13 c hc]
      exact r3 _ (tm_clock c hc) rfl
    have cl : ∀ c d, c < 3 → d < 3 → σ' (19 + 6 * c) d = μ' 29 (3 * c + d) := fun c d hc hd => r3 _ (tm_lies c hc d hd) rfl
    rw [c2 0 (by decide), c2 1 (by decide), c2 2 (by decide), cl 1 0 (by decide) (by decide), cl 2 0 (by decide) (by decide), cl 0 1 (by decide) (by decide), cl 2 1 (by decide) (by decide), cl 0 2 (by decide) (by decide), cl 1 2 (by decide) (by decide), md_sw (μ' 14 1)]
    have hrng : ∀ c a b, c < 3 → a < 3 → b < 3 → ∀ i k, -(1008 * ((n + 1 : Nat) : Int)) ≤ (md (μ' 14 c) (μ' 14 a + μ' 29 i) (μ' 14 b + μ' 29 k)).toInt ∧ (md (μ' 14 c) (μ' 14 a + μ' 29 i) (μ' 14 b + μ' 29 k)).toInt ≤ 1008 * ((n + 1 : Nat) : Int) := fun c a b hc ha hb i k => by
      have h29 : ∀ i, -999 ≤ (μ' 29 i).toInt ∧ (μ' 29 i).toInt ≤ 999 := fun i => ic_B I3 29 i
      have q1 := h29 i
      have q2 := h29 k
      have s1 := hsum a
      have s2 := hsum b
      have s4 := hsum c
      have A := fb_addI (x := μ 13 a + μ 15 a) (y := μ' 29 i) (by omega) (by omega)
      have B := fb_addI (x := μ 13 b + μ 15 b) (y := μ' 29 k) (by omega) (by omega)
      rw [md_I, e14 a ha, e14 b hb, e14 c hc, A, B]
      exact mid_rng (by omega) (by omega) (by omega)
    have kH : ∀ c (ν : TS) k, k ≠ 13 → hoM c ν k = ν k := fun c ν k h1 => by
      unfold hoM
      rw [st2_ne _ _ _ h1]
    have kk : ∀ k, k ≠ 13 → k ≠ 14 → hoM 2 (hoM 1 (hoM 0 μ')) k = μ k := fun k h1 h2 => by rw [kH _ _ _ h1, kH _ _ _ h1, kH _ _ _ h1, k3 k h1 h2]
    refine ⟨_, hoM 2 (hoM 1 (hoM 0 μ')), rfl, rfl, ⟨?_, ?_, ?_⟩, ?_, ?_, kk⟩
    · exact rS_up (rS_up (rS_up r3 (tm_clock 0 (by decide)) rfl) (tm_clock 1 (by decide)) rfl) (tm_clock 2 (by decide)) rfl
    · refine ic_clk hI kk (fun c => ?_) (iB_1314 hB kk)
      by_cases hc : c < 3
      · rcases (show c = 0 ∨ c = 1 ∨ c = 2 by omega) with rfl | rfl | rfl
        · exact hrng 0 1 2 (by decide) (by decide) (by decide) _ _
        · exact hrng 1 2 0 (by decide) (by decide) (by decide) _ _
        · exact hrng 2 0 1 (by decide) (by decide) (by decide) _ _
      · unfold hoM
        rw [st2_nj _ _ (by omega), st2_nj _ _ (by omega), st2_nj _ _ (by omega), e13' c (by omega)]
        have := hck c
        omega
    · exact it_same t3 (fun k j hk => by
        unfold tieT at hk
        dsimp only
        rw [st2_off _ _ (by omega), st2_off _ _ (by omega), st2_off _ _ (by omega)]) rfl rfl rfl rfl rfl rfl
    · unfold SK
      rw [kk 10 (by decide) (by decide), kk 12 (by decide) (by decide)]
      exact hsk
    · dsimp only
      rw [st2_ne _ _ _ (by decide), st2_ne _ _ _ (by decide), st2_ne _ _ _ (by decide), u3]
  · rw [if_neg (show ¬ nI (nOn (tkM 2 (tkM 1 (tkM 0 μ)))) = (3 : Int32) from fun g => h33 ((nI_eq (b := 3) (by omega) (by decide)).mp g)), if_neg (show ¬ (3 : Int32) ≤ nI (nOn (tkM 2 (tkM 1 (tkM 0 μ)))) from nI_ge (b := 3) (by omega) (by decide))]
    exact ⟨_, _, rfl, rfl, ⟨r3, I3, t3⟩, s3, u3, k3⟩
/-! actuators -/
theorem steer_c {n N : Nat} {σ μ : TS} {c : Nat} (h : RI allS n N σ μ) (hsk : SK μ) (hc : c < 4) (K K2 : Nat) : ∃ u v, sX8_frame_101 (K + 1) (nI c) σ = sX8_frame_101 K (nI (c + 1)) u ∧ sX9_steer_2 (K2 + 1) (nI c) μ = sX9_steer_2 K2 (nI (c + 1)) v ∧ RI allS n N u v ∧ SK v ∧ u 0 = σ 0 ∧ (∀ k, k ≠ 34 → k ≠ 35 → v k = μ k) := by
  obtain ⟨hR, hI, hT⟩ := h
  have hB := ic_B hI
  have g9 : σ (9 + 0) c = μ 22 c := hR _ (tm_out c hc) rfl
  have gf : ∀ i, i < 3 → σ (71 + 2 * c) i = μ 33 (3 * c + i) := fun i hi => hR _ (tm_fault c hc i hi) rfl
  have gl : σ (70 + 2 * c) 2 = μ 35 c := hR _ (tm_loose c hc) rfl
  have tdef : sX8_frame_101 (K + 1) (nI c) σ = (if ((4 : Int32)) ≤ nI c then ((sX8_countOn σ).bind (fun z => sX8_frame_131 z.1 z.2)) else (if vin (nI c) 4 = true then ((sX0_move ((nI c).toNatClampNeg) (σ (9+0) ((nI c).toNatClampNeg)) σ).bind (fun z => sX8_frame_121 (sX8_frame_101 K) (nI c) z.2)) else none)) := rfl
  have mdef : sX9_steer_2 (K2 + 1) (nI c) μ = (if ((4 : Int32)) ≤ nI c then some (0, μ) else (if vin (nI c) 4 = true then (if vin (nI c * ((3 : Int32))) 12 = true then (if vin ((nI c * ((3 : Int32))) + ((1 : Int32))) 12 = true then (if vin ((nI c * ((3 : Int32))) + ((2 : Int32))) 12 = true then ((sX9_greater ((μ 22 ((nI c).toNatClampNeg)) + (μ 33 (((nI c * ((3 : Int32))) + ((1 : Int32))).toNatClampNeg))) ((μ 22 ((nI c).toNatClampNeg)) + (μ 33 (((nI c * ((3 : Int32))) + ((2 : Int32))).toNatClampNeg))) μ).bind (fun z => sX9_steer_67 (sX9_steer_2 K2) (nI c) ((μ 22 ((nI c).toNatClampNeg)) + (μ 33 ((nI c * ((3 : Int32))).toNatClampNeg))) ((μ 22 ((nI c).toNatClampNeg)) + (μ 33 (((nI c * ((3 : Int32))) + ((1 : Int32))).toNatClampNeg))) ((μ 22 ((nI c).toNatClampNeg)) + (μ 33 (((nI c * ((3 : Int32))) + ((2 : Int32))).toNatClampNeg))) ((μ 22 ((nI c).toNatClampNeg)) + (μ 33 ((nI c * ((3 : Int32))).toNatClampNeg))) z.1 z.2)) else none) else none) else none) else none)) := rfl
  rw [tdef, mdef, if_neg (show ¬ (4 : Int32) ≤ nI c from nI_ge (b := 4) hc (by decide)), if_neg (show ¬ (4 : Int32) ≤ nI c from nI_ge (b := 4) hc (by decide)), nI_m3, nI_1, nI_p2, if_pos (vin_nI hc (by decide)), if_pos (vin_nI hc (by decide)), if_pos (vin_nI (show 3 * c < 12 by omega) (by decide)), if_pos (vin_nI (show 3 * c + 1 < 12 by omega) (by decide)), if_pos (vin_nI (show 3 * c + 2 < 12 by omega) (by decide)), nI_clamp (show c < 2 ^ 31 by omega), nI_clamp (show 3 * c < 2 ^ 31 by omega), nI_clamp (show 3 * c + 1 < 2 ^ 31 by omega), nI_clamp (show 3 * c + 2 < 2 ^ 31 by omega), m_greater, Option.bind_some, g9]
  unfold sX9_steer_67 sX9_steer_70 sX9_steer_77 sX9_steer_80 sX9_steer_104 sX9_steer_109
  simp only [m_greater, m_lesser, Option.bind_some]
  unfold sX0_move sX0_move_0
  rw [gf 0 (by decide), gf 1 (by decide), gf 2 (by decide), Nat.add_zero]
  have bo : -32768 ≤ (μ 22 c).toInt ∧ (μ 22 c).toInt ≤ 32767 := hB 22 c
  have b0 : -999 ≤ (μ 33 (3 * c)).toInt ∧ (μ 33 (3 * c)).toInt ≤ 999 := hB 33 (3 * c)
  have b1 : -999 ≤ (μ 33 (3 * c + 1)).toInt ∧ (μ 33 (3 * c + 1)).toInt ≤ 999 := hB 33 (3 * c + 1)
  have b2 : -999 ≤ (μ 33 (3 * c + 2)).toInt ∧ (μ 33 (3 * c + 2)).toInt ≤ 999 := hB 33 (3 * c + 2)
  have bl := hB 35 c
  have hloose := i32_z bl.1 bl.2
  have gm : sX5_middle (μ 33 (3 * c)) (μ 33 (3 * c + 1)) (μ 33 (3 * c + 2)) = fun τ => some (md (μ 33 (3 * c)) (μ 33 (3 * c + 1)) (μ 33 (3 * c + 2)), τ) := funext fun τ => t_middle _ _ _ τ
  generalize hoo : μ 22 c = o at *
  generalize h0 : μ 33 (3 * c) = f0 at *
  generalize h1 : μ 33 (3 * c + 1) = f1 at *
  generalize h2 : μ 33 (3 * c + 2) = f2 at *
  have s0 : (o + f0).toInt = o.toInt + f0.toInt := fb_addI (by omega) (by omega)
  have s1 : (o + f1).toInt = o.toInt + f1.toInt := fb_addI (by omega) (by omega)
  have s2 : (o + f2).toInt = o.toInt + f2.toInt := fb_addI (by omega) (by omega)
  have hW : (if f0 < (if f1 < f2 then f2 else f1) then (if f1 < f2 then f2 else f1) else f0) - (if (if f2 < f1 then f2 else f1) < f0 then (if f2 < f1 then f2 else f1) else f0) = gr (o + f0) (gr (o + f1) (o + f2)) - ls (o + f0) (ls (o + f1) (o + f2)) := by
    apply i32_eq
    have e1 : (if f0 < (if f1 < f2 then f2 else f1) then (if f1 < f2 then f2 else f1) else f0).toInt = max f0.toInt (max f1.toInt f2.toInt) := by rw [ite_lt_max, ite_lt_max]
    have e2 : (if (if f2 < f1 then f2 else f1) < f0 then (if f2 < f1 then f2 else f1) else f0).toInt = min f0.toInt (min f1.toInt f2.toInt) := by rw [ite_lt_min, ite_lt_min]
    have e3 : (gr (o + f0) (gr (o + f1) (o + f2))).toInt = max (o.toInt + f0.toInt) (max (o.toInt + f1.toInt) (o.toInt + f2.toInt)) := by rw [gr_I, gr_I, s0, s1, s2]
    have e4 : (ls (o + f0) (ls (o + f1) (o + f2))).toInt = min (o.toInt + f0.toInt) (min (o.toInt + f1.toInt) (o.toInt + f2.toInt)) := by rw [ls_I, ls_I, s0, s1, s2]
    rw [fb_subI (by rw [e1, e2]; omega) (by rw [e1, e2]; omega), fb_subI (by rw [e3, e4]; omega) (by rw [e3, e4]; omega), e1, e2, e3, e4]
    omega
  have hmd : o + md f0 f1 f2 = md (o + f0) (o + f1) (o + f2) := by
    apply i32_eq
    have e1 : (md f0 f1 f2).toInt = mid f0.toInt f1.toInt f2.toInt := md_I _ _ _
    have e2 := mid_rng b0 b1 b2
    rw [fb_addI (by rw [e1]; omega) (by rw [e1]; omega), e1, md_I, s0, s1, s2]
    unfold mid
    omega
  rw [hW]
  generalize gr (o + f0) (gr (o + f1) (o + f2)) - ls (o + f0) (ls (o + f1) (o + f2)) = W
  have hvc : vin (nI c) 4 = true := vin_nI hc (by decide)
  have hcc : (nI c).toNatClampNeg = c := nI_clamp (by omega)
  -- tied, and the rest
  have hrest : ∀ (u v : TS), RS allS u v → (∀ k j, tieT k j → u k j = σ k j) → (∀ k, k ≠ 34 → k ≠ 35 → v k = μ k) → InvB v → RI allS n N u v ∧ SK v := fun u v r hu hv hBv => by
    refine ⟨⟨r, ic_same hI (hv 0 (by decide) (by decide)) (hv 1 (by decide) (by decide)) (hv 3 (by decide) (by decide)) (hv 10 (by decide) (by decide)) (hv 11 (by decide) (by decide)) (hv 13 (by decide) (by decide)) (hv 17 (by decide) (by decide)) (hv 37 (by decide) (by decide)) (hv 38 (by decide) (by decide)) (fun i hi => by rw [hv 7 (by decide) (by decide)]; exact (ic_P hI).2.2 i hi) hBv, it_same hT hu (hv 0 (by decide) (by decide)) (hv 10 (by decide) (by decide)) (hv 11 (by decide) (by decide)) (hv 25 (by decide) (by decide)) (hv 30 (by decide) (by decide)) (hv 32 (by decide) (by decide))⟩, ?_⟩
    unfold SK
    rw [hv 10 (by decide) (by decide), hv 12 (by decide) (by decide)]
    exact hsk
  have t63a : ∀ τ : TS, τ (70 + 2 * c) 2 = 0 → τ (71 + 2 * c) 0 = f0 → τ (71 + 2 * c) 1 = f1 → τ (71 + 2 * c) 2 = f2 → sX0_move_63 c o τ = some (0, st2 τ (70 + 2 * c) 1 (md (o + f0) (o + f1) (o + f2))) := fun τ k0 k1 k2 k3 => by
    unfold sX0_move_63 sX0_move_97 sX0_move_98
    rw [if_pos k0, k1, k2, k3, t_middle, Option.bind_some, hmd]
  have t63b : ∀ τ : TS, ¬ τ (70 + 2 * c) 2 = 0 → sX0_move_63 c o τ = some (0, st2 τ (70 + 2 * c) 1 0) := fun τ k0 => by
    unfold sX0_move_63 sX0_move_98
    rw [if_neg k0]
  have fT : ∀ (x y : Int32) k j, tieT k j → st2 (st2 σ (70 + 2 * c) 2 x) (70 + 2 * c) 1 y k j = σ k j := fun x y k j hk => by
    unfold tieT at hk
    rw [st2_off _ _ (by omega), st2_off _ _ (by omega)]
  have fT1 : ∀ (y : Int32) k j, tieT k j → st2 σ (70 + 2 * c) 1 y k j = σ k j := fun y k j hk => by
    unfold tieT at hk
    rw [st2_off _ _ (by omega)]
  have fM : ∀ (x y : Int32) k, k ≠ 34 → k ≠ 35 → st2 (st2 μ 35 c x) 34 c y k = μ k := fun x y k h1 h2 => by rw [st2_ne _ _ _ h1, st2_ne _ _ _ h2]
  rcases hloose with hL | hL
  · rw [if_pos hvc, hcc, if_pos hL]
    by_cases hw : W ≤ 100
    · rw [if_pos hw, if_pos hw, t63a σ (gl.trans hL) ((gf 0 (by decide)).trans h0) ((gf 1 (by decide)).trans h1) ((gf 2 (by decide)).trans h2), Option.bind_some, if_pos hvc, if_pos hvc, nar0, st2_eq, if_pos rfl, m_middle, Option.bind_some]
      unfold sX8_frame_121 sX9_steer_135
      rw [if_pos hvc, hcc, nI_1]
      obtain ⟨q1, q2⟩ := hrest (st2 σ (70 + 2 * c) 1 (md (o + f0) (o + f1) (o + f2))) (st2 (st2 μ 35 c 0) 34 c (md (o + f0) (o + f1) (o + f2))) (by rw [st2_same hL]; exact rS_up hR (tm_pos c hc) rfl) (fT1 _) (fM _ _) (iB_up (k := 34) (iB_up (k := 35) (v := 0) hB ⟨by decide, by decide⟩) (i32_any _))
      exact ⟨_, _, rfl, rfl, q1, q2, st2_ne _ _ _ (by omega), fM _ _⟩
    · rw [if_neg hw, if_neg hw, t63b _ (by rw [st2_eq]; decide), Option.bind_some, if_pos hvc, if_pos hvc, nar1, st2_eq, if_neg (show ¬ (1 : Int32) = 0 by decide)]
      unfold sX8_frame_121 sX9_steer_135
      rw [if_pos hvc, hcc, nI_1]
      obtain ⟨q1, q2⟩ := hrest (st2 (st2 σ (70 + 2 * c) 2 1) (70 + 2 * c) 1 0) (st2 (st2 μ 35 c 1) 34 c 0) (rS_up (rS_up hR (tm_loose c hc) rfl) (tm_pos c hc) rfl) (fT _ _) (fM _ _) (iB_up (k := 34) (iB_up (k := 35) (v := 1) hB ⟨by decide, by decide⟩) (i32_any _))
      exact ⟨_, _, rfl, rfl, q1, q2, by dsimp only; rw [st2_ne _ _ _ (by omega), st2_ne _ _ _ (by omega)], fM _ _⟩
  · rw [if_pos hvc, hcc, if_neg (show ¬ μ 35 c = 0 by rw [hL]; decide)]
    have gl1 : σ (70 + 2 * c) 2 = 1 := gl.trans hL
    rw [st2_same gl1, ite_self, t63b σ (by rw [gl1]; decide), Option.bind_some, if_pos hvc, if_pos hvc, nar1, st2_eq, if_neg (show ¬ (1 : Int32) = 0 by decide)]
    unfold sX8_frame_121 sX9_steer_135
    rw [if_pos hvc, hcc, nI_1]
    obtain ⟨q1, q2⟩ := hrest (st2 σ (70 + 2 * c) 1 0) (st2 (st2 μ 35 c 1) 34 c 0) (by rw [st2_same hL]; exact rS_up hR (tm_pos c hc) rfl) (fT1 _) (fM _ _) (iB_up (k := 34) (iB_up (k := 35) (v := 1) hB ⟨by decide, by decide⟩) (i32_any _))
    exact ⟨_, _, rfl, rfl, q1, q2, st2_ne _ _ _ (by omega), fM _ _⟩

/-! ===== the calls: back, load: rows of words copied ===== -/
def cpT (k kf b : Nat) (f : Nat → Int32) : Nat → Nat → TS → TS
  | 0, _, σ => σ
  | d + 1, w, σ => cpT k kf b f d (w + 1) (st2 (st2 σ k (b + w) (f w)) kf (b + w) 0)
def cpM (b : Nat) (f : Nat → Int32) : Nat → Nat → TS → TS
  | 0, _, μ => μ
  | d + 1, w, μ => cpM b f d (w + 1) (st2 (st2 μ 6 (b + w) (f w)) 7 (b + w) 0)
theorem cpT_ne (k kf b : Nat) (f : Nat → Int32) {a : Nat} (h1 : a ≠ k) (h2 : a ≠ kf) : ∀ d w (σ : TS), cpT k kf b f d w σ a = σ a
  | 0, _, _ => rfl
  | d + 1, w, σ => by
    show cpT k kf b f d (w + 1) (st2 (st2 σ k (b + w) (f w)) kf (b + w) 0) a = σ a
    rw [cpT_ne k kf b f h1 h2 d, st2_ne _ _ _ h2, st2_ne _ _ _ h1]
theorem cpM_ne (b : Nat) (f : Nat → Int32) {a : Nat} (h1 : a ≠ 6) (h2 : a ≠ 7) : ∀ d w (μ : TS), cpM b f d w μ a = μ a
  | 0, _, _ => rfl
  | d + 1, w, μ => by
    show cpM b f d (w + 1) (st2 (st2 μ 6 (b + w) (f w)) 7 (b + w) 0) a = μ a
    rw [cpM_ne b f h1 h2 d, st2_ne _ _ _ h2, st2_ne _ _ _ h1]
theorem cpM_6 (b : Nat) (f : Nat → Int32) (j : Nat) : ∀ d w (μ : TS), cpM b f d w μ 6 j = if b + w ≤ j ∧ j < b + w + d then f (j - b) else μ 6 j
  | 0, w, μ => by
    rw [if_neg (by omega)]
    rfl
  | d + 1, w, μ => by
    show cpM b f d (w + 1) (st2 (st2 μ 6 (b + w) (f w)) 7 (b + w) 0) 6 j = _
    rw [cpM_6 b f j d]
    show (if b + (w + 1) ≤ j ∧ j < b + (w + 1) + d then f (j - b) else (st2 μ 6 (b + w) (f w)) 6 j) = _
    by_cases h : j = b + w
    · rw [if_neg (by omega), if_pos (by omega), h, st2_eq]
      congr 1
      omega
    · rw [st2_nj _ _ h]
      by_cases h2 : b + (w + 1) ≤ j ∧ j < b + (w + 1) + d
      · rw [if_pos h2, if_pos (by omega)]
      · rw [if_neg h2, if_neg (by omega)]
theorem cpM_7 (b : Nat) (f : Nat → Int32) (j : Nat) : ∀ d w (μ : TS), cpM b f d w μ 7 j = if b + w ≤ j ∧ j < b + w + d then 0 else μ 7 j
  | 0, w, μ => by
    rw [if_neg (by omega)]
    rfl
  | d + 1, w, μ => by
    show cpM b f d (w + 1) (st2 (st2 μ 6 (b + w) (f w)) 7 (b + w) 0) 7 j = _
    rw [cpM_7 b f j d]
    by_cases h : j = b + w
    · rw [if_neg (by omega), if_pos (by omega), h, st2_eq]
    · rw [st2_nj _ _ h, st2_ne _ _ _ (show 7 ≠ 6 by decide)]
      by_cases h2 : b + (w + 1) ≤ j ∧ j < b + (w + 1) + d
      · rw [if_pos h2, if_pos (by omega)]
      · rw [if_neg h2, if_neg (by omega)]
theorem rE_cp {k kf b b' : Nat} {f : Nat → Int32} {n : Nat} (h1 : ∀ w, w < n → (k, b + w, 6, b' + w, 0) ∈ tabL) (h2 : ∀ w, w < n → (kf, b + w, 7, b' + w, 0) ∈ tabL) : ∀ d w (σ μ : TS), w + d = n → RelE σ μ → RelE (cpT k kf b f d w σ) (cpM b' f d w μ)
  | 0, _, _, _, _, h => h
  | d + 1, w, σ, μ, hw, h => rE_cp h1 h2 d (w + 1) _ _ (by omega) (rE_up (rE_up h (h1 w (by omega)) rfl) (h2 w (by omega)) rfl)
theorem iB_cp {b : Nat} {f : Nat → Int32} (hf : ∀ w, -32768 ≤ (f w).toInt ∧ (f w).toInt ≤ 32767) : ∀ d w (μ : TS), InvB μ → InvB (cpM b f d w μ)
  | 0, _, _, h => h
  | d + 1, w, μ, h => iB_cp hf d (w + 1) _ (iB_up (k := 7) (v := 0) (iB_up (k := 6) h (hf w)) ⟨by decide, by decide⟩)
/-! the lowest that is on -/
theorem t_low {σ μ : TS} (h1 : RelE σ μ) (h2 : InvB μ) : sX8_lowestOn σ = some (lowM μ, σ) := by
  have hd : ∀ (K : Nat) (a : Int32), sX8_lowestOn_2 (K + 1) a σ = (if ((3 : Int32)) ≤ a then some ((-1 : Int32), σ) else (if vin a 3 = true then (if (σ (15+6*(a.toNatClampNeg)) 6) = 0 then sX8_lowestOn_2 K (a + (1 : Int32)) σ else some (a, σ)) else none)) := fun _ _ => rfl
  have hs : ∀ (K c : Nat), c < 3 → sX8_lowestOn_2 (K + 1) (nI c) σ = if ob μ c then some (nI c, σ) else sX8_lowestOn_2 K (nI (c + 1)) σ := fun K c hc => by
    rw [hd, if_neg (show ¬ (3 : Int32) ≤ nI c from nI_ge (b := 3) hc (by decide)), if_pos (vin_nI hc (by decide)), nI_clamp (show c < 2 ^ 31 by omega), nI_1]
    rcases onR h1 h2 (show c < 4 by omega) with ⟨t6, m10⟩ | ⟨t6, m10⟩
    · rw [if_pos t6, ob_f m10, if_neg (by decide)]
    · rw [if_neg (by rw [t6]; decide), ob_t m10, if_pos rfl]
  have h0 : sX8_lowestOn σ = sX8_lowestOn_2 4 (nI 0) σ := rfl
  rw [h0, hs 3 0 (by decide), hs 2 1 (by decide), hs 1 2 (by decide), hd 0, if_pos (show (3 : Int32) ≤ nI (2 + 1) by decide)]
  unfold lowM
  cases ob μ 0 <;> cases ob μ 1 <;> cases ob μ 2 <;> rfl
theorem low_cases (μ : TS) : lowM μ = -1 ∨ ∃ m, m < 3 ∧ lowM μ = nI m ∧ μ 10 m = 0 := by
  unfold lowM
  by_cases h0 : μ 10 0 = 0
  · rw [ob_t h0, if_pos rfl]
    exact Or.inr ⟨0, by decide, rfl, h0⟩
  · rw [ob_f h0, if_neg (by decide)]
    by_cases h1 : μ 10 1 = 0
    · rw [ob_t h1, if_pos rfl]
      exact Or.inr ⟨1, by decide, rfl, h1⟩
    · rw [ob_f h1, if_neg (by decide)]
      by_cases h2 : μ 10 2 = 0
      · rw [ob_t h2, if_pos rfl]
        exact Or.inr ⟨2, by decide, rfl, h2⟩
      · rw [ob_f h2, if_neg (by decide)]
        exact Or.inl rfl
/-! back -/
theorem t_becomeLike {c m : Nat} (hcm : c ≠ m) (hc : c < 3) (hm : m < 3) (f : Nat → Int32) : ∀ d i (σ : TS), i + d = 18 → (∀ w, w < 18 → σ (17 + 6 * m) w = f w) → sX4_becomeLike_2 (d + 1) c m (nI i) σ = some (0, cpT (17 + 6 * c) (18 + 6 * c) 0 f d i σ) := by
  have hd : ∀ K (a : Int32) (σ : TS), sX4_becomeLike_2 (K + 1) c m a σ = (if ((18 : Int32)) ≤ a then some (0, σ) else ((sX4_unflipped m a σ).bind (fun z => sX4_becomeLike_15 (sX4_becomeLike_2 K) c m c a a z.1 z.2))) := fun _ _ _ => rfl
  intro d
  induction d with
  | zero =>
    intro i σ hi hf
    rw [show i = 18 by omega, hd, if_pos (show (18 : Int32) ≤ nI 18 by decide)]
    rfl
  | succ d ih =>
    intro i σ hi hf
    have hi18 : i < 18 := by omega
    rw [hd, if_neg (show ¬ (18 : Int32) ≤ nI i from nI_ge (b := 18) hi18 (by decide))]
    unfold sX4_unflipped sX4_unflipped_0
    rw [if_pos (vin_nI hi18 (by decide)), nI_clamp (show i < 2 ^ 31 by omega), hf i hi18, Option.bind_some]
    unfold sX4_becomeLike_15 sX4_put sX4_put_0
    rw [if_pos (vin_nI hi18 (by decide)), nI_clamp (show i < 2 ^ 31 by omega), Option.bind_some]
    unfold sX4_becomeLike_18
    rw [nI_1, ih (i + 1) _ (by omega) (fun w hw => by
      show st2 (st2 σ (17 + 6 * c) i (f i)) (18 + 6 * c) i 0 (17 + 6 * m) w = f w
      rw [st2_ne _ _ _ (by omega), st2_ne _ _ _ (by omega)]
      exact hf w hw)]
    show _ = some (0, cpT (17 + 6 * c) (18 + 6 * c) 0 f d (i + 1) (st2 (st2 σ (17 + 6 * c) (0 + i) (f i)) (18 + 6 * c) (0 + i) 0))
    rw [Nat.zero_add]
def bkE (c m : Nat) (ν : TS) : TS := logM c 98 (st2 (st2 (st2 (st2 ν 12 c 0) 13 c (ν 13 m)) 10 c 0) 11 c 0)
theorem m_back61 {c m : Nat} (hcm : c ≠ m) (hc : c < 3) (hm : m < 3) (f : Nat → Int32) {n : Nat} (hn : n < 2 ^ 31) : ∀ d i (ν : TS), i + d = 18 → ν 0 43 = nI n → (∀ w, w < 18 → ν 6 (18 * m + w) = f w) → sX9_back_61 (d + 1) (nI c) (nI m) (nI i) ν = sX9_back_147 (bkE c m (cpM (18 * c) f d i ν)) := by
  have hd : ∀ K (a : Int32) (ν : TS), sX9_back_61 (K + 1) (nI c) (nI m) a ν = (if ((18 : Int32)) ≤ a then (if vin (nI c) 4 = true then (if vin (nI m) 4 = true then ((sX9_logs (nI c) ((98 : Int32)) (st2 (st2 (st2 (st2 ν 12 ((nI c).toNatClampNeg) ((0 : Int32))) 13 ((nI c).toNatClampNeg) ((st2 ν 12 ((nI c).toNatClampNeg) ((0 : Int32))) 13 ((nI m).toNatClampNeg))) 10 ((nI c).toNatClampNeg) (vp_nar .boolean ((0 : Int32)))) 11 ((nI c).toNatClampNeg) (vp_nar .boolean ((0 : Int32))))).bind (fun z => sX9_back_147 z.2)) else none) else none) else (if vin ((nI m * ((18 : Int32))) + a) 72 = true then (if vin ((nI c * ((18 : Int32))) + a) 72 = true then sX9_back_61 K (nI c) (nI m) (a + (1 : Int32)) (st2 (st2 ν 6 (((nI c * ((18 : Int32))) + a).toNatClampNeg) (ν 6 (((nI m * ((18 : Int32))) + a).toNatClampNeg))) 7 (((nI c * ((18 : Int32))) + a).toNatClampNeg) ((0 : Int32))) else none) else none)) := fun _ _ _ => rfl
  intro d
  induction d with
  | zero =>
    intro i ν hi h43 hf
    rw [show i = 18 by omega, hd, if_pos (show (18 : Int32) ≤ nI 18 by decide), if_pos (vin_nI (show c < 4 by omega) (by decide)), if_pos (vin_nI (show m < 4 by omega) (by decide)), nI_clamp (show c < 2 ^ 31 by omega), nI_clamp (show m < 2 ^ 31 by omega), nar0, m_log (μ := st2 (st2 (st2 (st2 ν 12 c 0) 13 c ((st2 ν 12 c 0) 13 m)) 10 c 0) 11 c 0) c 98 hn h43, Option.bind_some]
    rfl
  | succ d ih =>
    intro i ν hi h43 hf
    have hi18 : i < 18 := by omega
    rw [hd, if_neg (show ¬ (18 : Int32) ≤ nI i from nI_ge (b := 18) hi18 (by decide)), nI_m18, nI_m18, nI_add, nI_add, if_pos (vin_nI (show 18 * m + i < 72 by omega) (by decide)), if_pos (vin_nI (show 18 * c + i < 72 by omega) (by decide)), nI_clamp (show 18 * c + i < 2 ^ 31 by omega), nI_clamp (show 18 * m + i < 2 ^ 31 by omega), hf i hi18, nI_1]
    rw [ih (i + 1) (st2 (st2 ν 6 (18 * c + i) (f i)) 7 (18 * c + i) 0) (by omega) h43 (fun w hw => by
      show (st2 ν 6 (18 * c + i) (f i)) 6 (18 * m + w) = f w
      rw [st2_nj _ _ (by omega)]
      exact hf w hw)]
    rfl
theorem q_back : op_back Rel := by
  intro j σ μ x1 hj hR
  rcases ix3 x1 with ⟨hT, hM⟩ | ⟨c, hc, rfl, hT, hM⟩
  · refine ⟨.inr 1, σ, 0, st2 μ 0 0 1, ?_, ?_, ⟨1, rfl, rfl, by decide⟩, rel_thr hR 1⟩
    · simp only [sX8_back, sX8_back_0, hT, Option.bind_some, o_x_r]
    · simp only [sX9_back, sX9_back_0, sX9_back_5, sX9_back_8, hM, isOut0, e10, Option.bind_some, if_false]
  have hT0 : sX8_back (nI c) σ = sX8_back_16 c (nI c) (lowM μ) σ := by
    simp only [sX8_back, sX8_back_0, sX8_back_5, hT, Option.bind_some, o_x_l, vin_nI hc (by decide), nI_clamp (show c < 2 ^ 31 by omega), if_true, t_low hR.1 hR.2.1]
  have hlow : lowM (st2 μ 0 0 0) = lowM μ := rfl
  have hM0 : sX9_back (nI c) μ = sX9_back_17 (nI c) (lowM μ) (st2 μ 0 0 0) := by
    simp only [sX9_back, sX9_back_0, sX9_back_5, sX9_back_8, hM, isOut1, eq_self, Option.bind_some, if_true, m_low, hlow]
  rw [hT0, hM0]
  have hTe : sX8_back_40 c (nI c) (lowM μ) σ = some (.inr 4, σ) := by
    unfold sX8_back_40 sX8_back_41
    rw [rs0, Option.bind_some, o_x_r]
  have hMe : sX9_back_42 (nI c) (lowM μ) (st2 μ 0 0 0) = some (0, st2 (st2 μ 0 0 0) 0 0 2) := by
    unfold sX9_back_42 sX9_back_47
    rw [if_neg (show ¬ (st2 (st2 μ 0 0 0) 0 0 2) 0 0 ≤ 0 by rw [st2_eq]; decide)]
  have hbad : sX8_back_16 c (nI c) (lowM μ) σ = some (.inr 4, σ) → sX9_back_17 (nI c) (lowM μ) (st2 μ 0 0 0) = some (0, st2 (st2 μ 0 0 0) 0 0 2) → ∃ z u bb v, sX8_back_16 c (nI c) (lowM μ) σ = some (z, u) ∧ sX9_back_17 (nI c) (lowM μ) (st2 μ 0 0 0) = some (bb, v) ∧ okI [(1, 1), (4, 2)] z bb (v 0 0) ∧ Rel (j + 1) u v := fun a b => ⟨.inr 4, σ, 0, st2 (st2 μ 0 0 0) 0 0 2, a, b, ⟨2, rfl, rfl, by decide⟩, rel_thr2 hR 0 2⟩
  have m17 : sX9_back_17 (nI c) (lowM μ) (st2 μ 0 0 0) = (if μ 10 c = 0 then sX9_back_42 (nI c) (lowM μ) (st2 μ 0 0 0) else (if μ 11 c = 0 then sX9_back_42 (nI c) (lowM μ) (st2 μ 0 0 0) else (if lowM μ = ((-1 : Int32)) then sX9_back_42 (nI c) (lowM μ) (st2 μ 0 0 0) else sX9_back_47 (nI c) (lowM μ) ((0 : Int32)) (st2 μ 0 0 0)))) := by
    unfold sX9_back_17
    rw [if_pos (vin_nI (show c < 4 by omega) (by decide)), nI_clamp (show c < 2 ^ 31 by omega)]
    rfl
  rcases onR hR.1 hR.2.1 (show c < 4 by omega) with ⟨t6, m10⟩ | ⟨t6, m10⟩
  case inr =>
    refine hbad ?_ ?_
    · unfold sX8_back_16
      rw [if_neg (by rw [t6]; decide), hTe]
    · rw [m17, if_pos m10, hMe]
  have h7 : σ (15 + 6 * c) 7 = μ 11 c := hR.2.2.2.1.2.2.1 c hc m10
  by_cases h11 : μ 11 c = 0
  · refine hbad ?_ ?_
    · unfold sX8_back_16
      rw [if_pos t6, if_pos (h7.trans h11), hTe]
    · rw [m17, if_neg m10, if_pos h11, hMe]
  rcases low_cases μ with hl | ⟨m, hm, hl, hm10⟩
  · refine hbad ?_ ?_
    · unfold sX8_back_16
      rw [if_pos t6, if_neg (by rw [h7]; exact h11), if_pos hl, hTe]
    · rw [m17, if_neg m10, if_neg h11, if_pos hl, hMe]
  have hcm : c ≠ m := fun h => m10 (by rw [h]; exact hm10)
  obtain ⟨n, hn, hM43, hT43⟩ := tot_R hR (by omega)
  obtain ⟨h1, h2, ⟨m1, m2, m3, m4, m5, m6, m7, m8⟩, h4, h5, h6⟩ := rel_thr2 hR 0 0
  generalize hμ : st2 (st2 μ 0 0 0) 0 0 0 = μ' at *
  have hμ10 : μ' 10 = μ 10 := by rw [← hμ]; rfl
  have hμ43 : μ' 0 43 = nI n := by rw [← hμ]; exact hM43
  have hf6 : ∀ w, w < 18 → σ (17 + 6 * m) w = μ' 6 (18 * m + w) := fun w hw => rE_get h1 (tm_wr m (by omega) w hw)
  -- the states behind the copying
  obtain ⟨ν, hν⟩ : ∃ ν : TS, cpM (18 * c) (fun w => μ' 6 (18 * m + w)) 18 0 μ' = ν := ⟨_, rfl⟩
  obtain ⟨τ, hτ⟩ : ∃ τ : TS, cpT (17 + 6 * c) (18 + 6 * c) 0 (fun w => μ' 6 (18 * m + w)) 18 0 σ = τ := ⟨_, rfl⟩
  have hνk : ∀ k, k ≠ 6 → k ≠ 7 → ν k = μ' k := fun k a b => by rw [← hν]; exact cpM_ne _ _ a b _ _ _
  have hτk : ∀ k, k ≠ 17 + 6 * c → k ≠ 18 + 6 * c → τ k = σ k := fun k a b => by rw [← hτ]; exact cpT_ne _ _ _ _ a b _ _ _
  have hRc : RelE τ ν := by
    rw [← hν, ← hτ]
    exact rE_cp (n := 18) (fun w hw => by rw [Nat.zero_add]; exact tm_wr c (by omega) w hw) (fun w hw => by rw [Nat.zero_add]; exact tm_fl c (by omega) w hw) 18 0 σ μ' rfl h1
  have hBc : InvB ν := by
    rw [← hν]
    exact iB_cp (fun w => h2 6 _) 18 0 μ' h2
  have hν6 : ∀ w, w < 18 → ν 6 (18 * c + w) = μ' 6 (18 * m + w) := fun w hw => by
    rw [← hν, cpM_6, if_pos (by omega)]
    congr 1
    omega
  have hν6' : ∀ i, (i < 18 * c ∨ 18 * c + 18 ≤ i) → ν 6 i = μ' 6 i := fun i hi => by rw [← hν, cpM_6, if_neg (by omega)]
  have hν7 : ∀ i, μ' 7 i = 0 → ν 7 i = 0 := fun i hi => by
    rw [← hν, cpM_7]
    split
    · rfl
    · exact hi
  have c2 : τ (15 + 6 * m) 2 = ν 13 m := rE_get hRc (tm_clock m hm)
  have c43 : τ 11 3 = nI n := by rw [hτk 11 (by omega) (by omega)]; exact hT43
  -- both, walked
  have hTw : sX8_back_16 c (nI c) (lowM μ) σ = ((sX8_countOn (logT c 98 (st2 (st2 (st2 τ (15 + 6 * c) 4 0) (15 + 6 * c) 2 (ν 13 m)) (15 + 6 * c) 6 1))).bind (fun z => sX8_back_72 z.1 z.2)) := by
    have hb : sX4_becomeLike c m σ = some (0, τ) := by
      have h0 : sX4_becomeLike c m σ = sX4_becomeLike_2 19 c m (nI 0) σ := rfl
      rw [h0, t_becomeLike hcm hc hm (fun w => μ' 6 (18 * m + w)) 18 0 σ rfl hf6, hτ]
    unfold sX8_back_16
    rw [if_pos t6, if_neg (by rw [h7]; exact h11), if_neg (by rw [hl]; exact nI_ne_m1 (by omega)), hl]
    unfold sX8_back_41
    rw [rs1, Option.bind_some, o_x_l]
    unfold sX8_back_44
    rw [if_pos (vin_nI hm (by decide)), nI_clamp (show m < 2 ^ 31 by omega)]
    unfold sX1_resumeLike sX1_resumeLike_0
    rw [hb, Option.bind_some]
    unfold sX1_resumeLike_11
    rw [Option.bind_some]
    have e2 : (st2 τ (15 + 6 * c) 4 0) (15 + 6 * m) 2 = ν 13 m := by
      rw [st2_ne _ _ _ (by omega)]
      exact c2
    unfold sX8_back_54
    dsimp only
    rw [e2, t_log (σ := st2 (st2 (st2 τ (15 + 6 * c) 4 0) (15 + 6 * c) 2 (ν 13 m)) (15 + 6 * c) 6 1) (n := n) c (w := 98) rfl (by omega) (by rw [st2_ne _ _ _ (by omega), st2_ne _ _ _ (by omega), st2_ne _ _ _ (by omega)]; exact c43), Option.bind_some]
    rfl
  have hMw : sX9_back_17 (nI c) (lowM μ) (st2 μ 0 0 0) = ((sX9_on (bkE c m ν)).bind (fun z => sX9_back_151 z.1 z.2)) := by
    rw [m17, if_neg m10, if_neg h11, if_neg (by rw [hl]; exact nI_ne_m1 (by omega)), hl]
    unfold sX9_back_47
    rw [if_pos (show (st2 (st2 μ 0 0 0) 0 0 0) 0 0 ≤ 0 by rw [st2_eq]; decide), hμ]
    have h0 : sX9_back_61 19 (nI c) (nI m) 0 μ' = sX9_back_61 19 (nI c) (nI m) (nI 0) μ' := rfl
    rw [h0, m_back61 hcm hc hm (fun w => μ' 6 (18 * m + w)) (n := n) (by omega) 18 0 μ' rfl hμ43 (fun _ _ => rfl), hν]
    rfl
  rw [hTw, hMw]
  obtain ⟨u, hu⟩ : ∃ u : TS, logT c 98 (st2 (st2 (st2 τ (15 + 6 * c) 4 0) (15 + 6 * c) 2 (ν 13 m)) (15 + 6 * c) 6 1) = u := ⟨_, rfl⟩
  obtain ⟨v, hv⟩ : ∃ v : TS, bkE c m ν = v := ⟨_, rfl⟩
  rw [hu, hv]
  have hRv : RelE u v := by
    rw [← hu, ← hv]
    unfold bkE
    have q1 : RelE (st2 (st2 τ (15 + 6 * c) 4 0) (15 + 6 * c) 2 (ν 13 m)) (st2 (st2 ν 12 c 0) 13 c (ν 13 m)) := rE_up (rE_up hRc (tm_strikes c hc) rfl) (tm_clock c hc) rfl
    have q2 : RelE (st2 (st2 (st2 τ (15 + 6 * c) 4 0) (15 + 6 * c) 2 (ν 13 m)) (15 + 6 * c) 6 1) (st2 (st2 (st2 ν 12 c 0) 13 c (ν 13 m)) 10 c 0) := rE_up q1 (tm_off c (by omega)) (by decide)
    have q3 : RelE (st2 (st2 (st2 τ (15 + 6 * c) 4 0) (15 + 6 * c) 2 (ν 13 m)) (15 + 6 * c) 6 1) (st2 (st2 (st2 (st2 ν 12 c 0) 13 c (ν 13 m)) 10 c 0) 11 c 0) := rE_M q2 (onM_11 c (by omega)) 0
    exact rS_all.mp (rS_log (rS_all.mpr q3) rfl c 98)
  have v43 : v 0 43 = nI (n + 1) := by
    rw [← hv]
    unfold bkE logM
    rw [st2_eq]
    show ν 0 43 + 1 = _
    rw [hνk 0 (by decide) (by decide), hμ43, nI_1]
  have v0 : ∀ i, i ≠ 43 → v 0 i = μ' 0 i := fun i hi => by
    rw [← hv]
    unfold bkE logM
    rw [st2_nj _ _ hi]
    show ν 0 i = _
    rw [hνk 0 (by decide) (by decide)]
  have vk : ∀ k, k ≠ 0 → k ≠ 6 → k ≠ 7 → k ≠ 10 → k ≠ 11 → k ≠ 12 → k ≠ 13 → k ≠ 36 → k ≠ 37 → k ≠ 38 → v k = μ' k := fun k a0 a6 a7 a10 a11 a12 a13 a36 a37 a38 => by
    rw [← hv]
    unfold bkE logM
    rw [st2_ne _ _ _ a0, st2_ne _ _ _ a38, st2_ne _ _ _ a37, st2_ne _ _ _ a36, st2_ne _ _ _ a11, st2_ne _ _ _ a10, st2_ne _ _ _ a13, st2_ne _ _ _ a12, hνk k a6 a7]
  have v6 : v 6 = ν 6 := by rw [← hv]; rfl
  have v7 : v 7 = ν 7 := by rw [← hv]; rfl
  have v10 : ∀ d, v 10 d = if d = c then 0 else μ' 10 d := fun d => by
    rw [← hv]
    show (st2 ν 10 c 0) 10 d = _
    by_cases h : d = c
    · rw [if_pos h, h, st2_eq]
    · rw [if_neg h, st2_nj _ _ h, hνk 10 (by decide) (by decide)]
  have v11 : ∀ d, v 11 d = if d = c then 0 else μ' 11 d := fun d => by
    rw [← hv]
    show (st2 ν 11 c 0) 11 d = _
    by_cases h : d = c
    · rw [if_pos h, h, st2_eq]
    · rw [if_neg h, st2_nj _ _ h, hνk 11 (by decide) (by decide)]
  have v12 : ∀ d, v 12 d = if d = c then 0 else μ' 12 d := fun d => by
    rw [← hv]
    show (st2 ν 12 c 0) 12 d = _
    by_cases h : d = c
    · rw [if_pos h, h, st2_eq]
    · rw [if_neg h, st2_nj _ _ h, hνk 12 (by decide) (by decide)]
  have v13 : ∀ d, v 13 d = if d = c then μ' 13 m else μ' 13 d := fun d => by
    rw [← hv]
    show (st2 ν 13 c (ν 13 m)) 13 d = _
    rw [hνk 13 (by decide) (by decide)]
    by_cases h : d = c
    · rw [if_pos h, h, st2_eq]
    · rw [if_neg h, st2_nj _ _ h, hνk 13 (by decide) (by decide)]
  have hBv : InvB v := by
    rw [← hv]
    unfold bkE
    exact iB_log (iB_up (k := 11) (v := 0) (iB_up (k := 10) (v := 0) (iB_up (k := 13) (iB_up (k := 12) (v := 0) hBc ⟨by decide, by decide⟩) (i32_any _)) ⟨by decide, by decide⟩) ⟨by decide, by decide⟩) c 98
  have huk : ∀ k i, k ≠ 11 → k ≠ 12 → k ≠ 13 → k ≠ 14 → k ≠ 17 + 6 * c → k ≠ 18 + 6 * c → (k = 15 + 6 * c → i ≠ 2 ∧ i ≠ 4 ∧ i ≠ 6) → u k i = σ k i := fun k i a11 a12 a13 a14 a17 a18 a15 => by
    rw [← hu]
    unfold logT
    rw [st2_ne _ _ _ a11, st2_ne _ _ _ a14, st2_ne _ _ _ a13, st2_ne _ _ _ a12, st2_off _ _ (by omega), st2_off _ _ (by omega), st2_off _ _ (by omega), hτk k a17 a18]
  have hno : sX8_countOn u = some (nI (nOn v), u) := t_on (fun d hd => by
    rcases onR hRv hBv (show d < 4 by omega) with ⟨g6, g10⟩ | ⟨g6, g10⟩
    · exact ⟨fun _ => g10, fun _ => g6⟩
    · exact ⟨fun h => by rw [g6] at h; exact absurd h (by decide), fun h => absurd g10 h⟩)
  rw [hno, m_on, Option.bind_some, Option.bind_some]
  refine ⟨_, u, _, v, rfl, rfl, ⟨0, rfl, ?_, fun _ => rfl⟩, hRv, hBv, ⟨?_, ?_, ?_, ?_, fun d => ?_, ⟨?_, ?_, fun i hi => ?_⟩, fun d hd h10 => ?_, fun d hd h17 => ?_⟩, ⟨fun s hs => ?_, ?_, fun d hd h10 => ?_, fun p hp i hi h32 w hw => ?_⟩, fun a b => ?_, ?_⟩
  · rw [v0 0 (by decide), ← hμ]
    rfl
  · rw [vk 1 (by decide) (by decide) (by decide) (by decide) (by decide) (by decide) (by decide) (by decide) (by decide) (by decide), vk 3 (by decide) (by decide) (by decide) (by decide) (by decide) (by decide) (by decide) (by decide) (by decide) (by decide)]
    exact m1
  · rw [v0 1 (by decide)]
    exact m2
  · rw [v0 2 (by decide)]
    exact m3
  · rw [v43, nI_toInt (by omega)]
    omega
  · rw [v13]
    split
    · exact m5 m
    · exact m5 d
  · rw [v10, if_neg (by omega)]
    exact m6.1
  · rw [vk 17 (by decide) (by decide) (by decide) (by decide) (by decide) (by decide) (by decide) (by decide) (by decide) (by decide)]
    exact m6.2.1
  · rw [v7]
    exact hν7 i (m6.2.2 i hi)
  · rw [v10] at h10
    rw [v12]
    by_cases h : d = c
    · rw [if_pos h]
      decide
    · rw [if_neg h] at h10 ⊢
      exact m7 d hd h10
  · rw [vk 17 (by decide) (by decide) (by decide) (by decide) (by decide) (by decide) (by decide) (by decide) (by decide) (by decide)] at h17
    rw [v11]
    split
    · rfl
    · exact m8 d hd h17
  · rw [huk _ _ (by omega) (by omega) (by omega) (by omega) (by omega) (by omega) (by omega), vk 25 (by decide) (by decide) (by decide) (by decide) (by decide) (by decide) (by decide) (by decide) (by decide) (by decide)]
    exact h4.1 s hs
  · rw [huk _ _ (by omega) (by omega) (by omega) (by omega) (by omega) (by omega) (by omega), v0 38 (by decide)]
    exact h4.2.1
  · rw [v10] at h10
    by_cases h : d = c
    · rw [if_pos h] at h10
      exact absurd rfl h10
    · rw [if_neg h] at h10
      rw [huk _ _ (by omega) (by omega) (by omega) (by omega) (by omega) (by omega) (by omega), v11, if_neg h]
      exact h4.2.2.1 d hd h10
  · rw [vk 32 (by decide) (by decide) (by decide) (by decide) (by decide) (by decide) (by decide) (by decide) (by decide) (by decide)] at h32
    rw [huk _ _ (by omega) (by omega) (by omega) (by omega) (by omega) (by omega) (by omega), vk 30 (by decide) (by decide) (by decide) (by decide) (by decide) (by decide) (by decide) (by decide) (by decide) (by decide)]
    exact h4.2.2.2 p hp i hi h32 w hw
  · rw [huk _ _ (by omega) (by omega) (by omega) (by omega) (by omega) (by omega) (by omega)] at a b
    obtain ⟨f1, f2, f3, f4⟩ := h5 a b
    refine ⟨?_, ?_, ?_, fun d hd h10 => ?_⟩
    · rw [vk 22 (by decide) (by decide) (by decide) (by decide) (by decide) (by decide) (by decide) (by decide) (by decide) (by decide), vk 23 (by decide) (by decide) (by decide) (by decide) (by decide) (by decide) (by decide) (by decide) (by decide) (by decide)]
      exact f1
    · rw [v7]
      exact fun i => hν7 i (f2 i)
    · rw [vk 17 (by decide) (by decide) (by decide) (by decide) (by decide) (by decide) (by decide) (by decide) (by decide) (by decide)]
      exact f3
    · rw [v10] at h10
      rw [v12, v6]
      by_cases h : d = c
      · rw [if_pos h]
        refine ⟨rfl, fun i hi => ?_⟩
        rw [h, hν6 i hi, hν6' (54 + i) (by omega)]
        exact (f4 m hm (by rw [hμ10]; exact hm10)).2 i hi
      · rw [if_neg h] at h10 ⊢
        refine ⟨(f4 d hd h10).1, fun i hi => ?_⟩
        rw [hν6' (18 * d + i) (by omega), hν6' (54 + i) (by omega)]
        exact (f4 d hd h10).2 i hi
  · have hLL : LL (μ' 10) (st2 (st2 (st2 (st2 ν 12 c 0) 13 c (ν 13 m)) 10 c 0) 11 c 0) := by
      have e : LL (μ' 10) ν := by
        unfold LL
        rw [hνk 0 (by decide) (by decide), hνk 37 (by decide) (by decide), hνk 38 (by decide) (by decide)]
        exact h6
      exact e
    have hL := iL_log (c := c) (w := 98) (a := n) (z := v 10) hLL (by omega) (by show ν 0 43 = nI n; rw [hνk 0 (by decide) (by decide)]; exact hμ43) hc (fun d hd hz => by
      rw [v10] at hz
      by_cases h : d = c
      · rw [if_pos h] at hz
        exact absurd rfl hz
      · rw [if_neg h] at hz
        exact Or.inr ⟨h, hz⟩)
    have hLv : LL (v 10) v := by
      rw [← hv] at hL ⊢
      exact hL
    exact hLv

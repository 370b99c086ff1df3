/-! ===== the calls: frame, isPlain, isTrue ===== -/
theorem q_frame : op_frame Rel := by
  intro j σ μ hj hR
  obtain ⟨bb, u, v, e1, e2, ⟨r1, r2, r3⟩, sk, f14, f15, ht, hF⟩ := frame_lock hR hj
  refine ⟨bb, u, v, e1, e2, rS_all.mp r1, ic_B r2, ?_, r3, ?_, r2.2.2.2.2.2.2.2.1⟩
  · obtain ⟨a1, a2, a3, a4, a5, a6, a7, a8, a9⟩ := r2
    have h2 := hR.2.2.1.2.1
    have hoc := onc_3 v
    refine ⟨a1, ⟨a2.1, ?_⟩, a3, ⟨a4.1, ?_⟩, a5, a6, sk, a7⟩
    · omega
    · omega
  · intro h14 h15
    obtain ⟨g15, gn⟩ := f15 h15
    rw [f14] at h14
    have hf : FF μ := hR.2.2.2.2.1 h14 g15
    obtain ⟨m1, m2, m3, m4, m5, m6, m7, m8⟩ := hR.2.2.1
    have hon : ∃ c, c < 3 ∧ μ 10 c = 0 := by
      refine Decidable.byContradiction (fun hno => gn ?_)
      have h : ∀ c, c < 3 → ob μ c = false := fun c hc => ob_f (fun h => hno ⟨c, hc, h⟩)
      unfold nOn vN
      rw [h 0 (by decide), h 1 (by decide), h 2 (by decide)]
      rfl
    exact (hF ⟨hR.2.1, m1, m6.1, m6.2.1, hf, hon⟩).2.2.2.2.1
theorem t_ip_def (K : Nat) (a : Int32) (σ : TS) : sX8_isPlain_2 (K + 1) a σ = (if ((4 : Int32)) ≤ a then some ((1 : Int32), σ) else (if vin a 4 = true then (if (σ (9+0) (a.toNatClampNeg)) = (σ (9+1) (a.toNatClampNeg)) then sX8_isPlain_2 K (a + (1 : Int32)) σ else some ((0 : Int32), σ)) else none)) := rfl
def allEq (μ : TS) : Bool := decide (μ 22 0 = μ 23 0) && (decide (μ 22 1 = μ 23 1) && (decide (μ 22 2 = μ 23 2) && decide (μ 22 3 = μ 23 3)))
theorem t_plain {σ μ : TS} (h : RelE σ μ) : sX8_isPlain σ = some (if allEq μ = true then 1 else 0, σ) := by
  have hs : ∀ K i, i < 4 → sX8_isPlain_2 (K + 1) (nI i) σ = if decide (μ 22 i = μ 23 i) = true then sX8_isPlain_2 K (nI (i + 1)) σ else some (0, σ) := fun K i hi => by
    have g1 : σ (9 + 0) i = μ 22 i := rE_get h (tm_out i hi)
    have g2 : σ (9 + 1) i = μ 23 i := rE_get h (tm_plain i hi)
    rw [t_ip_def, if_neg (show ¬ (4 : Int32) ≤ nI i from nI_ge (b := 4) hi (by decide)), if_pos (vin_nI hi (by decide)), nI_clamp (show i < 2 ^ 31 by omega), g1, g2, nI_1]
    by_cases hd : μ 22 i = μ 23 i
    · rw [if_pos hd, if_pos (decide_eq_true hd)]
    · rw [if_neg hd, if_neg (fun g => hd (of_decide_eq_true g))]
  have h0 : sX8_isPlain σ = sX8_isPlain_2 5 (nI 0) σ := rfl
  have h1 : sX8_isPlain_2 1 (nI (3 + 1)) σ = some (1, σ) := if_pos (show (4 : Int32) ≤ nI (3 + 1) by decide)
  rw [h0, hs 4 0 (by decide), hs 3 1 (by decide), hs 2 2 (by decide), hs 1 3 (by decide), h1]
  unfold allEq
  cases decide (μ 22 0 = μ 23 0) <;> cases decide (μ 22 1 = μ 23 1) <;> cases decide (μ 22 2 = μ 23 2) <;> cases decide (μ 22 3 = μ 23 3) <;> rfl
theorem m_ip_def (K : Nat) (x a : Int32) (μ : TS) : sX9_isPlain_9 (K + 1) x a μ = (if ((4 : Int32)) ≤ a then (if zok x = true then some (x, μ) else none) else (if x = 0 then sX9_isPlain_37 (sX9_isPlain_9 K) a μ else (if vin a 4 = true then (if (μ 22 (a.toNatClampNeg)) = (μ 23 (a.toNatClampNeg)) then sX9_isPlain_38 (sX9_isPlain_9 K) a ((1 : Int32)) μ else sX9_isPlain_37 (sX9_isPlain_9 K) a μ) else none))) := rfl
theorem m_plain (μ : TS) : sX9_isPlain μ = some (if allEq μ = true then 1 else 0, st2 μ 0 0 0) := by
  have hs : ∀ K i (x : Bool) (ν : TS), ν 22 = μ 22 → ν 23 = μ 23 → i < 4 → sX9_isPlain_9 (K + 1) (if x = true then 1 else 0) (nI i) ν = sX9_isPlain_9 K (if (x && decide (μ 22 i = μ 23 i)) = true then 1 else 0) (nI (i + 1)) ν := fun K i x ν n22 n23 hi => by
    rw [m_ip_def, if_neg (show ¬ (4 : Int32) ≤ nI i from nI_ge (b := 4) hi (by decide)), if_pos (vin_nI hi (by decide)), nI_clamp (show i < 2 ^ 31 by omega), n22, n23]
    unfold sX9_isPlain_37 sX9_isPlain_38
    rw [nI_1]
    cases x with
    | false => rfl
    | true =>
      rw [if_pos rfl, if_neg (show ¬ (1 : Int32) = 0 by decide), Bool.true_and]
      by_cases hd : μ 22 i = μ 23 i
      · rw [if_pos hd, if_pos (decide_eq_true hd)]
      · rw [if_neg hd, if_neg (fun g => hd (of_decide_eq_true g))]
  have h0 : sX9_isPlain μ = sX9_isPlain_9 5 (if true = true then 1 else 0) (nI 0) (st2 μ 0 0 0) := rfl
  have h1 : ∀ (x : Bool) (ν : TS), sX9_isPlain_9 1 (if x = true then 1 else 0) (nI (3 + 1)) ν = some (if x = true then 1 else 0, ν) := fun x ν => by
    cases x <;> rfl
  rw [h0, hs 4 0 true (st2 μ 0 0 0) rfl rfl (by decide), hs 3 1 _ (st2 μ 0 0 0) rfl rfl (by decide), hs 2 2 _ (st2 μ 0 0 0) rfl rfl (by decide), hs 1 3 _ (st2 μ 0 0 0) rfl rfl (by decide), h1]
  unfold allEq
  cases decide (μ 22 0 = μ 23 0) <;> cases decide (μ 22 1 = μ 23 1) <;> cases decide (μ 22 2 = μ 23 2) <;> cases decide (μ 22 3 = μ 23 3) <;> rfl
theorem q_isPlain : op_isPlain Rel := by
  intro j σ μ hj hR
  exact ⟨_, σ, _, t_plain hR.1, m_plain μ, rel_thr hR 0⟩
/-! the log's lines -/
theorem t_row {σ : TS} {n x : Nat} (h : σ 11 3 = nI n) (hn : n < 2 ^ 30) (hx : x < n) : sX3_rowOf (nI x) σ = some (nI ((n - 1 - x) % 30), σ) := by
  have h1 : nI n - 1 - nI x = nI (n - 1 - x) := by
    rw [show (1 : Int32) = nI 1 from rfl, pk_sub (by omega), pk_sub (by omega)]
  have h2 : (n - 1 - x) ^^^ 30 < 2 ^ 30 := Nat.xor_lt_two_pow (by omega) (by decide)
  unfold sX3_rowOf sX3_rowOf_0 sX3_rowOf_13 sJ9_floorMod_7cf53 sJ9_floorMod_7cf53_0 sJ9_floorMod_7cf53_18
  rw [h, h1, show (30 : Int32) = nI 30 from rfl, nx_xor, if_pos (show nzk (nI 30) = true by decide), if_pos (nI_pos' (by omega)), Option.bind_some, pk_rem (by omega) (by decide) (by decide)]
theorem t_comp {σ : TS} {n x : Nat} (h : σ 11 3 = nI n) (hn : n < 2 ^ 30) (hx : x < n) : sX3_computerOf (nI x) σ = some (σ 13 ((n - 1 - x) % 30), σ) := by
  unfold sX3_computerOf sX3_computerOf_0 sX3_computerOf_9
  rw [t_row h hn hx, Option.bind_some, if_pos (vin_nI (Nat.mod_lt _ (by decide)) (by decide)), nI_clamp (Nat.lt_trans (Nat.mod_lt _ (by decide)) (by decide : 30 < 2 ^ 31))]
theorem t_let {σ : TS} {n x : Nat} (h : σ 11 3 = nI n) (hn : n < 2 ^ 30) (hx : x < n) : sX3_letterOf (nI x) σ = some (σ 14 ((n - 1 - x) % 30), σ) := by
  unfold sX3_letterOf sX3_letterOf_0 sX3_letterOf_9
  rw [t_row h hn hx, Option.bind_some, if_pos (vin_nI (Nat.mod_lt _ (by decide)) (by decide)), nI_clamp (Nat.lt_trans (Nat.mod_lt _ (by decide)) (by decide : 30 < 2 ^ 31))]
theorem t_tim {σ : TS} {n x : Nat} (h : σ 11 3 = nI n) (hn : n < 2 ^ 30) (hx : x < n) : sX3_timeOf (nI x) σ = some (σ 12 ((n - 1 - x) % 30), σ) := by
  unfold sX3_timeOf sX3_timeOf_0 sX3_timeOf_9
  rw [t_row h hn hx, Option.bind_some, if_pos (vin_nI (Nat.mod_lt _ (by decide)) (by decide)), nI_clamp (Nat.lt_trans (Nat.mod_lt _ (by decide)) (by decide : 30 < 2 ^ 31))]
theorem t_tells {σ μ : TS} (hR : RelE σ μ) {n c i : Nat} (h : μ 0 43 = nI n) (hn : n < 30) (hc : c < 3) (hi : i < n) (h1 : (μ 37 i).toInt = c) (h2 : μ 38 i ≠ 98) (h3 : ∀ i' : Nat, i < i' → i' < n → (μ 37 i').toInt ≠ c) : sX3_tellsOff (nI c) σ = some (1, σ) := by
  have hT : σ 11 3 = nI n := (rE_get hR tm_total).trans h
  have td : ∀ F (x y : Int32), sX3_tellsOff_7 (F + 1) (nI c) x y σ = (if x ≤ y then some ((0 : Int32), σ) else ((sX3_computerOf y σ).bind (fun z => sX3_tellsOff_17 (sX3_tellsOff_7 F) (nI c) x y z.1 z.2))) := fun _ _ _ => rfl
  have key : ∀ d x F, x + d = n - 1 - i → d < F → sX3_tellsOff_7 F (nI c) (nI n) (nI x) σ = some (1, σ) := by
    intro d
    induction d with
    | zero =>
      intro x F hx hF
      obtain ⟨F', rfl⟩ : ∃ F', F = F' + 1 := ⟨F - 1, by omega⟩
      have hrow : (n - 1 - x) % 30 = i := by
        rw [show n - 1 - x = i by omega]
        exact Nat.mod_eq_of_lt (by omega)
      have e13 : σ 13 i = μ 37 i := rE_get hR (tm_lc i (by omega))
      have e14 : σ 14 i = μ 38 i := rE_get hR (tm_ll i (by omega))
      have hcc : μ 37 i = nI c := i32_eq (by rw [h1, nI_toInt (by omega)])
      rw [td, if_neg (nI_ge (by omega) (by omega)), t_comp hT (by omega) (by omega), Option.bind_some, hrow, e13]
      unfold sX3_tellsOff_17
      rw [if_pos hcc, t_let hT (by omega) (by omega), Option.bind_some, hrow, e14]
      unfold sX3_tellsOff_26 sX3_tellsOff_36
      rw [if_neg h2, if_pos zok1]
    | succ d ih =>
      intro x F hx hF
      obtain ⟨F', rfl⟩ : ∃ F', F = F' + 1 := ⟨F - 1, by omega⟩
      have hrow : (n - 1 - x) % 30 = n - 1 - x := Nat.mod_eq_of_lt (by omega)
      have e13 : σ 13 (n - 1 - x) = μ 37 (n - 1 - x) := rE_get hR (tm_lc _ (by omega))
      have hcc : ¬ μ 37 (n - 1 - x) = nI c := fun g => h3 (n - 1 - x) (by omega) (by omega) (by rw [g, nI_toInt (by omega)])
      rw [td, if_neg (nI_ge (by omega) (by omega)), t_comp hT (by omega) (by omega), Option.bind_some, hrow, e13]
      unfold sX3_tellsOff_17
      rw [if_neg hcc, nI_1]
      exact ih (x + 1) F' (by omega) (by omega)
  have h0 : sX3_tellsOff (nI c) σ = sX3_tellsOff_7 31 (nI c) (if ((30 : Int32)) < (σ 11 3) then ((30 : Int32)) else (σ 11 3)) (nI 0) σ := rfl
  rw [h0, hT, if_neg (show ¬ (30 : Int32) < nI n from nI_nlt (a := 30) (by omega) (by decide))]
  exact key (n - 1 - i) 0 31 (by omega) (by omega)
theorem t_it_def (K : Nat) (a : Int32) (σ : TS) : sX8_isTrue_25 (K + 1) a σ = (if ((3 : Int32)) ≤ a then some ((1 : Int32), σ) else (if vin a 3 = true then (if (σ (15+6*(a.toNatClampNeg)) 6) = 0 then sX8_isTrue_57 (sX8_isTrue_25 K) a σ else (if (σ (15+6*(a.toNatClampNeg)) 4) < ((3 : Int32)) then sX8_isTrue_57 (sX8_isTrue_25 K) a σ else some ((0 : Int32), σ))) else none)) := rfl
theorem tot_R {j : Nat} {σ μ : TS} (hR : Rel j σ μ) (hj : j < 513) : ∃ n : Nat, n ≤ 3 * j ∧ μ 0 43 = nI n ∧ σ 11 3 = nI n := by
  have h4 := hR.2.2.1.2.2.2.1
  obtain ⟨n, hn, he⟩ := i32_nI (n := 3 * j) h4.1 (by omega)
  exact ⟨n, hn, he, (rE_get hR.1 tm_total).trans he⟩
theorem q_isTrue : op_isTrue Rel := by
  intro j σ μ hj hR
  obtain ⟨h1, h2, ⟨m1, m2, m3, m4, m5, m6, m7, m8⟩, h4, h5, h6⟩ := hR
  have hR : Rel j σ μ := ⟨h1, h2, ⟨m1, m2, m3, m4, m5, m6, m7, m8⟩, h4, h5, h6⟩
  obtain ⟨n, hn, hM43, hT43⟩ := tot_R hR (by omega)
  have hon : ∀ c, c < 4 → (σ (15 + 6 * c) 6 = 0 ↔ ¬ μ 10 c = 0) := fun c hc => by
    have t6 : σ (15 + 6 * c) 6 = 1 - μ 10 c := rE_get h1 (tm_off c hc)
    have hb := h2 10 c
    rw [t6]
    rcases i32_z hb.1 hb.2 with h0 | h0
    · rw [h0]
      exact ⟨fun h => absurd h (by decide), fun h => absurd rfl h⟩
    · rw [h0]
      exact ⟨fun _ => by decide, fun _ => by decide⟩
  have hs : ∀ K c, c < 3 → sX8_isTrue_25 (K + 1) (nI c) σ = sX8_isTrue_25 K (nI (c + 1)) σ := fun K c hc => by
    rw [t_it_def, if_neg (show ¬ (3 : Int32) ≤ nI c from nI_ge (b := 3) hc (by decide)), if_pos (vin_nI hc (by decide)), nI_clamp (show c < 2 ^ 31 by omega)]
    have hon' := hon c (by omega)
    unfold sX8_isTrue_57
    rw [if_pos (vin_nI hc (by decide)), nI_clamp (show c < 2 ^ 31 by omega)]
    by_cases h10 : μ 10 c = 0
    · have t4 : σ (15 + 6 * c) 4 = μ 12 c := rE_get h1 (tm_strikes c hc)
      have h3 := m7 c hc h10
      rw [if_neg (fun h => hon'.mp h h10), t4, if_pos (by rw [lt_iff, show (3 : Int32).toInt = 3 by decide]; omega), if_neg (fun h => hon'.mp h h10)]
      unfold sX8_isTrue_92
      rw [nI_1]
    · rw [if_pos (hon'.mpr h10), if_pos (hon'.mpr h10)]
      unfold sX3_wasFull sX3_wasFull_0 sX3_wasFull_14
      rw [hT43]
      by_cases h30 : n < 30
      · obtain ⟨i, hi1, hi2, hi3, hi4⟩ := h6 (by rw [hM43, nI_toInt (by omega)]; omega) c hc h10
        rw [hM43, nI_toInt (by omega)] at hi1 hi4
        rw [if_pos (show nI n < (30 : Int32) from nI_lt (b := 30) h30 (by decide)), if_pos zok0, Option.bind_some]
        unfold sX8_isTrue_76
        rw [if_pos rfl, t_tells h1 hM43 h30 hc (by omega) hi2 hi3 (fun i' g1 g2 => hi4 i' g1 (by omega)), Option.bind_some]
        unfold sX8_isTrue_87 sX8_isTrue_92
        rw [if_neg (show ¬ (1 : Int32) = 0 by decide), nI_1]
      · rw [if_neg (show ¬ nI n < (30 : Int32) from nI_nlt (a := n) (b := 30) (by omega) (by omega)), if_pos zok1, Option.bind_some]
        unfold sX8_isTrue_76 sX8_isTrue_92
        rw [if_neg (show ¬ (1 : Int32) = 0 by decide), nI_1]
  have h23 : sX8_isTrue_23 σ = some (1, σ) := by
    have e0 : sX8_isTrue_23 σ = sX8_isTrue_25 4 (nI 0) σ := rfl
    have e1 : sX8_isTrue_25 1 (nI (2 + 1)) σ = some (1, σ) := if_pos (show (3 : Int32) ≤ nI (2 + 1) by decide)
    rw [e0, hs 3 0 (by decide), hs 2 1 (by decide), hs 1 2 (by decide), e1]
  refine ⟨1, σ, st2 μ 0 0 0, ?_, rfl, rel_thr hR 0⟩
  unfold sX8_isTrue sX8_isTrue_0
  by_cases k14 : σ 0 14 = 0
  · rw [if_pos k14]
    by_cases k15 : σ 0 15 = 0
    · have hf := (h5 k14 k15).1
      have ha : allEq μ = true := by
        unfold allEq
        rw [decide_eq_true (hf 0 (by decide)), decide_eq_true (hf 1 (by decide)), decide_eq_true (hf 2 (by decide)), decide_eq_true (hf 3 (by decide))]
        rfl
      rw [if_pos k15, t_plain h1, Option.bind_some, if_pos ha]
      unfold sX8_isTrue_18
      rw [if_neg (show ¬ (1 : Int32) = 0 by decide), h23]
    · rw [if_neg k15, h23]
  · rw [if_neg k14, h23]

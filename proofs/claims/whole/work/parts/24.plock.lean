/-! ===== one instruction: class and reference stay tied ===== -/
def GC (c : Nat) (σ μ : TS) : Prop := σ (15 + 6 * c) 12 = μ 20 c - 1
theorem onT_12 : ∀ c, c < 4 → onT (15 + 6 * c) 12 = false := by decide +kernel
theorem onT_7 : ∀ c, c < 4 → onT (15 + 6 * c) 7 = false := by decide +kernel
theorem onM_20 : ∀ c, c < 4 → onM 20 c = false := by decide +kernel
theorem onM_11 : ∀ c, c < 4 → onM 11 c = false := by decide +kernel
theorem tr0 (x : Int32) : tr 0 x = x := rfl
theorem mdd_c (c i : Nat) (μ : TS) : mdd c i μ = st2 (st2 μ 7 (18 * c + i) 0) 16 c (μ 16 c + nI (cntb (μ 7 (18 * c + i)))) := by
  unfold mdd
  exact st2_comm _ _ _ (by omega)
theorem rS_dd {S : Nat → Bool} {σ μ : TS} (h : RS S σ μ) {c i : Nat} (hS : S c = true) (hc : c < 4) (hi : i < 18) : RS S (tdd c i σ) (mdd c i μ) := by
  have h7 : σ (18 + 6 * c) i = μ 7 (18 * c + i) := rS_c h hS (tm_fl c hc i hi) hc (by omega)
  have h16 : σ (16 + 6 * c) 2 = μ 16 c := rS_c h hS (tm_mend c hc) hc (by omega)
  rw [mdd_c]
  unfold tdd
  exact rS_up (rS_up h (tm_fl c hc i hi) rfl) (tm_mend c hc) (by rw [h7, h16]; rfl)
theorem rS_eff {S : Nat → Bool} {σ μ : TS} (h : RS S σ μ) {c p t r m : Nat} {K nv : Int32} (hS : S c = true) (hS4 : S 4 = true) (hc : c < 4) (hp : p < 3) (hi : iAt p t K nv r m μ) (h17 : μ 17 3 = 0) : RS S (tEff c r m (6 * p + m) t K nv σ) (mEff c r m (6 * p + m) t K nv μ) := by
  obtain ⟨ht, g1, g2, g3, hr, hn, hn4, hn6⟩ := hi
  have h0 : RS S (st2 σ (15 + 6 * c) 12 (-1)) (st2 μ 20 c 0) := rS_M (rS_T h (onT_12 c hc) _) (onM_20 c hc) _
  have h1 : RS S (st2 (st2 σ (15 + 6 * c) 12 (-1)) (15 + 6 * c) 11 (nI t + 1)) (st2 (st2 μ 20 c 0) 9 c (nI t + 1)) := rS_up h0 (tm_next c hc) rfl
  have e8 : ∀ i, i < 4 → σ (20 + 6 * c) i = μ 8 (4 * c + i) := fun i hi => rS_c h hS (tm_reg c hc i hi) hc (by omega)
  have e6 : ∀ i, i < 18 → σ (17 + 6 * c) i = μ 6 (18 * c + i) := fun i hi => rS_c h hS (tm_wr c hc i hi) hc (by omega)
  have ea : ∀ i, i < 4 → σ (66 + i) 2 = μ 27 i := fun i hi => rS_4 h hS4 (tm_agr i hi) (by omega)
  have es : ∀ x, stkT σ c r x = stk μ c r x := fun x => stk_eq h hS hc hr h17 x
  unfold tEff mEff
  by_cases k97 : K = 97
  · have hm4 : m < 4 := hn4 (Or.inl k97)
    rw [if_pos k97, if_pos k97, es, e8 r hr, e8 m hm4]
    exact rS_up h1 (tm_reg c hc r hr) rfl
  rw [if_neg k97, if_neg k97]
  by_cases k105 : K = 105
  · have hm4 : m < 4 := hn4 (Or.inr (Or.inr (Or.inl k105)))
    rw [if_pos k105, if_pos k105, es, ea m hm4]
    exact rS_up h1 (tm_reg c hc r hr) rfl
  rw [if_neg k105, if_neg k105]
  by_cases k108 : K = 108
  · rw [if_pos k108, if_pos k108, es]
    exact rS_up h1 (tm_reg c hc r hr) rfl
  rw [if_neg k108, if_neg k108]
  by_cases k109 : K = 109
  · have hm6 : m < 6 := hn6 (Or.inl k109)
    rw [if_pos k109, if_pos k109, e8 r hr]
    exact rS_up (rS_up h1 (tm_wr c hc _ (by omega)) rfl) (tm_fl c hc _ (by omega)) rfl
  rw [if_neg k109, if_neg k109]
  by_cases k111 : K = 111
  · rw [if_pos k111, if_pos k111, e8 r hr]
    exact rS_up (rS_M (rS_T h1 (onT_12 c hc) _) (onM_20 c hc) _) (tm_val c hc) rfl
  rw [if_neg k111, if_neg k111]
  by_cases k114 : K = 114
  · have hm6 : m < 6 := hn6 (Or.inr k114)
    rw [if_pos k114, if_pos k114, es, e6 _ (by omega)]
    exact rS_up (rS_up (rS_dd h0 hS hc (by omega)) (tm_next c hc) rfl) (tm_reg c hc r hr) rfl
  rw [if_neg k114, if_neg k114]
  by_cases k115 : K = 115
  · have hm4 : m < 4 := hn4 (Or.inr (Or.inl k115))
    rw [if_pos k115, if_pos k115, es, e8 r hr, e8 m hm4]
    exact rS_up h1 (tm_reg c hc r hr) rfl
  rw [if_neg k115, if_neg k115, e8 r hr]
  by_cases h0 : 0 < μ 8 (4 * c + r)
  · rw [if_pos h0, if_neg (by rw [le_iff]; rw [lt_iff] at h0; omega)]
    exact rS_up h1 (tm_next c hc) rfl
  · rw [if_neg h0, if_pos (by rw [le_iff]; rw [lt_iff] at h0; omega), st2_twice]
    exact h1
theorem gC_eff (σ μ : TS) {c r m row t : Nat} {K nv : Int32} : GC c (tEff c r m row t K nv σ) (mEff c r m row t K nv μ) := by
  have hT : (st2 (st2 σ (15 + 6 * c) 12 (-1)) (15 + 6 * c) 11 (nI t + 1)) (15 + 6 * c) 12 = -1 := by rw [st2_nj _ _ (show (12 : Nat) ≠ 11 by decide), st2_eq]
  have hz : ∀ x : Int32, x = 0 → (-1 : Int32) = x - 1 := fun x h => by rw [h]; rfl
  have hM : (st2 μ 20 c 0) 20 c = 0 := st2_eq _ _ _ _
  unfold GC tEff mEff
  by_cases k97 : K = 97
  · rw [if_pos k97, if_pos k97, st2_ne _ _ _ (show 15 + 6 * c ≠ 20 + 6 * c by omega), hT]
    exact hz _ hM
  rw [if_neg k97, if_neg k97]
  by_cases k105 : K = 105
  · rw [if_pos k105, if_pos k105, st2_ne _ _ _ (show 15 + 6 * c ≠ 20 + 6 * c by omega), hT]
    exact hz _ hM
  rw [if_neg k105, if_neg k105]
  by_cases k108 : K = 108
  · rw [if_pos k108, if_pos k108, st2_ne _ _ _ (show 15 + 6 * c ≠ 20 + 6 * c by omega), hT]
    exact hz _ hM
  rw [if_neg k108, if_neg k108]
  by_cases k109 : K = 109
  · rw [if_pos k109, if_pos k109, st2_ne _ _ _ (show 15 + 6 * c ≠ 18 + 6 * c by omega), st2_ne _ _ _ (show 15 + 6 * c ≠ 17 + 6 * c by omega), hT]
    exact hz _ hM
  rw [if_neg k109, if_neg k109]
  by_cases k111 : K = 111
  · rw [if_pos k111, if_pos k111, st2_nj _ _ (show (12 : Nat) ≠ 13 by decide), st2_eq]
    show nv = (st2 (st2 (st2 μ 20 c 0) 9 c (nI t + 1)) 20 c (nv + 1)) 20 c - 1
    rw [st2_eq, pm1]
  rw [if_neg k111, if_neg k111]
  by_cases k114 : K = 114
  · rw [if_pos k114, if_pos k114, st2_ne _ _ _ (show 15 + 6 * c ≠ 20 + 6 * c by omega), st2_nj _ _ (show (12 : Nat) ≠ 11 by decide)]
    unfold tdd
    rw [st2_ne _ _ _ (show 15 + 6 * c ≠ 16 + 6 * c by omega), st2_ne _ _ _ (show 15 + 6 * c ≠ 18 + 6 * c by omega), st2_eq]
    exact hz _ hM
  rw [if_neg k114, if_neg k114]
  by_cases k115 : K = 115
  · rw [if_pos k115, if_pos k115, st2_ne _ _ _ (show 15 + 6 * c ≠ 20 + 6 * c by omega), hT]
    exact hz _ hM
  rw [if_neg k115, if_neg k115]
  by_cases h0 : 0 < σ (20 + 6 * c) r
  · rw [if_pos h0, st2_nj _ _ (show (12 : Nat) ≠ 11 by decide), hT]
    exact hz _ hM
  · rw [if_neg h0, hT]
    exact hz _ hM
/-- bounds are kept -/
theorem iB_eff {μ : TS} (h : InvB μ) {c p t r m : Nat} {K nv : Int32} (hi : iAt p t K nv r m μ) : InvB (mEff c r m (6 * p + m) t K nv μ) := by
  obtain ⟨ht, g1, g2, g3, hr, hn, hn4, hn6⟩ := hi
  have hb9 : (bd 9).1 ≤ (nI t + 1).toInt ∧ (nI t + 1).toInt ≤ (bd 9).2 := by
    rw [nI_1, nI_toInt (by omega)]
    show (0 : Int) ≤ _ ∧ _ ≤ (10 : Int)
    omega
  have h0 : InvB (st2 μ 20 c 0) := iB_up h ⟨by decide, by decide⟩
  have h1 : InvB (st2 (st2 μ 20 c 0) 9 c (nI t + 1)) := iB_up h0 hb9
  unfold mEff
  by_cases k97 : K = 97
  · rw [if_pos k97]
    exact iB_up h1 (stk_rng _ _ _ _)
  rw [if_neg k97]
  by_cases k105 : K = 105
  · rw [if_pos k105]
    exact iB_up h1 (stk_rng _ _ _ _)
  rw [if_neg k105]
  by_cases k108 : K = 108
  · rw [if_pos k108]
    exact iB_up h1 (stk_rng _ _ _ _)
  rw [if_neg k108]
  by_cases k109 : K = 109
  · rw [if_pos k109]
    exact iB_up (k := 7) (v := 0) (iB_up (k := 6) h1 (h 8 (4 * c + r))) ⟨by decide, by decide⟩
  rw [if_neg k109]
  by_cases k111 : K = 111
  · have hm4 : m < 4 := hn4 (Or.inr (Or.inr (Or.inr k111)))
    obtain ⟨hm, hm10⟩ := hn k108
    have hb20 : (bd 20).1 ≤ (nv + 1).toInt ∧ (nv + 1).toInt ≤ (bd 20).2 := by
      rw [hm, nI_1, nI_toInt (by omega)]
      show (0 : Int) ≤ _ ∧ _ ≤ (4 : Int)
      omega
    rw [if_pos k111]
    exact iB_up (iB_up h1 hb20) (h 8 (4 * c + r))
  rw [if_neg k111]
  by_cases k114 : K = 114
  · rw [if_pos k114]
    unfold mdd
    exact iB_up (k := 8) (iB_up (k := 9) (iB_up (k := 7) (v := 0) (iB_up (k := 16) h0 (i32_any _)) ⟨by decide, by decide⟩) hb9) (stk_rng _ _ _ _)
  rw [if_neg k114]
  by_cases k115 : K = 115
  · rw [if_pos k115]
    exact iB_up h1 (stk_rng _ _ _ _)
  rw [if_neg k115]
  by_cases h0 : μ 8 (4 * c + r) ≤ 0
  · rw [if_pos h0]
    exact iB_up h1 hb9
  · rw [if_neg h0]
    obtain ⟨hm, hm10⟩ := hn k108
    refine iB_up h1 ?_
    rw [hm, nI_toInt (by omega)]
    show (0 : Int) ≤ _ ∧ _ ≤ (10 : Int)
    omega
/-- what an instruction leaves alone -/
theorem tEff_fr {c r m row t : Nat} {K nv : Int32} (σ : TS) {k : Nat} (hk : k < 15 + 6 * c ∨ 20 + 6 * c < k ∨ k = 19 + 6 * c) : tEff c r m row t K nv σ k = σ k := by
  unfold tEff tdd
  repeat' split
  all_goals simp (disch := omega) only [st2_ne]
theorem tEff_j {c r m row t : Nat} {K nv : Int32} (σ : TS) {j : Nat} (hj : j ≠ 11 ∧ j ≠ 12 ∧ j ≠ 13) : tEff c r m row t K nv σ (15 + 6 * c) j = σ (15 + 6 * c) j := by
  unfold tEff tdd
  repeat' split
  all_goals simp (disch := omega) only [st2_ne, st2_nj]
theorem mEff_fr {c r m row t : Nat} {K nv : Int32} (μ : TS) {k : Nat} (hk : k ≠ 6 ∧ k ≠ 7 ∧ k ≠ 8 ∧ k ≠ 9 ∧ k ≠ 16 ∧ k ≠ 20 ∧ k ≠ 21) : mEff c r m row t K nv μ k = μ k := by
  unfold mEff mdd
  repeat' split
  all_goals simp (disch := omega) only [st2_ne]
def ownM (c k j : Nat) : Prop := ((k = 9 ∨ k = 16 ∨ k = 20 ∨ k = 21) ∧ j = c) ∨ ((k = 6 ∨ k = 7) ∧ 18 * c ≤ j ∧ j < 18 * c + 18) ∨ (k = 8 ∧ 4 * c ≤ j ∧ j < 4 * c + 4)
theorem mEff_own {c r m row t : Nat} {K nv : Int32} (μ : TS) {k j : Nat} (hrow : row < 18) (hr : r < 4) (hk : ¬ ownM c k j) : mEff c r m row t K nv μ k j = μ k j := by
  unfold ownM at hk
  unfold mEff mdd
  repeat' split
  all_goals simp (disch := omega) only [st2_off]
theorem mEff_7 {c r m row t : Nat} {K nv : Int32} (μ : TS) {j : Nat} (h : μ 7 j = 0) : mEff c r m row t K nv μ 7 j = 0 := by
  have hz : ∀ i, st2 μ 7 i 0 7 j = 0 := fun i => by
    by_cases hi : j = i
    · rw [hi, st2_eq]
    · rw [st2_nj _ _ hi, h]
  unfold mEff
  by_cases k97 : K = 97
  · rw [if_pos k97]
    exact h
  rw [if_neg k97]
  by_cases k105 : K = 105
  · rw [if_pos k105]
    exact h
  rw [if_neg k105]
  by_cases k108 : K = 108
  · rw [if_pos k108]
    exact h
  rw [if_neg k108]
  by_cases k109 : K = 109
  · rw [if_pos k109]
    exact hz _
  rw [if_neg k109]
  by_cases k111 : K = 111
  · rw [if_pos k111]
    exact h
  rw [if_neg k111]
  by_cases k114 : K = 114
  · rw [if_pos k114]
    exact hz _
  rw [if_neg k114]
  by_cases k115 : K = 115
  · rw [if_pos k115]
    exact h
  rw [if_neg k115]
  exact h

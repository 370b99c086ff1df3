/-! ===== one instruction of one computer ===== -/
def lab (e : tE) : Nat := if 15 ≤ e.1 ∧ e.1 < 39 then (e.1 - 15) / 6 else if e.1 = 10 then 5 else if (39 ≤ e.1 ∧ e.1 ≤ 50) ∨ (66 ≤ e.1 ∧ e.1 ≤ 69) then 4 else 6
/-- the table's ties for the labels of S: 0 to 3 a computer, 4 code and sensors, 5 the plain outputs, 6 what is left -/
def RS (S : Nat → Bool) (σ μ : TS) : Prop := ∀ e ∈ tabL, S (lab e) = true → σ e.1 e.2.1 = tr e.2.2.2.2 (μ e.2.2.1 e.2.2.2.1)
theorem rS_up {S : Nat → Bool} {σ μ : TS} (h : RS S σ μ) {k j k' j' t : Nat} (he : (k, j, k', j', t) ∈ tabL) {v v' : Int32} (hv : v = tr t v') : RS S (st2 σ k j v) (st2 μ k' j' v') := by
  intro f hf hS
  by_cases h1 : f.1 = k ∧ f.2.1 = j
  · have h3 := (tab_inj f hf _ he).1 h1
    subst h3
    show st2 σ k j v k j = tr t (st2 μ k' j' v' k' j')
    rw [st2_eq, st2_eq]
    exact hv
  · have h2 : ¬ (f.2.2.1 = k' ∧ f.2.2.2.1 = j') := fun h2 => h1 (by rw [(tab_inj f hf _ he).2 h2]; exact ⟨rfl, rfl⟩)
    rw [st2_off _ _ h1, st2_off _ _ h2]
    exact h f hf hS
theorem rS_T {S : Nat → Bool} {σ μ : TS} (h : RS S σ μ) {k j : Nat} (hno : onT k j = false) (v : Int32) : RS S (st2 σ k j v) μ := by
  intro f hf hS
  have h1 : ¬ (f.1 = k ∧ f.2.1 = j) := by
    rintro ⟨h2, h3⟩
    have h4 : onT k j = true := List.any_eq_true.mpr ⟨f, hf, by simp [h2, h3]⟩
    rw [hno] at h4
    cases h4
  rw [st2_off _ _ h1]
  exact h f hf hS
theorem rS_M {S : Nat → Bool} {σ μ : TS} (h : RS S σ μ) {k j : Nat} (hno : onM k j = false) (v : Int32) : RS S σ (st2 μ k j v) := by
  intro f hf hS
  have h1 : ¬ (f.2.2.1 = k ∧ f.2.2.2.1 = j) := by
    rintro ⟨h2, h3⟩
    have h4 : onM k j = true := List.any_eq_true.mpr ⟨f, hf, by simp [h2, h3]⟩
    rw [hno] at h4
    cases h4
  rw [st2_off _ _ h1]
  exact h f hf hS
theorem rS_all {σ μ : TS} : RS (fun _ => true) σ μ ↔ RelE σ μ := ⟨fun h e he => h e he rfl, fun h e he _ => h e he⟩
theorem lab_n {c k j k' j' t : Nat} (hc : c < 4) (hk : 15 + 6 * c ≤ k ∧ k < 21 + 6 * c) : lab (k, j, k', j', t) = c := by
  unfold lab
  rw [if_pos (by simp only; omega)]
  simp only
  omega
theorem lab_4 {k j k' j' t : Nat} (hk : (39 ≤ k ∧ k ≤ 50) ∨ (66 ≤ k ∧ k ≤ 69)) : lab (k, j, k', j', t) = 4 := by
  unfold lab
  rw [if_neg (by simp only; omega), if_neg (by simp only; omega), if_pos hk]
theorem rS_c {S : Nat → Bool} {σ μ : TS} (h : RS S σ μ) {c k j k' j' t : Nat} (hS : S c = true) (he : (k, j, k', j', t) ∈ tabL) (hc : c < 4) (hk : 15 + 6 * c ≤ k ∧ k < 21 + 6 * c) : σ k j = tr t (μ k' j') := h _ he (by rw [lab_n hc hk]; exact hS)
theorem rS_4 {S : Nat → Bool} {σ μ : TS} (h : RS S σ μ) {k j k' j' t : Nat} (hS : S 4 = true) (he : (k, j, k', j', t) ∈ tabL) (hk : (39 ≤ k ∧ k ≤ 50) ∨ (66 ≤ k ∧ k ≤ 69)) : σ k j = tr t (μ k' j') := h _ he (by rw [lab_4 hk]; exact hS)
/-! a register that becomes something -/
def stk (μ : TS) (c r : Nat) (x : Int32) : Int32 := (if μ 17 c = nI r + 1 then (if μ 19 c = 0 then x &&& (((1 : Int32) <<< (μ 18 c &&& 31)) ^^^ (-1 : Int32)) else x ||| ((1 : Int32) <<< (μ 18 c &&& 31))) else x).toInt16.toInt32
def stkT (σ : TS) (c r : Nat) (x : Int32) : Int32 := (if nI r = σ (15 + 6 * c) 5 then (if σ (15 + 6 * c) 10 = 0 then x &&& (((1 : Int32) <<< (σ (15 + 6 * c) 9 &&& 31)) ^^^ (-1 : Int32)) else x ||| ((1 : Int32) <<< (σ (15 + 6 * c) 9 &&& 31))) else x).toInt16.toInt32
theorem t_change (σ : TS) (c : Nat) {r : Nat} (hr : r < 4) (x : Int32) : sX1_change c (nI r) x σ = some (0, st2 σ (20 + 6 * c) r (stkT σ c r x)) := by
  unfold sX1_change sX1_change_0 sX1_change_38 sX1_change_39 sX5_round sX5_round_0 sX1_change_48 stkT
  by_cases h1 : nI r = σ (15 + 6 * c) 5
  · by_cases h2 : σ (15 + 6 * c) 10 = 0
    · rw [if_pos h1, if_pos h2, if_pos h1, if_pos h2, Option.bind_some, if_pos (vin_nI hr (by decide)), nI_clamp (by omega)]
    · rw [if_pos h1, if_neg h2, if_pos h1, if_neg h2, Option.bind_some, if_pos (vin_nI hr (by decide)), nI_clamp (by omega)]
  · rw [if_neg h1, if_neg h1, Option.bind_some, if_pos (vin_nI hr (by decide)), nI_clamp (by omega)]
theorem m_set (μ : TS) {c r : Nat} (hc : c < 4) (hr : r < 4) (x : Int32) : sX9_set (nI c) (nI r) x μ = some (0, st2 μ 8 (4 * c + r) (stk μ c r x)) := by
  unfold sX9_set sX9_set_0 sX9_set_49 sX9_set_51 sX9_round sX9_round_0 sX9_set_65 stk
  rw [if_pos (vin_nI hc (by decide)), nI_clamp (show c < 2 ^ 31 by omega), nI_m4, nI_add]
  by_cases h1 : μ 17 c = nI r + 1
  · by_cases h2 : μ 19 c = 0
    · rw [if_pos h1, if_pos h2, if_pos h1, if_pos h2, Option.bind_some, if_pos (vin_nI (show 4 * c + r < 16 by omega) (by decide)), nI_clamp (by omega)]
    · rw [if_pos h1, if_neg h2, if_pos h1, if_neg h2, Option.bind_some, if_pos (vin_nI (show 4 * c + r < 16 by omega) (by decide)), nI_clamp (by omega)]
  · rw [if_neg h1, if_neg h1, Option.bind_some, if_pos (vin_nI (show 4 * c + r < 16 by omega) (by decide)), nI_clamp (by omega)]
theorem stk_rng (μ : TS) (c r : Nat) (x : Int32) : -32768 ≤ (stk μ c r x).toInt ∧ (stk μ c r x).toInt ≤ 32767 := by
  have h := fb_short_rng (if μ 17 c = nI r + 1 then (if μ 19 c = 0 then x &&& (((1 : Int32) <<< (μ 18 c &&& 31)) ^^^ (-1 : Int32)) else x ||| ((1 : Int32) <<< (μ 18 c &&& 31))) else x)
  unfold stk
  omega
theorem nI_ne_m1 {r : Nat} (h : r < 2 ^ 31) : nI r ≠ -1 := fun h1 => by
  have h2 := congrArg Int32.toInt h1
  rw [nI_toInt h, show (-1 : Int32).toInt = -1 by decide] at h2
  omega
theorem stk_eq {S : Nat → Bool} {σ μ : TS} (h : RS S σ μ) {c r : Nat} (hS : S c = true) (hc : c < 4) (hr : r < 4) (hp : μ 17 3 = 0) (x : Int32) : stkT σ c r x = stk μ c r x := by
  have h5 : σ (15 + 6 * c) 5 = μ 17 c - 1 := rS_c h hS (tm_stuck c hc) hc (by omega)
  have hiff : (nI r = σ (15 + 6 * c) 5) ↔ (μ 17 c = nI r + 1) := by
    rw [h5]
    constructor
    · intro h1
      rw [h1, Int32.sub_add_cancel]
    · intro h1
      rw [h1, pm1]
  unfold stkT stk
  by_cases h1 : μ 17 c = nI r + 1
  · rw [if_pos h1, if_pos (hiff.mpr h1)]
    by_cases h3 : c = 3
    · subst h3
      rw [hp] at h1
      exfalso
      rw [show nI r + 1 = nI (r + 1) from nI_1 r] at h1
      exact nI_ne0 (by omega) (by omega) h1.symm
    · have h9 : σ (15 + 6 * c) 9 = μ 18 c := rS_c h hS (tm_sbit c (by omega)) hc (by omega)
      have h10 : σ (15 + 6 * c) 10 = μ 19 c := rS_c h hS (tm_sset c (by omega)) hc (by omega)
      rw [h9, h10]
  · rw [if_neg h1, if_neg (fun h2 => h1 (hiff.mp h2))]
/-! a word that is read -/
def mdd (c i : Nat) (μ : TS) : TS := st2 (st2 μ 16 c (μ 16 c + nI (cntb (μ 7 (18 * c + i))))) 7 (18 * c + i) 0
def tdd (c i : Nat) (σ : TS) : TS := st2 (st2 σ (18 + 6 * c) i 0) (16 + 6 * c) 2 (σ (16 + 6 * c) 2 + nI (cntb (σ (18 + 6 * c) i)))
theorem t_mend_ok {σ : TS} (c : Nat) {i : Nat} (hi : i < 18) (hb : 0 ≤ (σ (18 + 6 * c) i).toInt ∧ (σ (18 + 6 * c) i).toInt ≤ 65535) (hk : cntb (σ (18 + 6 * c) i) ≤ 1) : sX4_mend c (nI i) σ = some (1, tdd c i σ) := by
  unfold sX4_mend sX4_mend_0
  rw [if_pos (vin_nI hi (by decide)), nI_clamp (show i < 2 ^ 31 by omega), cnt_T hb, Option.bind_some]
  unfold sX4_mend_9 tdd
  rw [if_pos (show nI (cntb (σ (18 + 6 * c) i)) ≤ (1 : Int32) from nI_le (b := 1) hk (by decide)), if_pos (vin_nI hi (by decide)), nI_clamp (show i < 2 ^ 31 by omega), st2_ne σ i 0 (show 16 + 6 * c ≠ 18 + 6 * c by omega)]
theorem t_mend_bad {σ : TS} (c : Nat) {i : Nat} (hi : i < 18) (hb : 0 ≤ (σ (18 + 6 * c) i).toInt ∧ (σ (18 + 6 * c) i).toInt ≤ 65535) (hk : ¬ cntb (σ (18 + 6 * c) i) ≤ 1) : sX4_mend c (nI i) σ = some (0, σ) := by
  have h16 := cnt_16 hb
  unfold sX4_mend sX4_mend_0
  rw [if_pos (vin_nI hi (by decide)), nI_clamp (show i < 2 ^ 31 by omega), cnt_T hb, Option.bind_some]
  unfold sX4_mend_9
  rw [if_neg (show ¬ nI (cntb (σ (18 + 6 * c) i)) ≤ (1 : Int32) from nI_ge (a := 1) (by omega) (by omega))]
theorem m_mends_ok {μ : TS} {c i : Nat} (hc : c < 4) (hi : i < 18) (hb : 0 ≤ (μ 7 (18 * c + i)).toInt ∧ (μ 7 (18 * c + i)).toInt ≤ 65535) (hk : cntb (μ 7 (18 * c + i)) ≤ 1) : sX9_mends (nI c) (nI i) μ = some (1, mdd c i μ) := by
  unfold sX9_mends sX9_mends_0
  rw [nI_m18, nI_add, if_pos (vin_nI (show 18 * c + i < 72 by omega) (by decide)), nI_clamp (show 18 * c + i < 2 ^ 31 by omega), cnt_M hb, Option.bind_some]
  unfold sX9_mends_16 sX9_mends_41 sX9_mends_54 sX9_mends_65 mdd
  rcases (show cntb (μ 7 (18 * c + i)) = 0 ∨ cntb (μ 7 (18 * c + i)) = 1 by omega) with h | h
  · have h7 := cnt_0 hb h
    have e1 : st2 μ 16 c (μ 16 c + nI 0) = μ := st2_same (by rw [nI_0, Int32.add_zero])
    simp only [h]
    rw [e1, st2_same h7]
    rfl
  · simp only [h]
    rw [if_pos (show nI 1 = (1 : Int32) from rfl), if_pos (vin_nI hc (by decide)), if_pos (vin_nI (show 18 * c + i < 72 by omega) (by decide)), nI_clamp (show c < 2 ^ 31 by omega), nI_clamp (show 18 * c + i < 2 ^ 31 by omega)]
    rfl
theorem m_mends_bad {μ : TS} {c i : Nat} (hc : c < 4) (hi : i < 18) (hb : 0 ≤ (μ 7 (18 * c + i)).toInt ∧ (μ 7 (18 * c + i)).toInt ≤ 65535) (hk : ¬ cntb (μ 7 (18 * c + i)) ≤ 1) : sX9_mends (nI c) (nI i) μ = (sX9_off (nI c) 109 μ).bind (fun z => some (0, z.2)) := by
  have h16 := cnt_16 hb
  unfold sX9_mends sX9_mends_0
  rw [nI_m18, nI_add, if_pos (vin_nI (show 18 * c + i < 72 by omega) (by decide)), nI_clamp (show 18 * c + i < 2 ^ 31 by omega), cnt_M hb, Option.bind_some]
  unfold sX9_mends_16 sX9_mends_41 sX9_mends_54 sX9_mends_65
  generalize hk2 : cntb (μ 7 (18 * c + i)) = k at *
  have h1 : ¬ nI k = (1 : Int32) := fun h => by
    have := (nI_eq (b := 1) (by omega) (by decide)).mp h
    omega
  simp only
  rw [if_neg h1, if_neg (show ¬ nI k ≤ (1 : Int32) from nI_ge (a := 1) (by omega) (by omega))]
  congr 1
  funext z
  rw [if_pos (show (2 : Int32) ≤ nI k from nI_le (a := 2) (by omega) (by omega)), if_pos zok0]

/-! ===== what the reference keeps inside a frame; shut off, the log ===== -/
def onz (x : Int32) : Int := if x = 0 then 1 else 0
def onc (μ : TS) : Int := onz (μ 10 0) + onz (μ 10 1) + onz (μ 10 2)
theorem onz_rng (x : Int32) : 0 ≤ onz x ∧ onz x ≤ 1 := by
  unfold onz
  split <;> omega
def IC (n N : Nat) (μ : TS) : Prop :=
  (∀ i, okV (μ 1 i) (μ 3 i)) ∧
  (0 ≤ (μ 0 1).toInt ∧ (μ 0 1).toInt ≤ 1000) ∧ (μ 0 2 = 0 ∨ μ 0 2 = 1) ∧ (0 ≤ (μ 0 43).toInt ∧ (μ 0 43).toInt + onc μ ≤ N ∧ N ≤ 2000) ∧
  (∀ c, -(1008 * (n : Int)) ≤ (μ 13 c).toInt ∧ (μ 13 c).toInt ≤ 1008 * n) ∧
  (μ 10 3 = 0 ∧ μ 17 3 = 0 ∧ ∀ i, 54 ≤ i → μ 7 i = 0) ∧
  (∀ c, c < 3 → μ 17 c ≠ 0 → μ 11 c = 0) ∧ InvL μ ∧ InvB μ
/-- strikes of those that are on -/
def SK (μ : TS) : Prop := ∀ c, c < 3 → μ 10 c = 0 → (μ 12 c).toInt ≤ 2
theorem ic_same {n N : Nat} {μ v : TS} (h : IC n N μ) (e0 : v 0 = μ 0) (e1 : v 1 = μ 1) (e3 : v 3 = μ 3) (e10 : v 10 = μ 10) (e11 : v 11 = μ 11) (e13 : v 13 = μ 13) (e17 : v 17 = μ 17) (e37 : v 37 = μ 37) (e38 : v 38 = μ 38) (e7 : ∀ i, 54 ≤ i → v 7 i = 0) (hB : InvB v) : IC n N v := by
  obtain ⟨a1, a2, a3, a4, a5, a6, a7, a8, a9⟩ := h
  unfold IC
  refine ⟨?_, ?_, ?_, ?_, ?_, ⟨?_, ?_, e7⟩, ?_, ?_, hB⟩
  · rw [e1, e3]
    exact a1
  · rw [e0]
    exact a2
  · rw [e0]
    exact a3
  · unfold onc
    rw [e0, e10]
    exact a4
  · rw [e13]
    exact a5
  · rw [e10]
    exact a6.1
  · rw [e17]
    exact a6.2.1
  · rw [e17, e11]
    exact a7
  · unfold InvL
    rw [e0, e10, e37, e38]
    exact a8
theorem it_same {σ μ u v : TS} (h : InvT σ μ) (hu : ∀ k j, tieT k j → u k j = σ k j) (e0 : v 0 = μ 0) (e10 : v 10 = μ 10) (e11 : v 11 = μ 11) (e25 : v 25 = μ 25) (e30 : v 30 = μ 30) (e32 : v 32 = μ 32) : InvT u v := by
  unfold tieT at hu
  obtain ⟨h1, h2, h3, h4⟩ := h
  unfold InvT
  rw [e0, e10, e11, e25, e30, e32]
  refine ⟨fun s hs => ?_, ?_, fun c hc h10 => ?_, fun p hp i hi h32 w hw => ?_⟩
  · rw [hu _ _ (by omega)]
    exact h1 s hs
  · rw [hu _ _ (by omega)]
    exact h2
  · rw [hu _ _ (by omega)]
    exact h3 c hc h10
  · rw [hu _ _ (by omega)]
    exact h4 p hp i hi h32 w hw
/-! the log -/
def logT (c : Nat) (w : Int32) (σ : TS) : TS := st2 (st2 (st2 (st2 σ 12 ((σ 11 3).toNatClampNeg % 30) (σ 0 10)) 13 ((σ 11 3).toNatClampNeg % 30) (nI c)) 14 ((σ 11 3).toNatClampNeg % 30) w) 11 3 (σ 11 3 + 1)
def logM (c : Nat) (w : Int32) (μ : TS) : TS := st2 (st2 (st2 (st2 μ 36 ((μ 0 43).toNatClampNeg % 30) (μ 0 1)) 37 ((μ 0 43).toNatClampNeg % 30) (nI c)) 38 ((μ 0 43).toNatClampNeg % 30) w) 0 43 (μ 0 43 + 1)
theorem t_log {σ : TS} {n : Nat} (c : Nat) {w : Int32} (hw : vp_nar .char w = w) (hn : n < 2 ^ 31) (h : σ 11 3 = nI n) : sX3_append (σ 0 10) (nI c) w σ = some (0, logT c w σ) := by
  have hv : vin (nI (n % 30)) 30 = true := vin_nI (Nat.mod_lt _ (by decide)) (by decide)
  have hc : (nI (n % 30)).toNatClampNeg = n % 30 := nI_clamp (by omega)
  have hi : (σ 11 3).toNatClampNeg % 30 = n % 30 := by rw [h, nI_clamp hn]
  unfold sX3_append sX3_append_0 logT
  rw [h, fm_30 σ hn, Option.bind_some, ← h, hi]
  unfold sX3_append_9
  simp only [hv, hc, hw, eq_self, if_true]
  rfl
theorem m_log {μ : TS} {n : Nat} (c : Nat) (w : Int32) (hn : n < 2 ^ 31) (h : μ 0 43 = nI n) : sX9_logs (nI c) w μ = some (0, logM c w μ) := by
  have hr : ∀ ν : TS, ν 0 43 = nI n → ν 0 43 - ν 0 43 / 30 * 30 = nI (n % 30) := fun ν h => by rw [h, nI_r30 hn]
  have hv : vin (nI (n % 30)) 30 = true := vin_nI (Nat.mod_lt _ (by decide)) (by decide)
  have hc : (nI (n % 30)).toNatClampNeg = n % 30 := nI_clamp (by omega)
  have hi : (μ 0 43).toNatClampNeg % 30 = n % 30 := by rw [h, nI_clamp hn]
  have r1 := hr μ h
  have r2 := hr (st2 μ 36 (n % 30) (μ 0 1)) h
  have r3 := hr (st2 (st2 μ 36 (n % 30) (μ 0 1)) 37 (n % 30) (nI c)) h
  unfold sX9_logs sX9_logs_0 logM
  simp only [r1, hv, hc, hi, eq_self, if_true, r2, r3]
  rfl
def offT (c : Nat) (w : Int32) (σ : TS) : TS := logT c w (st2 (st2 σ (15 + 6 * c) 6 0) (15 + 6 * c) 7 0)
def offM (c : Nat) (w : Int32) (μ : TS) : TS := logM c w (st2 (st2 μ 10 c 1) 11 c 0)
theorem t_off {σ : TS} {n c : Nat} {w : Int32} (hc : c < 3) (hw : vp_nar .char w = w) (hn : n < 2 ^ 31) (h : σ 11 3 = nI n) : sX8_shutOff (nI c) w σ = some (0, offT c w σ) := by
  have h11 : (st2 (st2 σ (15 + 6 * c) 6 0) (15 + 6 * c) 7 0) 11 3 = nI n := by
    rw [st2_ne _ _ _ (show 11 ≠ 15 + 6 * c by omega), st2_ne _ _ _ (show 11 ≠ 15 + 6 * c by omega), h]
  unfold sX8_shutOff sX8_shutOff_0 offT
  rw [if_pos (vin_nI hc (by decide)), nI_clamp (show c < 2 ^ 31 by omega), t_log c hw hn h11]
  rfl
theorem nar1 : vp_nar .boolean 1 = 1 := rfl
theorem nar0 : vp_nar .boolean 0 = 0 := rfl
theorem m_off {μ : TS} {n c : Nat} (w : Int32) (hc : c < 4) (hn : n < 2 ^ 31) (h : μ 0 43 = nI n) : sX9_off (nI c) w μ = some (0, offM c w μ) := by
  unfold sX9_off sX9_off_0 offM
  rw [if_pos (vin_nI hc (by decide)), nI_clamp (show c < 2 ^ 31 by omega), nar1, nar0, m_log (μ := st2 (st2 μ 10 c 1) 11 c 0) c w hn h]
  rfl
theorem tot_nI {n N : Nat} {μ : TS} (h : IC n N μ) : ∃ a : Nat, a < 2 ^ 31 ∧ μ 0 43 = nI a ∧ (a : Int) = (μ 0 43).toInt ∧ (μ 0 43).toNatClampNeg = a := by
  obtain ⟨a1, a2, a3, a4, a5⟩ := h
  have h0 := (onz_rng (μ 10 0)).1
  have h1 := (onz_rng (μ 10 1)).1
  have h2 := (onz_rng (μ 10 2)).1
  have h3 : (μ 0 43).toInt ≤ 2000 := by
    have h5 : onc μ = onz (μ 10 0) + onz (μ 10 1) + onz (μ 10 2) := rfl
    omega
  obtain ⟨a, ha, he⟩ := i32_nI (n := 2000) a4.1 h3
  exact ⟨a, by omega, he, by rw [he, nI_toInt (by omega)], by rw [he, nI_clamp (by omega)]⟩
theorem rS_log {S : Nat → Bool} {σ μ : TS} (h : RS S σ μ) (hS : S 6 = true) (c : Nat) (w : Int32) : RS S (logT c w σ) (logM c w μ) := by
  have h1 : σ 11 3 = μ 0 43 := h _ tm_total (by show S (lab (11, 3, 0, 43, 0)) = true; rw [show lab (11, 3, 0, 43, 0) = 6 from rfl]; exact hS)
  have h2 : σ 0 10 = μ 0 1 := h _ tm_time (by show S (lab (0, 10, 0, 1, 0)) = true; rw [show lab (0, 10, 0, 1, 0) = 6 from rfl]; exact hS)
  unfold logT logM
  rw [h1, h2]
  have hi : (μ 0 43).toNatClampNeg % 30 < 30 := Nat.mod_lt _ (by decide)
  exact rS_up (rS_up (rS_up (rS_up h (tm_lt _ hi) rfl) (tm_lc _ hi) rfl) (tm_ll _ hi) rfl) tm_total rfl
theorem tr31 : (0 : Int32) = tr 3 1 := by decide
theorem rS_off {S : Nat → Bool} {σ μ : TS} (h : RS S σ μ) (hS : S 6 = true) {c : Nat} (hc : c < 3) (w : Int32) : RS S (offT c w σ) (offM c w μ) := by
  have h1 : RS S (st2 σ (15 + 6 * c) 6 0) (st2 μ 10 c 1) := rS_up h (tm_off c (by omega)) tr31
  have h2 : RS S (st2 (st2 σ (15 + 6 * c) 6 0) (15 + 6 * c) 7 0) (st2 (st2 μ 10 c 1) 11 c 0) := rS_M (rS_T h1 (onT_7 c (by omega)) 0) (onM_11 c (by omega)) 0
  exact rS_log h2 hS c w
theorem it_off {σ μ : TS} (h : InvT σ μ) {c : Nat} (hc : c < 3) (w : Int32) : InvT (offT c w σ) (offM c w μ) := by
  have e : ∀ k j, k ≠ 11 → k ≠ 12 → k ≠ 13 → k ≠ 14 → offT c w σ k j = (st2 (st2 σ (15 + 6 * c) 6 0) (15 + 6 * c) 7 0) k j := fun k j h1 h2 h3 h4 => by
    unfold offT logT
    rw [st2_ne _ _ _ h1, st2_ne _ _ _ h4, st2_ne _ _ _ h3, st2_ne _ _ _ h2]
  have e38 : offM c w μ 0 38 = μ 0 38 := by
    unfold offM logM
    rw [st2_nj _ _ (show (38 : Nat) ≠ 43 by decide)]
    rfl
  have e10 : offM c w μ 10 = (st2 μ 10 c 1) 10 := rfl
  have e11 : offM c w μ 11 = (st2 (st2 μ 10 c 1) 11 c 0) 11 := rfl
  obtain ⟨h1, h2, h3, h4⟩ := h
  refine ⟨fun s hs => ?_, ?_, fun d hd h10 => ?_, fun p hp i hi h32 w' hw' => ?_⟩
  · rw [e _ _ (by omega) (by omega) (by omega) (by omega), st2_ne _ _ _ (by omega), st2_ne _ _ _ (by omega)]
    exact h1 s hs
  · rw [e _ _ (by omega) (by omega) (by omega) (by omega), st2_ne _ _ _ (by omega), st2_ne _ _ _ (by omega), e38]
    exact h2
  · rw [e10] at h10
    rw [e _ _ (by omega) (by omega) (by omega) (by omega), e11]
    by_cases hdc : d = c
    · subst hdc
      rw [st2_eq, st2_eq]
    · rw [st2_nj _ _ hdc] at h10 ⊢
      rw [st2_ne _ _ _ (by omega), st2_ne _ _ _ (by omega)]
      exact h3 d hd h10
  · rw [e _ _ (by omega) (by omega) (by omega) (by omega), st2_ne _ _ _ (by omega), st2_ne _ _ _ (by omega)]
    exact h4 p hp i hi h32 w' hw'
/-- the log's latest line of each that z says is off -/
def LL (z : Nat → Int32) (μ : TS) : Prop := (μ 0 43).toInt < 30 → ∀ c, c < 3 → z c ≠ 0 → ∃ i : Nat, (i : Int) < (μ 0 43).toInt ∧ (μ 37 i).toInt = c ∧ μ 38 i ≠ 98 ∧ ∀ i' : Nat, i < i' → (i' : Int) < (μ 0 43).toInt → (μ 37 i').toInt ≠ c
theorem iL_log {μ : TS} {a c : Nat} {w : Int32} {z0 z : Nat → Int32} (h : LL z0 μ) (ha : a < 2 ^ 30) (h43 : μ 0 43 = nI a) (hc : c < 3) (hz : ∀ d, d < 3 → z d ≠ 0 → (d = c ∧ w ≠ 98) ∨ (d ≠ c ∧ z0 d ≠ 0)) : LL z (logM c w μ) := by
  have e43 : (logM c w μ) 0 43 = nI (a + 1) := by
    unfold logM
    rw [st2_eq, h43, nI_1]
  have e37 : (logM c w μ) 37 = (st2 μ 37 (a % 30) (nI c)) 37 := by
    unfold logM
    rw [h43, nI_clamp (by omega)]
    rfl
  have e38 : (logM c w μ) 38 = (st2 μ 38 (a % 30) w) 38 := by
    unfold logM
    rw [h43, nI_clamp (by omega)]
    rfl
  unfold LL
  rw [e43, e37, e38, nI_toInt (by omega)]
  intro hlt d hd hzd
  have hm : a % 30 = a := Nat.mod_eq_of_lt (by omega)
  rw [hm]
  rcases hz d hd hzd with ⟨rfl, hw⟩ | ⟨hne, h10⟩
  · refine ⟨a, by omega, ?_, ?_, fun i' h1 h2 => by omega⟩
    · rw [st2_eq, nI_toInt (by omega)]
    · rw [st2_eq]
      exact hw
  · obtain ⟨i, hi, hi2, hi3, hi4⟩ := h (by rw [h43, nI_toInt (by omega)]; omega) d hd h10
    rw [h43, nI_toInt (by omega)] at hi hi4
    refine ⟨i, by omega, ?_, ?_, fun i' h1 h2 => ?_⟩
    · rw [st2_nj _ _ (by omega)]
      exact hi2
    · rw [st2_nj _ _ (by omega)]
      exact hi3
    · by_cases hia : i' = a
      · subst hia
        rw [st2_eq, nI_toInt (by omega)]
        omega
      · rw [st2_nj _ _ hia]
        exact hi4 i' h1 (by omega)
theorem iB_log {μ : TS} (h : InvB μ) (c : Nat) (w : Int32) : InvB (logM c w μ) := iB_up (k := 0) (iB_up (k := 38) (iB_up (k := 37) (iB_up (k := 36) h (i32_any _)) (i32_any _)) (i32_any _)) (i32_any _)
theorem ic_off {n N : Nat} {μ : TS} (h : IC n N μ) {c : Nat} (hc : c < 3) (h10 : μ 10 c = 0) {w : Int32} (hw : w ≠ 98) : IC n N (offM c w μ) := by
  obtain ⟨a, ha, h43, hav, hcl⟩ := tot_nI h
  obtain ⟨a1, a2, a3, a4, a5, a6, a7, a8, a9⟩ := h
  have e10 : offM c w μ 10 = (st2 μ 10 c 1) 10 := rfl
  have e11 : offM c w μ 11 = (st2 (st2 μ 10 c 1) 11 c 0) 11 := rfl
  have e43 : offM c w μ 0 43 = nI (a + 1) := by
    unfold offM logM
    rw [st2_eq]
    show μ 0 43 + 1 = _
    rw [h43, nI_1]
  have hon : onc (offM c w μ) = onc μ - 1 := by
    unfold onc
    rw [e10]
    rcases (show c = 0 ∨ c = 1 ∨ c = 2 by omega) with rfl | rfl | rfl
    · rw [st2_eq, st2_nj _ _ (show (1 : Nat) ≠ 0 by decide), st2_nj _ _ (show (2 : Nat) ≠ 0 by decide), h10, show onz 1 = 0 from rfl, show onz 0 = 1 from rfl]
      omega
    · rw [st2_eq, st2_nj _ _ (show (0 : Nat) ≠ 1 by decide), st2_nj _ _ (show (2 : Nat) ≠ 1 by decide), h10, show onz 1 = 0 from rfl, show onz 0 = 1 from rfl]
      omega
    · rw [st2_eq, st2_nj _ _ (show (0 : Nat) ≠ 2 by decide), st2_nj _ _ (show (1 : Nat) ≠ 2 by decide), h10, show onz 1 = 0 from rfl, show onz 0 = 1 from rfl]
      omega
  have hab : a < 3000 := by
    have h0 := (onz_rng (μ 10 0)).1
    have h1 := (onz_rng (μ 10 1)).1
    have h2 := (onz_rng (μ 10 2)).1
    have h5 : onc μ = onz (μ 10 0) + onz (μ 10 1) + onz (μ 10 2) := rfl
    omega
  have e01 : offM c w μ 0 1 = μ 0 1 := by
    unfold offM logM
    rw [st2_nj _ _ (show (1 : Nat) ≠ 43 by decide)]
    rfl
  have e02 : offM c w μ 0 2 = μ 0 2 := by
    unfold offM logM
    rw [st2_nj _ _ (show (2 : Nat) ≠ 43 by decide)]
    rfl
  refine ⟨a1, ?_, ?_, ⟨?_, ?_, a4.2.2⟩, a5, ⟨?_, a6.2.1, a6.2.2⟩, fun d hd h17 => ?_, ?_, ?_⟩
  · rw [e01]
    exact a2
  · rw [e02]
    exact a3
  · rw [e43, nI_toInt (by omega)]
    omega
  · rw [e43, nI_toInt (by omega), hon]
    omega
  · rw [e10, st2_nj _ _ (by omega)]
    exact a6.1
  · rw [e11]
    by_cases hdc : d = c
    · subst hdc
      rw [st2_eq]
    · rw [st2_nj _ _ hdc]
      exact a7 d hd h17
  · refine iL_log (μ := st2 (st2 μ 10 c 1) 11 c 0) (a := a) (c := c) (w := w) (z0 := μ 10) (z := (st2 μ 10 c 1) 10) a8 (by omega) h43 hc (fun d hd hzd => ?_)
    by_cases hdc : d = c
    · exact Or.inl ⟨hdc, hw⟩
    · rw [st2_nj _ _ hdc] at hzd
      exact Or.inr ⟨hdc, hzd⟩
  · exact iB_log (iB_up (k := 11) (v := 0) (iB_up (k := 10) (v := 1) a9 ⟨by decide, by decide⟩) ⟨by decide, by decide⟩) c w
theorem sk_off {μ : TS} (h : SK μ) (c : Nat) (w : Int32) : SK (offM c w μ) := by
  intro d hd h10
  have e10 : offM c w μ 10 = (st2 μ 10 c 1) 10 := rfl
  rw [e10] at h10
  by_cases hdc : d = c
  · subst hdc
    rw [st2_eq] at h10
    exact absurd h10 (by decide)
  · rw [st2_nj _ _ hdc] at h10
    exact h d hd h10

/-! ===== one instruction: what it does, told as one state ===== -/
def mEff (c r m row t : Nat) (K nv : Int32) (μ : TS) : TS :=
  if K = 97 then st2 (st2 (st2 μ 20 c 0) 9 c (nI t + 1)) 8 (4 * c + r) (stk μ c r (μ 8 (4 * c + r) + μ 8 (4 * c + m)))
  else if K = 105 then st2 (st2 (st2 μ 20 c 0) 9 c (nI t + 1)) 8 (4 * c + r) (stk μ c r (μ 27 m))
  else if K = 108 then st2 (st2 (st2 μ 20 c 0) 9 c (nI t + 1)) 8 (4 * c + r) (stk μ c r nv)
  else if K = 109 then st2 (st2 (st2 (st2 μ 20 c 0) 9 c (nI t + 1)) 6 (18 * c + row) (μ 8 (4 * c + r))) 7 (18 * c + row) 0
  else if K = 111 then st2 (st2 (st2 (st2 μ 20 c 0) 9 c (nI t + 1)) 20 c (nv + 1)) 21 c (μ 8 (4 * c + r))
  else if K = 114 then st2 (st2 (mdd c row (st2 μ 20 c 0)) 9 c (nI t + 1)) 8 (4 * c + r) (stk μ c r (μ 6 (18 * c + row)))
  else if K = 115 then st2 (st2 (st2 μ 20 c 0) 9 c (nI t + 1)) 8 (4 * c + r) (stk μ c r (μ 8 (4 * c + r) - μ 8 (4 * c + m)))
  else st2 (st2 (st2 μ 20 c 0) 9 c (nI t + 1)) 9 c (if μ 8 (4 * c + r) ≤ 0 then nI t + 1 else nv)
def tEff (c r m row t : Nat) (K nv : Int32) (σ : TS) : TS :=
  if K = 97 then st2 (st2 (st2 σ (15 + 6 * c) 12 (-1)) (15 + 6 * c) 11 (nI t + 1)) (20 + 6 * c) r (stkT σ c r (σ (20 + 6 * c) r + σ (20 + 6 * c) m))
  else if K = 105 then st2 (st2 (st2 σ (15 + 6 * c) 12 (-1)) (15 + 6 * c) 11 (nI t + 1)) (20 + 6 * c) r (stkT σ c r (σ (66 + m) 2))
  else if K = 108 then st2 (st2 (st2 σ (15 + 6 * c) 12 (-1)) (15 + 6 * c) 11 (nI t + 1)) (20 + 6 * c) r (stkT σ c r nv)
  else if K = 109 then st2 (st2 (st2 (st2 σ (15 + 6 * c) 12 (-1)) (15 + 6 * c) 11 (nI t + 1)) (17 + 6 * c) row (σ (20 + 6 * c) r)) (18 + 6 * c) row 0
  else if K = 111 then st2 (st2 (st2 (st2 σ (15 + 6 * c) 12 (-1)) (15 + 6 * c) 11 (nI t + 1)) (15 + 6 * c) 12 nv) (15 + 6 * c) 13 (σ (20 + 6 * c) r)
  else if K = 114 then st2 (st2 (tdd c row (st2 σ (15 + 6 * c) 12 (-1))) (15 + 6 * c) 11 (nI t + 1)) (20 + 6 * c) r (stkT σ c r (σ (17 + 6 * c) row))
  else if K = 115 then st2 (st2 (st2 σ (15 + 6 * c) 12 (-1)) (15 + 6 * c) 11 (nI t + 1)) (20 + 6 * c) r (stkT σ c r (σ (20 + 6 * c) r - σ (20 + 6 * c) m))
  else if 0 < σ (20 + 6 * c) r then st2 (st2 (st2 σ (15 + 6 * c) 12 (-1)) (15 + 6 * c) 11 (nI t + 1)) (15 + 6 * c) 11 nv
  else st2 (st2 σ (15 + 6 * c) 12 (-1)) (15 + 6 * c) 11 (nI t + 1)
theorem stkT_12 (σ : TS) (c r : Nat) (x v : Int32) : stkT (st2 σ (15 + 6 * c) 12 v) c r x = stkT σ c r x := by
  unfold stkT
  rw [st2_nj σ v (show (5 : Nat) ≠ 12 by decide), st2_nj σ v (show (9 : Nat) ≠ 12 by decide), st2_nj σ v (show (10 : Nat) ≠ 12 by decide)]
theorem stkT_11 (σ : TS) (c r : Nat) (x v : Int32) : stkT (st2 σ (15 + 6 * c) 11 v) c r x = stkT σ c r x := by
  unfold stkT
  rw [st2_nj σ v (show (5 : Nat) ≠ 11 by decide), st2_nj σ v (show (9 : Nat) ≠ 11 by decide), st2_nj σ v (show (10 : Nat) ≠ 11 by decide)]
theorem stkT_dd (σ : TS) (c r i : Nat) (x : Int32) : stkT (tdd c i σ) c r x = stkT σ c r x := by
  unfold stkT tdd
  rw [st2_ne _ _ _ (show 15 + 6 * c ≠ 16 + 6 * c by omega), st2_ne _ _ _ (show 15 + 6 * c ≠ 18 + 6 * c by omega)]
/-- what the instruction is, where it lies -/
def iAt (p t : Nat) (K nv : Int32) (r m : Nat) (μ : TS) : Prop := t < 10 ∧ μ 1 (10 * p + t) = K ∧ μ 2 (10 * p + t) = nI r ∧ μ 3 (10 * p + t) = nv ∧ r < 4 ∧ (K ≠ 108 → nv = nI m ∧ m < 10) ∧ (K = 97 ∨ K = 115 ∨ K = 105 ∨ K = 111 → m < 4) ∧ (K = 109 ∨ K = 114 → m < 6)
def iAtT (p t : Nat) (K nv : Int32) (r m : Nat) (σ : TS) : Prop := t < 10 ∧ σ (40 + 4 * p) t = K ∧ σ (41 + 4 * p) t = nI r ∧ σ (42 + 4 * p) t = nv ∧ r < 4 ∧ (K ≠ 108 → nv = nI m ∧ m < 10) ∧ (K = 97 ∨ K = 115 ∨ K = 105 ∨ K = 111 → m < 4) ∧ (K = 109 ∨ K = 114 → m < 6)
set_option maxHeartbeats 2000000 in
theorem m_89 {μ : TS} {c p t r m : Nat} {K nv : Int32} (hc : c < 4) (hp : p < 3) (hi : iAt p t K nv r m μ) (h9 : μ 9 c = nI t) (hK : K ≠ 114) : sX9_does_89 (nI c) (nI (10 * p + t)) (nI r) nv (nI (6 * p) + nv) (μ 8 (4 * c + r)) (st2 μ 20 c 0) = some (0, mEff c r m (6 * p + m) t K nv μ) := by
  obtain ⟨ht, h1, h2, h3, hr, hn, hn4, hn6⟩ := hi
  have hs : ∀ x, stk (st2 (st2 μ 20 c 0) 9 c (nI t + 1)) c r x = stk μ c r x := fun x => rfl
  have hvc : vin (nI c) 4 = true := vin_nI hc (by decide)
  have hvi : vin (nI (10 * p + t)) 30 = true := vin_nI (by omega) (by decide)
  have hcc : (nI c).toNatClampNeg = c := nI_clamp (by omega)
  have hci : (nI (10 * p + t)).toNatClampNeg = 10 * p + t := nI_clamp (by omega)
  have e9 : (st2 μ 20 c 0) 9 c = nI t := h9
  have e1 : (st2 (st2 μ 20 c 0) 9 c (nI t + 1)) 1 (10 * p + t) = K := h1
  unfold sX9_does_89 mEff
  simp only [hvc, hvi, hcc, hci, e9, e1, eq_self, if_true]
  by_cases k97 : K = 97
  · rw [if_pos k97, if_pos k97]
    obtain ⟨hm, hm10⟩ := hn (by rw [k97]; decide)
    have hm4 : m < 4 := hn4 (by rw [k97]; decide)
    have e8 : (st2 (st2 μ 20 c 0) 9 c (nI t + 1)) 8 (4 * c + m) = μ 8 (4 * c + m) := rfl
    rw [hm, nI_m4, nI_add, if_pos (vin_nI (show 4 * c + m < 16 by omega) (by decide)), nI_clamp (show 4 * c + m < 2 ^ 31 by omega), m_set _ hc hr, hs, e8]
    rfl
  rw [if_neg k97, if_neg k97]
  by_cases k105 : K = 105
  · rw [if_pos k105, if_pos k105]
    obtain ⟨hm, hm10⟩ := hn (by rw [k105]; decide)
    have hm4 : m < 4 := hn4 (by rw [k105]; decide)
    have e8 : (st2 (st2 μ 20 c 0) 9 c (nI t + 1)) 27 m = μ 27 m := rfl
    rw [hm, if_pos (vin_nI hm4 (by decide)), nI_clamp (show m < 2 ^ 31 by omega), m_set _ hc hr, hs, e8]
    rfl
  rw [if_neg k105, if_neg k105]
  by_cases k108 : K = 108
  · rw [if_pos k108, if_pos k108]
    rw [m_set _ hc hr, hs]
    rfl
  rw [if_neg k108, if_neg k108]
  by_cases k109 : K = 109
  · rw [if_pos k109, if_pos k109]
    obtain ⟨hm, hm10⟩ := hn (by rw [k109]; decide)
    have hm6 : m < 6 := hn6 (by rw [k109]; decide)
    rw [hm, nI_m18, nI_add, nI_add, if_pos (vin_nI (show 18 * c + (6 * p + m) < 72 by omega) (by decide)), nI_clamp (show 18 * c + (6 * p + m) < 2 ^ 31 by omega)]
    rfl
  rw [if_neg k109, if_neg k109]
  by_cases k111 : K = 111
  · rw [if_pos k111, if_pos k111]
    rfl
  rw [if_neg k111, if_neg k111]
  rw [if_neg hK, if_neg hK]
  by_cases k115 : K = 115
  · rw [if_pos k115, if_pos k115]
    obtain ⟨hm, hm10⟩ := hn (by rw [k115]; decide)
    have hm4 : m < 4 := hn4 (by rw [k115]; decide)
    have e8 : (st2 (st2 μ 20 c 0) 9 c (nI t + 1)) 8 (4 * c + m) = μ 8 (4 * c + m) := rfl
    rw [hm, nI_m4, nI_add, if_pos (vin_nI (show 4 * c + m < 16 by omega) (by decide)), nI_clamp (show 4 * c + m < 2 ^ 31 by omega), m_set _ hc hr, hs, e8]
    rfl
  rw [if_neg k115, if_neg k115]
  obtain ⟨hm, hm10⟩ := hn (by assumption)
  unfold sX9_does_367 sX9_does_368
  have e9' : (st2 (st2 μ 20 c 0) 9 c (nI t + 1)) 9 c = nI t + 1 := st2_eq _ _ _ _
  by_cases h0 : μ 8 (4 * c + r) ≤ 0
  · rw [if_pos h0, if_pos h0, if_pos hvc, hcc, e9']
  · rw [if_neg h0, if_neg h0, if_pos hvc, hcc]
set_option maxHeartbeats 2000000 in
theorem m_89r {μ : TS} {c p t r m : Nat} {K nv : Int32} (hc : c < 4) (hp : p < 3) (hi : iAt p t K nv r m μ) (h9 : μ 9 c = nI t) (hK : K = 114) : sX9_does_89 (nI c) (nI (10 * p + t)) (nI r) nv (nI (6 * p) + nv) (μ 8 (4 * c + r)) (mdd c (6 * p + m) (st2 μ 20 c 0)) = some (0, mEff c r m (6 * p + m) t K nv μ) := by
  obtain ⟨ht, h1, h2, h3, hr, hn, hn4, hn6⟩ := hi
  obtain ⟨hm, hm10⟩ := hn (by rw [hK]; decide)
  have hm6 : m < 6 := hn6 (by rw [hK]; decide)
  have hs : ∀ x, stk (st2 (mdd c (6 * p + m) (st2 μ 20 c 0)) 9 c (nI t + 1)) c r x = stk μ c r x := fun x => rfl
  have hvc : vin (nI c) 4 = true := vin_nI hc (by decide)
  have hvi : vin (nI (10 * p + t)) 30 = true := vin_nI (by omega) (by decide)
  have hcc : (nI c).toNatClampNeg = c := nI_clamp (by omega)
  have hci : (nI (10 * p + t)).toNatClampNeg = 10 * p + t := nI_clamp (by omega)
  have e9 : (mdd c (6 * p + m) (st2 μ 20 c 0)) 9 c = nI t := h9
  have e1 : (st2 (mdd c (6 * p + m) (st2 μ 20 c 0)) 9 c (nI t + 1)) 1 (10 * p + t) = K := h1
  have e6 : (st2 (mdd c (6 * p + m) (st2 μ 20 c 0)) 9 c (nI t + 1)) 6 (18 * c + (6 * p + m)) = μ 6 (18 * c + (6 * p + m)) := rfl
  unfold sX9_does_89 mEff
  simp only [hvc, hvi, hcc, hci, e9, e1, eq_self, if_true]
  subst hK
  rw [if_neg (show ¬ (114 : Int32) = 97 by decide), if_neg (show ¬ (114 : Int32) = 97 by decide), if_neg (show ¬ (114 : Int32) = 105 by decide), if_neg (show ¬ (114 : Int32) = 105 by decide), if_neg (show ¬ (114 : Int32) = 108 by decide), if_neg (show ¬ (114 : Int32) = 108 by decide), if_neg (show ¬ (114 : Int32) = 109 by decide), if_neg (show ¬ (114 : Int32) = 109 by decide), if_neg (show ¬ (114 : Int32) = 111 by decide), if_neg (show ¬ (114 : Int32) = 111 by decide), if_pos (show (114 : Int32) = 114 from rfl), if_pos (show (114 : Int32) = 114 from rfl)]
  rw [hm, nI_m18, nI_add, nI_add, if_pos (vin_nI (show 18 * c + (6 * p + m) < 72 by omega) (by decide)), nI_clamp (show 18 * c + (6 * p + m) < 2 ^ 31 by omega), m_set _ hc hr, hs, e6]
  rfl
theorem m_isDone {μ : TS} {c p t s : Nat} (hc : c < 4) (hp : p < 3) (h10 : μ 10 c = 0) (h9 : μ 9 c = nI t) (h4 : μ 4 p = nI s) (ht : t < 2 ^ 31) (hs : s < 2 ^ 31) : sX9_isDone (nI c) (nI p) μ = some (if t < s then 0 else 1, μ) := by
  unfold sX9_isDone sX9_isDone_0
  rw [if_pos (vin_nI hc (by decide)), nI_clamp (show c < 2 ^ 31 by omega), if_pos h10, if_pos (vin_nI hp (by decide)), nI_clamp (show p < 2 ^ 31 by omega), h9, h4]
  by_cases h : t < s
  · rw [if_pos (nI_lt h hs), if_pos h]
    rfl
  · rw [if_neg (nI_nlt (by omega) ht), if_neg h]
    rfl
theorem m_isOff {μ : TS} {c : Nat} (x : Int32) (hc : c < 4) (h10 : ¬ μ 10 c = 0) : sX9_isDone (nI c) x μ = some (1, μ) := by
  unfold sX9_isDone sX9_isDone_0
  rw [if_pos (vin_nI hc (by decide)), nI_clamp (show c < 2 ^ 31 by omega), if_neg h10]
  rfl
/-- off: nothing -/
theorem m_does_off {μ : TS} {c : Nat} (x : Int32) (hc : c < 4) (h10 : ¬ μ 10 c = 0) : sX9_does (nI c) x μ = some (0, st2 μ 20 c 0) := by
  unfold sX9_does sX9_does_0
  rw [if_pos (vin_nI hc (by decide)), nI_clamp (show c < 2 ^ 31 by omega), m_isOff (μ := st2 μ 20 c 0) x hc h10, Option.bind_some]
  unfold sX9_does_13
  rw [if_neg (show ¬ (1 : Int32) = 0 by decide)]
/-- done: nothing -/
theorem m_does_done {μ : TS} {c p t s : Nat} (hc : c < 4) (hp : p < 3) (h10 : μ 10 c = 0) (h9 : μ 9 c = nI t) (h4 : μ 4 p = nI s) (ht : t < 2 ^ 31) (hs : s < 2 ^ 31) (hd : ¬ t < s) : sX9_does (nI c) (nI p) μ = some (0, st2 μ 20 c 0) := by
  unfold sX9_does sX9_does_0
  rw [if_pos (vin_nI hc (by decide)), nI_clamp (show c < 2 ^ 31 by omega), m_isDone (μ := st2 μ 20 c 0) hc hp h10 h9 h4 ht hs, if_neg hd, Option.bind_some]
  unfold sX9_does_13
  rw [if_neg (show ¬ (1 : Int32) = 0 by decide)]
set_option maxHeartbeats 2000000 in
theorem m_does_13 {μ : TS} {c p t r m : Nat} {K nv : Int32} (hc : c < 4) (hp : p < 3) (hi : iAt p t K nv r m μ) (h9 : μ 9 c = nI t) : sX9_does_13 (nI c) (nI p) 0 (st2 μ 20 c 0) = if K = 114 then (sX9_mends (nI c) (nI (6 * p) + nv) (st2 μ 20 c 0)).bind (fun z => sX9_does_85 (nI c) (nI (10 * p + t)) (nI r) nv (nI (6 * p) + nv) (μ 8 (4 * c + r)) z.1 z.2) else sX9_does_89 (nI c) (nI (10 * p + t)) (nI r) nv (nI (6 * p) + nv) (μ 8 (4 * c + r)) (st2 μ 20 c 0) := by
  obtain ⟨ht, h1, h2, h3, hr, hn, hn4, hn6⟩ := hi
  have hvc : vin (nI c) 4 = true := vin_nI hc (by decide)
  have hvi : vin (nI (10 * p + t)) 30 = true := vin_nI (by omega) (by decide)
  have hcc : (nI c).toNatClampNeg = c := nI_clamp (by omega)
  have hci : (nI (10 * p + t)).toNatClampNeg = 10 * p + t := nI_clamp (by omega)
  have hvr : vin (nI (4 * c + r)) 16 = true := vin_nI (by omega) (by decide)
  have hcr : (nI (4 * c + r)).toNatClampNeg = 4 * c + r := nI_clamp (by omega)
  have e9 : (st2 μ 20 c 0) 9 c = nI t := h9
  have e1 : (st2 μ 20 c 0) 1 (10 * p + t) = K := h1
  have e2 : (st2 μ 20 c 0) 2 (10 * p + t) = nI r := h2
  have e3 : (st2 μ 20 c 0) 3 (10 * p + t) = nv := h3
  have e8 : (st2 μ 20 c 0) 8 (4 * c + r) = μ 8 (4 * c + r) := rfl
  unfold sX9_does_13
  simp only [eq_self, hvc, hcc, e9, nI_m10, nI_add, hvi, hci, e2, nI_m4, hvr, hcr, e1, e3, nI_m6, e8, if_true]
/-- it does one -/
theorem m_does_left {μ : TS} {c p t s r m : Nat} {K nv : Int32} (hc : c < 4) (hp : p < 3) (h10 : μ 10 c = 0) (h9 : μ 9 c = nI t) (h4 : μ 4 p = nI s) (hd : t < s) (hs : s < 2 ^ 31) (hi : iAt p t K nv r m μ) (hb : ∀ i, 0 ≤ (μ 7 i).toInt ∧ (μ 7 i).toInt ≤ 65535) (hk : K = 114 → cntb (μ 7 (18 * c + (6 * p + m))) ≤ 1) : sX9_does (nI c) (nI p) μ = some (0, mEff c r m (6 * p + m) t K nv μ) := by
  unfold sX9_does sX9_does_0
  rw [if_pos (vin_nI hc (by decide)), nI_clamp (show c < 2 ^ 31 by omega), m_isDone (μ := st2 μ 20 c 0) hc hp h10 h9 h4 (by omega) hs, if_pos hd, Option.bind_some, m_does_13 hc hp hi h9]
  by_cases hK : K = 114
  · obtain ⟨ht, h1, h2, h3, hr, hn, hn4, hn6⟩ := hi
    obtain ⟨hm, hm10⟩ := hn (by rw [hK]; decide)
    have hm6 : m < 6 := hn6 (by rw [hK]; decide)
    have hi' : iAt p t K nv r m μ := ⟨ht, h1, h2, h3, hr, hn, hn4, hn6⟩
    have h89 := m_89r hc hp hi' h9 hK
    rw [if_pos hK, hm, nI_add, m_mends_ok (μ := st2 μ 20 c 0) hc (by omega) (hb _) (hk hK), Option.bind_some]
    unfold sX9_does_85
    rw [if_neg (show ¬ (1 : Int32) = 0 by decide)]
    rw [hm, nI_add] at h89
    rw [h89]
  · rw [if_neg hK]
    exact m_89 hc hp hi h9 hK
/-- the word has two flips: it is shut off -/
theorem m_does_bad {μ : TS} {c p t s r m : Nat} {K nv : Int32} (hc : c < 4) (hp : p < 3) (h10 : μ 10 c = 0) (h9 : μ 9 c = nI t) (h4 : μ 4 p = nI s) (hd : t < s) (hs : s < 2 ^ 31) (hi : iAt p t K nv r m μ) (hb : ∀ i, 0 ≤ (μ 7 i).toInt ∧ (μ 7 i).toInt ≤ 65535) (hK : K = 114) (hk : ¬ cntb (μ 7 (18 * c + (6 * p + m))) ≤ 1) {v : TS} (hoff : sX9_off (nI c) 109 (st2 μ 20 c 0) = some (0, v)) : sX9_does (nI c) (nI p) μ = some (0, v) := by
  unfold sX9_does sX9_does_0
  rw [if_pos (vin_nI hc (by decide)), nI_clamp (show c < 2 ^ 31 by omega), m_isDone (μ := st2 μ 20 c 0) hc hp h10 h9 h4 (by omega) hs, if_pos hd, Option.bind_some, m_does_13 hc hp hi h9]
  obtain ⟨ht, h1, h2, h3, hr, hn, hn4, hn6⟩ := hi
  obtain ⟨hm, hm10⟩ := hn (by rw [hK]; decide)
  have hm6 : m < 6 := hn6 (by rw [hK]; decide)
  rw [if_pos hK, hm, nI_add, m_mends_bad (μ := st2 μ 20 c 0) hc (by omega) (hb _) hk, hoff]
  rfl
set_option maxHeartbeats 2000000 in
theorem t_carry {σ : TS} {c p t r m : Nat} {K nv : Int32} (hc : c < 4) (hp : p < 3) (hi : iAtT p t K nv r m σ) (hK : K ≠ 114) : sX1_carryOut c p (nI t) (nI (6 * p)) (st2 (st2 σ (15 + 6 * c) 12 (-1)) (15 + 6 * c) 11 (nI t + 1)) = some (0, tEff c r m (6 * p + m) t K nv σ) := by
  obtain ⟨ht, h1, h2, h3, hr, hn, hn4, hn6⟩ := hi
  have hs : ∀ x, stkT (st2 (st2 σ (15 + 6 * c) 12 (-1)) (15 + 6 * c) 11 (nI t + 1)) c r x = stkT σ c r x := fun x => by rw [stkT_11, stkT_12]
  have hvt : vin (nI t) 10 = true := vin_nI ht (by decide)
  have hct : (nI t).toNatClampNeg = t := nI_clamp (by omega)
  have hvr : vin (nI r) 4 = true := vin_nI hr (by decide)
  have hcr : (nI r).toNatClampNeg = r := nI_clamp (by omega)
  have e0 : ∀ k b, k ≠ 15 + 6 * c → (st2 (st2 σ (15 + 6 * c) 12 (-1)) (15 + 6 * c) 11 (nI t + 1)) k b = σ k b := fun k b hk => by rw [st2_ne _ _ _ hk, st2_ne _ _ _ hk]
  have e1 : (st2 (st2 σ (15 + 6 * c) 12 (-1)) (15 + 6 * c) 11 (nI t + 1)) (40 + 4 * p) t = K := (e0 _ _ (by omega)).trans h1
  have e2 : (st2 (st2 σ (15 + 6 * c) 12 (-1)) (15 + 6 * c) 11 (nI t + 1)) (41 + 4 * p) t = nI r := (e0 _ _ (by omega)).trans h2
  have e3 : (st2 (st2 σ (15 + 6 * c) 12 (-1)) (15 + 6 * c) 11 (nI t + 1)) (42 + 4 * p) t = nv := (e0 _ _ (by omega)).trans h3
  have e8 : ∀ i, (st2 (st2 σ (15 + 6 * c) 12 (-1)) (15 + 6 * c) 11 (nI t + 1)) (20 + 6 * c) i = σ (20 + 6 * c) i := fun i => e0 _ _ (by omega)
  unfold sX1_carryOut sX1_carryOut_0 tEff
  simp only [hvt, hct, e1, e2, e3, hvr, hcr, e8, eq_self, if_true]
  by_cases k97 : K = 97
  · rw [if_pos k97, if_pos k97]
    obtain ⟨hm, hm10⟩ := hn (by rw [k97]; decide)
    have hm4 : m < 4 := hn4 (by rw [k97]; decide)
    rw [hm, if_pos (vin_nI hm4 (by decide)), nI_clamp (show m < 2 ^ 31 by omega), t_change _ c hr, hs]
    rfl
  rw [if_neg k97, if_neg k97]
  by_cases k105 : K = 105
  · rw [if_pos k105, if_pos k105]
    obtain ⟨hm, hm10⟩ := hn (by rw [k105]; decide)
    have hm4 : m < 4 := hn4 (by rw [k105]; decide)
    rw [hm, if_pos (vin_nI hm4 (by decide)), nI_clamp (show m < 2 ^ 31 by omega), t_change _ c hr, hs, e0 (66 + m) 2 (by omega)]
    rfl
  rw [if_neg k105, if_neg k105]
  by_cases k108 : K = 108
  · rw [if_pos k108, if_pos k108]
    rw [t_change _ c hr, hs]
    rfl
  rw [if_neg k108, if_neg k108]
  by_cases k109 : K = 109
  · rw [if_pos k109, if_pos k109]
    obtain ⟨hm, hm10⟩ := hn (by rw [k109]; decide)
    have hm6 : m < 6 := hn6 (by rw [k109]; decide)
    unfold sX4_put sX4_put_0
    rw [hm, nI_add, if_pos (vin_nI (show 6 * p + m < 18 by omega) (by decide)), nI_clamp (show 6 * p + m < 2 ^ 31 by omega)]
    rfl
  rw [if_neg k109, if_neg k109]
  by_cases k111 : K = 111
  · rw [if_pos k111, if_pos k111]
    rw [st2_ne _ 12 _ (show 20 + 6 * c ≠ 15 + 6 * c by omega), e8]
    rfl
  rw [if_neg k111, if_neg k111]
  rw [if_neg hK, if_neg hK]
  by_cases k115 : K = 115
  · rw [if_pos k115, if_pos k115]
    obtain ⟨hm, hm10⟩ := hn (by rw [k115]; decide)
    have hm4 : m < 4 := hn4 (by rw [k115]; decide)
    rw [hm, if_pos (vin_nI hm4 (by decide)), nI_clamp (show m < 2 ^ 31 by omega), t_change _ c hr, hs]
    rfl
  rw [if_neg k115, if_neg k115]
  by_cases h0 : σ (20 + 6 * c) r ≤ 0
  · rw [if_pos h0, if_neg (by rw [lt_iff]; rw [le_iff] at h0; omega)]
    rfl
  · rw [if_neg h0, if_pos (by rw [lt_iff]; rw [le_iff] at h0; omega)]
    rfl
set_option maxHeartbeats 2000000 in
theorem t_carry_r {σ : TS} {c p t r m : Nat} {K nv : Int32} (hc : c < 4) (hp : p < 3) (hi : iAtT p t K nv r m σ) (hK : K = 114) : sX1_carryOut c p (nI t) (nI (6 * p)) (st2 (tdd c (6 * p + m) (st2 σ (15 + 6 * c) 12 (-1))) (15 + 6 * c) 11 (nI t + 1)) = some (0, tEff c r m (6 * p + m) t K nv σ) := by
  obtain ⟨ht, h1, h2, h3, hr, hn, hn4, hn6⟩ := hi
  obtain ⟨hm, hm10⟩ := hn (by rw [hK]; decide)
  have hm6 : m < 6 := hn6 (by rw [hK]; decide)
  have hs : ∀ x, stkT (st2 (tdd c (6 * p + m) (st2 σ (15 + 6 * c) 12 (-1))) (15 + 6 * c) 11 (nI t + 1)) c r x = stkT σ c r x := fun x => by rw [stkT_11, stkT_dd, stkT_12]
  have hvt : vin (nI t) 10 = true := vin_nI ht (by decide)
  have hct : (nI t).toNatClampNeg = t := nI_clamp (by omega)
  have e0 : ∀ k b, k ≠ 15 + 6 * c → k ≠ 16 + 6 * c → k ≠ 18 + 6 * c → (st2 (tdd c (6 * p + m) (st2 σ (15 + 6 * c) 12 (-1))) (15 + 6 * c) 11 (nI t + 1)) k b = σ k b := fun k b hk hk2 hk3 => by
    unfold tdd
    rw [st2_ne _ _ _ hk, st2_ne _ _ _ hk2, st2_ne _ _ _ hk3, st2_ne _ _ _ hk]
  have e1 := (e0 (40 + 4 * p) t (by omega) (by omega) (by omega)).trans h1
  have e2 := (e0 (41 + 4 * p) t (by omega) (by omega) (by omega)).trans h2
  have e3 := (e0 (42 + 4 * p) t (by omega) (by omega) (by omega)).trans h3
  have e6 := e0 (17 + 6 * c) (6 * p + m) (by omega) (by omega) (by omega)
  unfold sX1_carryOut sX1_carryOut_0 tEff
  simp only [hvt, hct, e1, e2, e3, eq_self, if_true]
  subst hK
  rw [if_neg (show ¬ (114 : Int32) = 97 by decide), if_neg (show ¬ (114 : Int32) = 97 by decide), if_neg (show ¬ (114 : Int32) = 105 by decide), if_neg (show ¬ (114 : Int32) = 105 by decide), if_neg (show ¬ (114 : Int32) = 108 by decide), if_neg (show ¬ (114 : Int32) = 108 by decide), if_neg (show ¬ (114 : Int32) = 109 by decide), if_neg (show ¬ (114 : Int32) = 109 by decide), if_neg (show ¬ (114 : Int32) = 111 by decide), if_neg (show ¬ (114 : Int32) = 111 by decide), if_pos (show (114 : Int32) = 114 from rfl), if_pos (show (114 : Int32) = 114 from rfl)]
  unfold sX4_unflipped sX4_unflipped_0
  rw [hm, nI_add, if_pos (vin_nI (show 6 * p + m < 18 by omega) (by decide)), nI_clamp (show 6 * p + m < 2 ^ 31 by omega), e6, Option.bind_some]
  unfold sX1_carryOut_206
  rw [t_change _ c hr, hs]
  rfl
theorem t_hasLeft {σ : TS} {c p t s : Nat} (h11 : σ (15 + 6 * c) 11 = nI t) (h3 : σ (39 + 4 * p) 3 = nI s) (ht : t < 2 ^ 31) (hs : s < 2 ^ 31) : sX1_hasLeft c p σ = some (if t < s then 1 else 0, σ) := by
  unfold sX1_hasLeft sX1_hasLeft_0
  rw [h11, h3]
  by_cases h : t < s
  · rw [if_neg (nI_ge h hs), if_pos h]
    rfl
  · rw [if_pos (nI_le (by omega) ht), if_neg h]
    rfl
theorem t_done {σ : TS} {c p t s : Nat} (hc : c < 4) (hp : p < 3) (h11 : σ (15 + 6 * c) 11 = nI t) (h3 : σ (39 + 4 * p) 3 = nI s) (ht : t < 2 ^ 31) (hs : s < 2 ^ 31) (hd : ¬ t < s) (x : Int32) : sX1_doNext c p x σ = some (1, st2 σ (15 + 6 * c) 12 (-1)) := by
  unfold sX1_doNext sX1_doNext_0
  rw [t_hasLeft (t := t) (s := s) ((st2_nj σ _ (by decide)).trans h11) ((congrFun (st2_ne σ _ _ (by omega)) _).trans h3) ht hs, if_neg hd, Option.bind_some]
  rfl
set_option maxHeartbeats 2000000 in
theorem t_left {σ : TS} {c p t s r m : Nat} {K nv : Int32} (hc : c < 4) (hp : p < 3) (h11 : σ (15 + 6 * c) 11 = nI t) (h3 : σ (39 + 4 * p) 3 = nI s) (hd : t < s) (hs : s < 2 ^ 31) (hi : iAtT p t K nv r m σ) (hb : ∀ i, i < 18 → 0 ≤ (σ (18 + 6 * c) i).toInt ∧ (σ (18 + 6 * c) i).toInt ≤ 65535) (hk : K = 114 → cntb (σ (18 + 6 * c) (6 * p + m)) ≤ 1) : sX1_doNext c p (nI (6 * p)) σ = some (1, tEff c r m (6 * p + m) t K nv σ) := by
  have hi2 := hi
  obtain ⟨ht, h1, h2, h3', hr, hn, hn4, hn6⟩ := hi
  have hvt : vin (nI t) 10 = true := vin_nI ht (by decide)
  have hct : (nI t).toNatClampNeg = t := nI_clamp (by omega)
  have g11 : (st2 σ (15 + 6 * c) 12 (-1)) (15 + 6 * c) 11 = nI t := (st2_nj σ _ (by decide)).trans h11
  have g1 : (st2 σ (15 + 6 * c) 12 (-1)) (40 + 4 * p) t = K := (congrFun (st2_ne σ _ _ (by omega)) _).trans h1
  have g3 : (st2 σ (15 + 6 * c) 12 (-1)) (42 + 4 * p) t = nv := (congrFun (st2_ne σ _ _ (by omega)) _).trans h3'
  unfold sX1_doNext sX1_doNext_0
  rw [t_hasLeft (t := t) (s := s) g11 ((congrFun (st2_ne σ _ _ (by omega)) _).trans h3) (by omega) hs, if_pos hd, Option.bind_some]
  unfold sX1_doNext_10
  simp only [e10, if_false, g11, hvt, hct, g1, g3, eq_self, if_true]
  by_cases hK : K = 114
  · obtain ⟨hm, hm10⟩ := hn (by rw [hK]; decide)
    have hm6 : m < 6 := hn6 (by rw [hK]; decide)
    have h18 : (st2 σ (15 + 6 * c) 12 (-1)) (18 + 6 * c) (6 * p + m) = σ (18 + 6 * c) (6 * p + m) := congrFun (st2_ne σ _ _ (by omega)) _
    rw [if_pos hK, hm, nI_add, t_mend_ok c (by omega) (by rw [h18]; exact hb _ (by omega)) (by rw [h18]; exact hk hK), Option.bind_some]
    unfold sX1_doNext_49 sX1_doNext_54
    rw [if_neg (show ¬ (1 : Int32) = 0 by decide), t_carry_r hc hp hi2 hK, hm]
    rfl
  · rw [if_neg hK]
    unfold sX1_doNext_54
    rw [t_carry hc hp hi2 hK]
    rfl
theorem t_bad {σ : TS} {c p t s r m : Nat} {K nv : Int32} (hc : c < 4) (hp : p < 3) (h11 : σ (15 + 6 * c) 11 = nI t) (h3 : σ (39 + 4 * p) 3 = nI s) (hd : t < s) (hs : s < 2 ^ 31) (hi : iAtT p t K nv r m σ) (hb : ∀ i, i < 18 → 0 ≤ (σ (18 + 6 * c) i).toInt ∧ (σ (18 + 6 * c) i).toInt ≤ 65535) (hK : K = 114) (hk : ¬ cntb (σ (18 + 6 * c) (6 * p + m)) ≤ 1) : sX1_doNext c p (nI (6 * p)) σ = some (0, st2 σ (15 + 6 * c) 12 (-1)) := by
  obtain ⟨ht, h1, h2, h3', hr, hn, hn4, hn6⟩ := hi
  have hvt : vin (nI t) 10 = true := vin_nI ht (by decide)
  have hct : (nI t).toNatClampNeg = t := nI_clamp (by omega)
  have g11 : (st2 σ (15 + 6 * c) 12 (-1)) (15 + 6 * c) 11 = nI t := (st2_nj σ _ (by decide)).trans h11
  have g1 : (st2 σ (15 + 6 * c) 12 (-1)) (40 + 4 * p) t = K := (congrFun (st2_ne σ _ _ (by omega)) _).trans h1
  have g3 : (st2 σ (15 + 6 * c) 12 (-1)) (42 + 4 * p) t = nv := (congrFun (st2_ne σ _ _ (by omega)) _).trans h3'
  unfold sX1_doNext sX1_doNext_0
  rw [t_hasLeft (t := t) (s := s) g11 ((congrFun (st2_ne σ _ _ (by omega)) _).trans h3) (by omega) hs, if_pos hd, Option.bind_some]
  unfold sX1_doNext_10
  simp only [e10, if_false, g11, hvt, hct, g1, g3, eq_self, if_true]
  obtain ⟨hm, hm10⟩ := hn (by rw [hK]; decide)
  have hm6 : m < 6 := hn6 (by rw [hK]; decide)
  have h18 : (st2 σ (15 + 6 * c) 12 (-1)) (18 + 6 * c) (6 * p + m) = σ (18 + 6 * c) (6 * p + m) := congrFun (st2_ne σ _ _ (by omega)) _
  rw [if_pos hK, hm, nI_add, t_mend_bad c (by omega) (by rw [h18]; exact hb _ (by omega)) (by rw [h18]; exact hk)]
  rfl
